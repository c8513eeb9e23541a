section OPS3
variable {X M X' M' : um_M} {n : Nat} {tr : Nat → Nat → Nat} {c : Nat} {cm : Nat → Nat → Int32} {v : Nat} {x : Int32} {nn : Nat → Nat} {k : Nat} {o : Option Bq}
theorem oM (h : RMt M n tr) {t : Nat} (ht : t < n) {y : Int32} (hy : vst y) : s_Mo_isOpen (M 1 t) (M 2 t) (M 4 t) (cvI y) = s_Tr_isOpenIn (gX tr t) y := by
  obtain ⟨hok, d1, d2, d3, d4⟩ := h.2.2 t ht
  rw [d1, d2, d4]; exact S_open hok hy
theorem lM (h : RMt M n tr) {t : Nat} (ht : t < n) {y : Int32} (hy : vst y) (ho : opn tr t y = true) : s_Mo_leads (M 4 t) (M 1 t) (M 3 t) (cvI y) = cvI (led tr t y) ∧ vst (led tr t y) := by
  obtain ⟨hok, d1, d2, d3, d4⟩ := h.2.2 t ht
  rw [d1, d3, d4]; exact S_lead hok hy ho
theorem mOC_eq (h : RMt M n tr) {y : Int32} (hy : vst y) : mOC M n (cvI y) = cnt (fun t => opn tr t y) n := cnt_congr (fun t ht => by rw [oM h ht hy]; rfl)
theorem cnt_ext {p : Nat → Bool} {m : Nat} (h : n ≤ m) : cnt (fun t => decide (t < n) && p t) m = cnt p n := by
  induction m with
  | zero => have : n = 0 := by omega
            subst this; rfl
  | succ m ih =>
    by_cases z : n = m + 1
    · subst z; exact cnt_congr (fun j hj => by rw [dt hj]; rfl)
    · rw [cnt_f (p := fun t => decide (t < n) && p t) (by rw [df (by omega : ¬ m < n)]; rfl)]; exact ih (by omega)
theorem ocn_eq {q : Bq} {s : Nat} (hn : n ≤ 24) (hs : s < q.1) : ocn n tr q s (q.1 * 24) = cnt (fun t => opn tr t (q.2.1 s)) n := by
  unfold ocn
  rw [← cnt_ext (p := fun t => opn tr t (q.2.1 s)) hn]
  exact cnt_congr (fun t ht => by rw [dt (by omega : s * 24 + t < q.1 * 24)]; rfl)
theorem okq_of {q : Bq} (h : RXp X n tr q (q.1 * 24)) (hn : n ≤ 24) : okq n tr q := by
  intro s hs t ht ho
  obtain ⟨d1, d2⟩ := dm (s := s) (t := t) (by omega)
  have := h.2.1 (s * 24 + t) (by omega)
  rw [d1, d2] at this
  exact this ht ho
theorem far_le {q : Bq} (hw : bwf n q) : ∀ s, s < q.1 → q.2.2.2.2 s ≤ s := by
  intro s
  induction s using Nat.strongRecOn with
  | ind s ih =>
    intro hs
    rcases Nat.eq_zero_or_pos s with z | z
    · subst z; rw [hw.2.2.2.2.1]; exact Nat.le_refl _
    · obtain ⟨a, b, d⟩ := hw.2.2.2.2.2 s z hs
      have := ih _ a (by omega)
      omega
theorem way_in {q : Bq} (hw : bwf n q) {s : Nat} (hs : s < q.1) : ∀ j, j < q.2.2.2.2 s → 0 < itr q.2.2.1 j s ∧ itr q.2.2.1 j s < q.1 ∧ q.2.2.2.2 (itr q.2.2.1 j s) = q.2.2.2.2 s - j := by
  intro j
  induction j with
  | zero =>
    intro h
    refine ⟨?_, hs, rfl⟩
    show 0 < s
    rcases Nat.eq_zero_or_pos s with z | z
    · subst z; rw [hw.2.2.2.2.1] at h; exact absurd h (Nat.lt_irrefl _)
    · exact z
  | succ j ih =>
    intro h
    obtain ⟨a, b, d⟩ := ih (by omega)
    obtain ⟨e1, e2, e3⟩ := hw.2.2.2.2.2 _ a b
    show 0 < q.2.2.1 (itr q.2.2.1 j s) ∧ q.2.2.1 (itr q.2.2.1 j s) < q.1 ∧ q.2.2.2.2 (q.2.2.1 (itr q.2.2.1 j s)) = _
    refine ⟨?_, by omega, by omega⟩
    rcases Nat.eq_zero_or_pos (q.2.2.1 (itr q.2.2.1 j s)) with z | z
    · rw [z, hw.2.2.2.2.1] at e3; omega
    · exact z
theorem R_bwf (h : Rl X M n tr c cm v x nn k o) {q : Bq} (e : spc n tr (nI v) = some q) : bwf n q := bfs_wf (S_led (fun t ht => (h.1.2.2.2.2 t ht).1)) (S_first h.2.2.1.1).2 300 q e
def ks (o : Option Bq) : Nat := match o with | none => 0 | some q => q.1
theorem R_ks (h : Rl X M n tr c cm v x nn k o) : X 3 9 = nI (ks o) ∧ ks o ≤ 300 := by
  cases o with
  | none => exact ⟨h.2.2.2.2.2.1, Nat.zero_le _⟩
  | some q => exact ⟨h.2.2.2.2.2.2.2.2.1.1, by show q.1 ≤ 300; rw [← h.2.2.2.2.2.2.1]; exact h.2.2.2.2.1.2.1⟩
theorem ex_or {a0 : Int32} {m : Nat} : (∀ s, s < m → a0 ≠ nI s) ∨ ∃ s, s < m ∧ a0 = nI s := by
  by_cases q0 : ∀ s, s < m → a0 ≠ nI s
  · exact Or.inl q0
  · obtain ⟨s, hns⟩ := Classical.not_forall.mp q0
    exact Or.inr ⟨s, Classical.byContradiction (fun y => hns (fun z => absurd z y)), Classical.byContradiction (fun y => hns (fun _ => y))⟩
theorem fl_eq (h : Rl X M n tr c cm v x nn k o) {i : Nat} (hi : i < c) {y : Int32} (hy : vst y) : s_Mo_failsIn (M 5 i) (M 6 i) (M 7 i) (cvI y) = s_Cm_failsIn (X (41 + i)) y := by
  obtain ⟨k1, k2, k3, k4⟩ := h.2.1.2.1.2.2 i hi
  rw [k2, k3, k4, S_fails k1 hy]
  exact (fails_congr (fun j hj => h.2.1.2.2 i hi j hj)).symm
theorem r_fails (h : Rl X M n tr c cm v x nn k o) {a0 r r' : Int32}
    (hX : ((∀ i, i < c → a0 ≠ nI i) → r = -2) ∧ (∀ i, i < c → a0 = nI i → r = (if lst (fun s => decide (¬ s_Cm_failsIn (X (41 + i)) (X 4 s) = 0)) (ks o) < ks o then nI (lst (fun s => decide (¬ s_Cm_failsIn (X (41 + i)) (X 4 s) = 0)) (ks o)) else (-2 : Int32))) ∧ X = X')
    (hM : (M 0 18 = 0 → r' = -2) ∧ ((∀ i, i < c → a0 ≠ nI i) → r' = -2) ∧ (¬ M 0 18 = 0 → ∀ t, t < c → a0 = nI t → r' = (if lst (fun i => decide (¬ s_Mo_failsIn (M 5 t) (M 6 t) (M 7 t) (M 8 i) = 0)) k < k then nI (lst (fun i => decide (¬ s_Mo_failsIn (M 5 t) (M 6 t) (M 7 t) (M 8 i) = 0)) k) else (-2 : Int32))) ∧ M = M') : r = r' := by
  rcases ex_or (a0 := a0) (m := c) with z | ⟨i, hi, e⟩
  · rw [hX.1 z, hM.2.1 z]
  · rw [hX.2.1 i hi e]
    cases o with
    | none => rw [hM.1 h.2.2.2.2.2.2]; rfl
    | some q =>
      obtain ⟨a1, a2, a3, a4, a5, a6, a7⟩ := h.2.2.2.2.2
      have hw := R_bwf h a3
      rw [hM.2.2.1 (by rw [a1]; decide) i hi e, a2]
      show (if lst _ q.1 < q.1 then nI (lst _ q.1) else (-2 : Int32)) = _
      rw [lst_congr (n := q.1) (fun s hs => by rw [(a4.2.1 s hs).1, ← fl_eq h hi (hw.2.2.1 s hs), ← (a7.2.1 s hs).1])]
theorem r_stuck (h : Rl X M n tr c cm v x nn k o) {a0 r r' : Int32}
    (hX : r = (if lst (fun i => decide (X 8 i = 0 ∧ s_Pk_allAtLastPlace (X 4 i) = a0)) (ks o) < ks o then nI (lst (fun i => decide (X 8 i = 0 ∧ s_Pk_allAtLastPlace (X 4 i) = a0)) (ks o)) else (-2 : Int32)) ∧ X = X')
    (hM : (M 0 18 = 0 → r' = -2) ∧ (¬ M 0 18 = 0 → r' = (if lst (fun i => decide (mOC M n (M 8 i) = 0 ∧ s_Mo_isDone (M 8 i) = a0)) k < k then nI (lst (fun i => decide (mOC M n (M 8 i) = 0 ∧ s_Mo_isDone (M 8 i) = a0)) k) else (-2 : Int32))) ∧ M = M') : r = r' := by
  rw [hX.1]
  cases o with
  | none => rw [hM.1 h.2.2.2.2.2.2]; rfl
  | some q =>
    obtain ⟨a1, a2, a3, a4, a5, a6, a7⟩ := h.2.2.2.2.2
    have hw := R_bwf h a3
    have hn := h.1.2.1.1
    rw [hM.2.1 (by rw [a1]; decide), a2]
    show (if lst _ q.1 < q.1 then nI (lst _ q.1) else (-2 : Int32)) = _
    rw [lst_congr (n := q.1) (fun s hs => ?_)]
    rw [(a4.2.1 s hs).1, (a7.2.1 s hs).1, S_done (hw.2.2.1 s hs), mOC_eq h.1.2.2 (hw.2.2.1 s hs), a6.2.2.1 s hs, ocn_eq hn hs]
    have hle := cnt_le (fun t => opn tr t (q.2.1 s)) n
    have e : nI (cnt (fun t => opn tr t (q.2.1 s)) n) = 0 ↔ cnt (fun t => opn tr t (q.2.1 s)) n = 0 := nI_eq (b := 0) (by omega) (by decide)
    by_cases z : cnt (fun t => opn tr t (q.2.1 s)) n = 0
    · by_cases y : s_Pk_allAtLastPlace (q.2.1 s) = a0
      · rw [dt ⟨e.mpr z, y⟩, dt ⟨z, y⟩]
      · rw [df (fun w => y w.2), df (fun w => y w.2)]
    · rw [df (fun w => z (e.mp w.1)), df (fun w => z w.1)]
theorem in1 (a : Int32) : s_Mo_in a 0 1 = s_Ds_isBelow a 2 := in_b (m := 1) (by decide)
theorem in12 (a : Int32) : s_Mo_in a 0 12 = s_Ds_isBelow a 13 := in_b (m := 12) (by decide)
theorem in13 (a : Int32) : s_Mo_in a 0 13 = s_Ds_isBelow a 14 := in_b (m := 13) (by decide)
theorem r_avoids (h : Rl X M n tr c cm v x nn k o) {q0 : Bq} (hq0 : ∀ q, o = some q → q0 = q) {a0 a1 r r' : Int32}
    (hX : (s_Ds_isBelow a1 2 = 0 → r = -1) ∧ (¬ s_Ds_isBelow a1 2 = 0 → (ks o = 0 ∨ ∀ i, i < c → a0 ≠ nI i) → r = -2) ∧ (¬ s_Ds_isBelow a1 2 = 0 → 0 < ks o → ∀ i, i < c → a0 = nI i → r = a_avo n tr q0 (X (41 + i)) a1))
    (hM : (s_Mo_in a1 0 1 = 0 → r' = -1) ∧ (¬ s_Mo_in a1 0 1 = 0 → (M 0 18 = 0 ∨ s_Mo_in a0 0 (nI c - 1) = 0) → r' = -2) ∧ (¬ s_Mo_in a1 0 1 = 0 → ¬ M 0 18 = 0 → ∀ i, i < c → a0 = nI i → r' = a_avo n tr q0 (cm i) a1)) : r = r' := by
  rw [in1] at hM
  by_cases q : s_Ds_isBelow a1 2 = 0
  · rw [hX.1 q, hM.1 q]
  · have hc := h.2.1.2.1.2.1
    cases o with
    | none => rw [hX.2.1 q (Or.inl rfl), hM.2.1 q (Or.inl h.2.2.2.2.2.2)]
    | some qq =>
      have e0 := hq0 qq rfl
      subst e0
      obtain ⟨a1', a2, a3, a4, a5, a6, a7⟩ := h.2.2.2.2.2
      have hw := R_bwf h a3
      rcases ex_or (a0 := a0) (m := c) with z | ⟨i, hi, e⟩
      · rw [hX.2.1 q (Or.inr z), hM.2.1 q (Or.inr ?_)]
        rcases z_Mo_in a0 0 (nI c - 1) with w | w
        · exact w
        · obtain ⟨i, hi, e⟩ := mi_t (by omega) (by rw [w]; decide : ¬ s_Mo_in a0 0 (nI c - 1) = 0)
          exact absurd e (z i hi)
      · rw [hX.2.2 q (by show 0 < q0.1; have := hw.1; omega) i hi e, hM.2.2 q (by rw [a1']; decide) i hi e]
        unfold a_avo
        rw [flG_congr (fun j hj => h.2.1.2.2 i hi j hj)]
theorem r_way (h : Rl X M n tr c cm v x nn k o) {q0 : Bq} (hq0 : ∀ q, o = some q → q0 = q) {a0 a1 r r' : Int32}
    (hX : ((∀ s, s < ks o → a0 ≠ nI s) → r = -2) ∧ (∀ s, s < ks o → a0 = nI s → (a1 = -1 → r = nI (q0.2.2.2.2 s)) ∧ (¬ a1 = -1 → ((∀ i, i < q0.2.2.2.2 s → a1 ≠ nI i) → r = -2) ∧ ∀ i, i < q0.2.2.2.2 s → a1 = nI i → r = X 6 (itr q0.2.2.1 (q0.2.2.2.2 s - 1 - i) s))) ∧ X = X')
    (hM : (M 0 18 = 0 → r' = -2) ∧ (¬ M 0 18 = 0 → (∀ s, s < k → a0 ≠ nI s) → r' = -2) ∧ (¬ M 0 18 = 0 → ∀ s, s < k → a0 = nI s → (a1 = -1 → r' = nI (q0.2.2.2.2 s)) ∧ (¬ a1 = -1 → ((∀ i, i < q0.2.2.2.2 s → a1 ≠ nI i) → r' = -2) ∧ ∀ i, i < q0.2.2.2.2 s → a1 = nI i → r' = M 10 (itr q0.2.2.1 (q0.2.2.2.2 s - 1 - i) s))) ∧ M = M') : r = r' := by
  cases o with
  | none => rw [hX.1 (fun s hs => absurd hs (Nat.not_lt_zero _)), hM.1 h.2.2.2.2.2.2]
  | some qq =>
    have e0 := hq0 qq rfl
    subst e0
    obtain ⟨a1', a2, a3, a4, a5, a6, a7⟩ := h.2.2.2.2.2
    have hw := R_bwf h a3
    have hne : ¬ M 0 18 = 0 := by rw [a1']; decide
    rw [a2] at hM
    rcases ex_or (a0 := a0) (m := q0.1) with z | ⟨s, hs, e⟩
    · rw [hX.1 z, hM.2.1 hne z]
    · obtain ⟨x1, x2⟩ := hX.2.1 s hs e
      obtain ⟨m1, m2⟩ := hM.2.2.1 hne s hs e
      by_cases y : a1 = -1
      · rw [x1 y, m1 y]
      · obtain ⟨x3, x4⟩ := x2 y
        obtain ⟨m3, m4⟩ := m2 y
        rcases ex_or (a0 := a1) (m := q0.2.2.2.2 s) with z | ⟨i, hi, e2⟩
        · rw [x3 z, m3 z]
        · rw [x4 i hi e2, m4 i hi e2]
          obtain ⟨w1, w2, _⟩ := way_in hw hs (q0.2.2.2.2 s - 1 - i) (by omega)
          rw [(a4.2.2 _ w1 w2).2, (a7.2.2 _ w1 w2).2]
end OPS3
