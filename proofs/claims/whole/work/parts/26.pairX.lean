/-! pairs of a state and a transition: numbered s * 24 + t -/
theorem dm {s t : Nat} (ht : t < 24) : (s * 24 + t) / 24 = s ∧ (s * 24 + t) % 24 = t := by omega
theorem fnd_new {q : Bq} {x y : Int32} {s t : Nat} (h : fnd q y < q.1) : fnd (bnew q x s t) y = fnd q y := by
  have hy := fnd_yes h
  have hn := lst_no (fun i => decide (q.2.1 i = y)) q.1
  refine lst_at (n := q.1 + 1) (by omega) (dt ?_) (fun j hj => df ?_)
  · show va_up q.2.1 q.1 x (fnd q y) = y
    rw [show va_up q.2.1 q.1 x (fnd q y) = q.2.1 (fnd q y) from if_neg (by omega)]; exact hy
  · show ¬ va_up q.2.1 q.1 x j = y
    rw [show va_up q.2.1 q.1 x j = q.2.1 j from if_neg (by omega)]
    exact of_decide_eq_false (hn j hj)
theorem fnd_self {q : Bq} {x : Int32} {s t : Nat} (h : ¬ fnd q x < q.1) : fnd (bnew q x s t) x = q.1 := by
  have hn := fnd_no h
  refine lst_at (n := q.1 + 1) (by omega) (dt ?_) (fun j hj => df ?_)
  · exact if_pos rfl
  · show ¬ va_up q.2.1 q.1 x j = x
    rw [show va_up q.2.1 q.1 x j = q.2.1 j from if_neg (by omega)]
    exact hn j hj
theorem nxq_new {n : Nat} {tr : Nat → Nat → Nat} {q : Bq} {x : Int32} {s t p : Nat} (hp : p < q.1 * 24) (hok : p % 24 < n → opn tr (p % 24) (q.2.1 (p / 24)) = true → fnd q (led tr (p % 24) (q.2.1 (p / 24))) < q.1) : nxq n tr (bnew q x s t) p = nxq n tr q p := by
  have e : (bnew q x s t).2.1 (p / 24) = q.2.1 (p / 24) := if_neg (by omega)
  unfold nxq
  rw [e]
  by_cases c : p % 24 < n ∧ opn tr (p % 24) (q.2.1 (p / 24)) = true
  · rw [if_pos c, if_pos c, fnd_new (hok c.1 c.2)]
  · rw [if_neg c, if_neg c]
theorem app_at {X : um_M} {k : Nat} {a0 a1 a2 a3 : Int32} {c : Nat} (hc : c ≠ 12) : n_Sp_append X k a0 a1 a2 a3 c = n_app0 X k a0 a1 a2 a3 c := put_k hc
theorem app_o {X : um_M} {k : Nat} {a0 a1 a2 a3 : Int32} {c : Nat} (h : c < 3 ∨ c = 9 ∨ c = 11 ∨ 12 < c) : n_Sp_append X k a0 a1 a2 a3 c = X c := by
  rw [app_at (by omega)]
  unfold n_app0
  rw [um_k (by omega), um_k (by omega), um_k (by omega), um_k (by omega), um_k (by omega), um_k (by omega), um_k (by omega)]
theorem RXs_app {X : um_M} {q : Bq} {x : Int32} {s t : Nat} (h : RXs X q) : RXs (n_Sp_append X q.1 x (nI s) (nI t) (nI (q.2.2.2.2 s + 1))) (bnew q x s t) := by
  obtain ⟨h1, h2, h3⟩ := h
  refine ⟨app_sz, fun i hi => ?_, fun i h0 hi => ?_⟩
  · have hi : i < q.1 + 1 := hi
    rw [app_at (by decide), app_at (by decide)]
    show _ = va_up q.2.1 q.1 x i ∧ _ = nI (va_up q.2.2.2.2 q.1 (q.2.2.2.2 s + 1) i)
    unfold va_up n_app0
    simp only [um_ap]
    by_cases e : i = q.1
    · subst e; simp
    · simp only [e, if_false, and_false]
      simpa using h2 i (by omega)
  · have hi : i < q.1 + 1 := hi
    rw [app_at (by decide), app_at (by decide)]
    show _ = nI (va_up q.2.2.1 q.1 s i) ∧ _ = nI (va_up q.2.2.2.1 q.1 t i)
    unfold va_up n_app0
    simp only [um_ap]
    by_cases e : i = q.1
    · subst e; simp
    · simp only [e, if_false, and_false]
      simpa using h3 i h0 (by omega)
theorem RXp_app {X : um_M} {n : Nat} {tr : Nat → Nat → Nat} {q : Bq} {cur : Nat} {x a1 a2 a3 : Int32} {s t : Nat} (h : RXp X n tr q cur) (hc : cur ≤ q.1 * 24) (hk : q.1 < 300) : RXp (n_Sp_append X q.1 x a1 a2 a3) n tr (bnew q x s t) cur := by
  obtain ⟨h1, h2, h3, h4, h5⟩ := h
  have e9 : n_Sp_append X q.1 x a1 a2 a3 9 = X 9 := app_o (by decide)
  have e11 : n_Sp_append X q.1 x a1 a2 a3 11 = X 11 := app_o (by decide)
  have eS : ∀ i, i < q.1 → (bnew q x s t).2.1 i = q.2.1 i := fun i hi => if_neg (by omega)
  refine ⟨fun p hp => ?_, fun p hp ht ho => ?_, fun i hi => ?_, fun i hi => ?_, fun p hp => ?_⟩
  · rw [e9, h1 p hp, nxq_new (by omega) (h2 p hp)]
  · rw [eS (p / 24) (by omega)] at ho ⊢
    rw [fnd_new (h2 p hp ht ho)]
    show _ < q.1 + 1
    have := h2 p hp ht ho
    omega
  · have hi : i < q.1 + 1 := hi
    rw [app_at (by decide)]
    unfold n_app0
    rw [um_k (by decide), um_k (by decide), um_ap]
    by_cases e : i = q.1
    · rw [if_pos ⟨rfl, e⟩]
      have : ocn n tr (bnew q x s t) i cur = 0 := cnt_none (fun j hj => by rw [df (by omega : ¬ i * 24 + j < cur)]; rfl)
      rw [this]; rfl
    · rw [if_neg (fun z => e z.2), um_k (by decide), um_k (by decide), um_k (by decide), um_k (by decide), h3 i (by omega)]
      have e2 : ocn n tr (bnew q x s t) i cur = ocn n tr q i cur := by unfold ocn; rw [eS i (by omega)]
      rw [e2]
  · have hi : i < q.1 + 1 := hi
    rw [e9, app_at (by decide)]
    unfold n_app0
    rw [um_k (by decide), um_ap]
    by_cases e : i = q.1
    · rw [if_pos ⟨rfl, e⟩, pv_none (fun p hp => ?_)]
      rw [h1 p hp]
      unfold nxq
      by_cases c : p % 24 < n ∧ opn tr (p % 24) (q.2.1 (p / 24)) = true
      · rw [if_pos c]
        have := h2 p hp c.1 c.2
        intro z
        have := (nI_eq (by omega) (by omega)).mp z
        omega
      · rw [if_neg c]
        intro z
        have z1 : (nI i).toInt = (i : Int) := nI_toInt (by omega)
        rw [← z] at z1
        have z2 : ((-2 : Int32)).toInt = -2 := by decide
        omega
    · rw [if_neg (fun z => e z.2), um_k (by decide), um_k (by decide), um_k (by decide), um_k (by decide), um_k (by decide)]
      exact h4 i (by omega)
  · rw [e9, e11]; exact h5 p hp
theorem nI_m2 {i : Nat} (h : i < 2 ^ 31) : nI i ≠ -2 := fun z => by
  have z1 : (nI i).toInt = (i : Int) := nI_toInt h
  rw [z] at z1
  have z2 : ((-2 : Int32)).toInt = -2 := by decide
  omega
theorem RXp_no {X : um_M} {n : Nat} {tr : Nat → Nat → Nat} {q : Bq} {s t : Nat} (h : RXp X n tr q (s * 24 + t)) (ht : t < 24) (hs : s < q.1) (hk : q.1 ≤ 300) (ho : ¬ (t < n ∧ opn tr t (q.2.1 s) = true)) : RXp (um_set X 9 (s * 24 + t) (-2)) n tr q (s * 24 + t + 1) := by
  obtain ⟨h1, h2, h3, h4, h5⟩ := h
  obtain ⟨d1, d2⟩ := dm (s := s) ht
  have e9 : ∀ p, p < s * 24 + t → um_set X 9 (s * 24 + t) (-2) 9 p = X 9 p := fun p hp => um_j (by omega)
  have lo : ∀ p, p < s * 24 + t + 1 → p < s * 24 + t ∨ p = s * 24 + t := fun p hp => by omega
  refine ⟨fun p hp => ?_, fun p hp a b => ?_, fun i hi => ?_, fun i hi => ?_, fun p hp a => ?_⟩
  · rcases lo p hp with z | z
    · rw [e9 p z]; exact h1 p z
    · subst z
      rw [um_self]
      unfold nxq
      rw [d1, d2, if_neg ho]
  · rcases lo p hp with z | z
    · exact h2 p z a b
    · subst z
      rw [d1, d2] at b
      rw [d2] at a
      exact absurd ⟨a, b⟩ ho
  · rw [um_k (by decide), h3 i hi]
    congr 1
    unfold ocn
    refine cnt_congr (fun j hj => ?_)
    by_cases z : i * 24 + j = s * 24 + t
    · have z1 : i = s := by omega
      have z2 : j = t := by omega
      subst z1; subst z2
      rw [df (by omega : ¬ i * 24 + j < i * 24 + j), dt (by omega : i * 24 + j < i * 24 + j + 1)]
      by_cases c : j < n
      · rw [dt c]
        rcases hb : opn tr j (q.2.1 i) with _ | _
        · rfl
        · exact absurd ⟨c, hb⟩ ho
      · rw [df c]; rfl
    · by_cases c : i * 24 + j < s * 24 + t
      · rw [dt c, dt (by omega : i * 24 + j < s * 24 + t + 1)]
      · rw [df c, df (by omega : ¬ i * 24 + j < s * 24 + t + 1)]
  · rw [um_k (by decide), h4 i hi]
    show _ = (if um_set X 9 (s * 24 + t) (-2) 9 (s * 24 + t) = nI i then nI (s * 24 + t) else pv (um_set X 9 (s * 24 + t) (-2) 9) (nI i) (s * 24 + t))
    rw [um_self, if_neg (fun z => nI_m2 (by omega) z.symm)]
    exact pv_congr (fun p hp => (e9 p hp).symm)
  · rcases lo p hp with z | z
    · rw [e9 p z] at a ⊢
      rw [um_k (by decide), h5 p z a]
      exact pv_congr (fun p' hp' => (e9 p' (by omega)).symm)
    · subst z; rw [um_self] at a; exact absurd rfl a
theorem RXp_join {X : um_M} {n : Nat} {tr : Nat → Nat → Nat} {q : Bq} {s t u : Nat} (h : RXp X n tr q (s * 24 + t)) (ht : t < n) (hn : n ≤ 24) (hs : s < q.1) (hk : q.1 ≤ 300) (ho : opn tr t (q.2.1 s) = true) (hu : fnd q (led tr t (q.2.1 s)) = u) (hul : u < q.1) : RXp (n_Sp_join X s t u) n tr q (s * 24 + t + 1) := by
  obtain ⟨h1, h2, h3, h4, h5⟩ := h
  obtain ⟨d1, d2⟩ := dm (s := s) (t := t) (by omega)
  have e9 : n_Sp_join X s t u 9 = um_set X 9 (s * 24 + t) (nI u) 9 := by
    unfold n_Sp_join
    rw [um_k (by decide), um_k (by decide), um_k (by decide)]
  have e9l : ∀ p, p < s * 24 + t → um_set X 9 (s * 24 + t) (nI u) 9 p = X 9 p := fun p hp => um_j (by omega)
  have lo : ∀ p, p < s * 24 + t + 1 → p < s * 24 + t ∨ p = s * 24 + t := fun p hp => by omega
  refine ⟨fun p hp => ?_, fun p hp a b => ?_, fun i hi => ?_, fun i hi => ?_, fun p hp a => ?_⟩
  · rw [e9]
    rcases lo p hp with z | z
    · rw [e9l p z]; exact h1 p z
    · subst z
      rw [um_self]
      unfold nxq
      rw [d1, d2, if_pos ⟨ht, ho⟩, hu]
  · rcases lo p hp with z | z
    · exact h2 p z a b
    · subst z
      rw [d1, d2, hu]; exact hul
  · unfold n_Sp_join
    rw [um_ap]
    by_cases z : i = s
    · subst z
      rw [if_pos ⟨rfl, rfl⟩, h3 i hi]
      refine (nI_1 _).trans ?_
      congr 1
      symm
      unfold ocn
      refine cnt_one (i := t) (by omega) (fun j hj hjt => ?_) ?_ ?_
      · by_cases c : i * 24 + j < i * 24 + t
        · rw [dt c, dt (by omega : i * 24 + j < i * 24 + t + 1)]
        · rw [df c, df (by omega : ¬ i * 24 + j < i * 24 + t + 1)]
      · rw [df (by omega : ¬ i * 24 + t < i * 24 + t)]; rfl
      · rw [dt (by omega : i * 24 + t < i * 24 + t + 1), dt ht, ho]; rfl
    · rw [if_neg (fun y => z y.2), um_k (by decide), um_k (by decide), um_k (by decide), h3 i hi]
      congr 1
      unfold ocn
      refine cnt_congr (fun j hj => ?_)
      by_cases c : i * 24 + j < s * 24 + t
      · rw [dt c, dt (by omega : i * 24 + j < s * 24 + t + 1)]
      · rw [df c, df (by omega : ¬ i * 24 + j < s * 24 + t + 1)]
  · rw [e9]
    show _ = (if um_set X 9 (s * 24 + t) (nI u) 9 (s * 24 + t) = nI i then nI (s * 24 + t) else pv (um_set X 9 (s * 24 + t) (nI u) 9) (nI i) (s * 24 + t))
    rw [um_self]
    unfold n_Sp_join
    rw [um_k (by decide), um_ap]
    by_cases z : i = u
    · rw [if_pos ⟨rfl, z⟩, if_pos (by rw [z])]
    · rw [if_neg (fun y => z y.2), if_neg (fun y => z ((nI_eq (by omega) (by omega)).mp y).symm), um_k (by decide), um_k (by decide), h4 i hi]
      exact pv_congr (fun p hp => (e9l p hp).symm)
  · rw [e9] at a ⊢
    have e11 : n_Sp_join X s t u 11 p = if p = s * 24 + t then X 10 u else X 11 p := by
      unfold n_Sp_join
      rw [um_k (by decide), um_k (by decide), um_ap]
      by_cases y : p = s * 24 + t
      · rw [if_pos ⟨rfl, y⟩, if_pos y]
      · rw [if_neg (fun w => y w.2), if_neg y, um_k (by decide)]
    rw [e11]
    rcases lo p hp with z | z
    · rw [if_neg (by omega)]
      rw [e9l p z] at a ⊢
      rw [h5 p z a]
      exact pv_congr (fun p' hp' => (e9l p' (by omega)).symm)
    · subst z
      rw [if_pos rfl, um_self, h4 u hul]
      exact pv_congr (fun p hp => (e9l p hp).symm)
theorem RXp_w {X : um_M} {n : Nat} {tr : Nat → Nat → Nat} {q : Bq} {cur : Nat} {v : Int32} (h : RXp X n tr q cur) : RXp (um_set X 9 cur v) n tr q cur := by
  obtain ⟨h1, h2, h3, h4, h5⟩ := h
  have e9 : ∀ p, p < cur → um_set X 9 cur v 9 p = X 9 p := fun p hp => um_j (by omega)
  refine ⟨fun p hp => by rw [e9 p hp]; exact h1 p hp, h2, fun s hs => by rw [um_k (by decide)]; exact h3 s hs, fun i hi => ?_, fun p hp a => ?_⟩
  · rw [um_k (by decide), h4 i hi]
    exact pv_congr (fun p hp => (e9 p hp).symm)
  · rw [e9 p hp] at a ⊢
    rw [um_k (by decide), h5 p hp a]
    exact pv_congr (fun p' hp' => (e9 p' (by omega)).symm)
/-- nothing changed but the space -/
def fXE (X X' : um_M) : Prop := ∀ k, k < 3 ∨ 12 < k → X' k = X k
theorem fXE_rf (X : um_M) : fXE X X := fun _ _ => rfl
theorem fXE_s {X X' : um_M} {k j : Nat} {v : Int32} (h : fXE X X') (hk : 3 ≤ k ∧ k ≤ 12) : fXE X (um_set X' k j v) := fun i hi => by rw [um_k (by omega)]; exact h i hi
theorem fXE_app {X X' : um_M} {k : Nat} {a0 a1 a2 a3 : Int32} (h : fXE X X') : fXE X (n_Sp_append X' k a0 a1 a2 a3) := fun i hi => by rw [app_o (by omega)]; exact h i hi
theorem fXE_join {X X' : um_M} {s t u : Nat} (h : fXE X X') : fXE X (n_Sp_join X' s t u) := fXE_s (fXE_s (fXE_s (fXE_s h (by decide)) (by decide)) (by decide)) (by decide)
theorem fXE_fill {X X' : um_M} {v : Int32} {i : Nat} (h : fXE X X') : fXE X (n_fillTo X' v i) := fun k hk => by
  rw [show n_fillTo X' v i k = X' k from if_neg (by omega)]; exact h k hk
theorem RXt_f {X X' : um_M} {n : Nat} {tr : Nat → Nat → Nat} (h : RXt X n tr) (hF : fXE X X') : RXt X' n tr := ⟨h.1, fun t ht => ⟨(h.2 t ht).1, fun j hj => by rw [hF (17 + t) (by omega)]; exact (h.2 t ht).2 j hj⟩⟩
theorem RXs_c {X X' : um_M} {q : Bq} (h : RXs X q) (h3 : X' 3 = X 3) (h4 : X' 4 = X 4) (h5 : X' 5 = X 5) (h6 : X' 6 = X 6) (h7 : X' 7 = X 7) : RXs X' q := by
  unfold RXs; rw [h3, h4, h5, h6, h7]; exact h
theorem RXs_j {X : um_M} {q : Bq} {s t u : Nat} (h : RXs X q) : RXs (n_Sp_join X s t u) q := by
  unfold n_Sp_join
  refine RXs_c h ?_ ?_ ?_ ?_ ?_ <;> rw [um_k (by decide), um_k (by decide), um_k (by decide), um_k (by decide)]
theorem RXs_9 {X : um_M} {q : Bq} {j : Nat} {v : Int32} (h : RXs X q) : RXs (um_set X 9 j v) q := by
  refine RXs_c h ?_ ?_ ?_ ?_ ?_ <;> rw [um_k (by decide)]
theorem join_12 {X : um_M} {s t u : Nat} : n_Sp_join X s t u 12 = X 12 := by
  unfold n_Sp_join
  rw [um_k (by decide), um_k (by decide), um_k (by decide), um_k (by decide)]
theorem RXh_app {X : um_M} {q : Bq} {nn : Nat → Nat} {x a1 a2 a3 : Int32} {s t : Nat} (hH : RXh (X 12) q nn) (hk : q.1 < 300) : ∃ nn', RXh (n_Sp_append X q.1 x a1 a2 a3 12) (bnew q x s t) nn' := by
  unfold n_Sp_append
  refine ht_put (nn := nn) ?_ hk
  have e : n_app0 X q.1 x a1 a2 a3 12 = X 12 := by
    unfold n_app0
    rw [um_k (by decide), um_k (by decide), um_k (by decide), um_k (by decide), um_k (by decide), um_k (by decide), um_k (by decide)]
  rw [e]; exact hH
