section OPS5
variable {X M X' M' : um_M} {n : Nat} {tr : Nat → Nat → Nat} {c : Nat} {cm : Nat → Nat → Int32} {v : Nat} {x : Int32} {nn : Nat → Nat} {k : Nat} {o : Option Bq}
theorem st3 {t : Nat} {a : Int32} {i : Nat} : stC M n t 3 a i = a + nI (mOC M n (M 8 i)) := by unfold stC; simp (decide := true) only [↓reduceIte]
theorem st4 {t : Nat} {a : Int32} {i : Nat} : stC M n t 4 a i = if M 11 i ≤ a then a else M 11 i := by unfold stC; simp (decide := true) only [↓reduceIte]
theorem st5 {t : Nat} {a : Int32} {i : Nat} : stC M n t 5 a i = if nI (mOC M n (M 8 i)) = 0 then a + 1 else a := by unfold stC; simp (decide := true) only [↓reduceIte]
theorem st6 {t : Nat} {a : Int32} {i : Nat} : stC M n t 6 a i = if nI (mOC M n (M 8 i)) = 0 then (if s_Mo_isDone (M 8 i) = 0 then a else a + 1) else a := by unfold stC; simp (decide := true) only [↓reduceIte]
theorem st10 {t : Nat} {a0 a : Int32} {i : Nat} (h : ¬ a0 < 10) (h3 : ¬ a0 = 3) (h4 : ¬ a0 = 4) (h5 : ¬ a0 = 5) (h6 : ¬ a0 = 6) : stC M n t a0 a i = if s_Mo_isOpen (M 1 t) (M 2 t) (M 4 t) (M 8 i) = 0 then a else a + 1 := by
  unfold stC
  simp only [if_neg h, if_neg h3, if_neg h4, if_neg h5, if_neg h6]
theorem fC_sm {t : Nat} {f : Nat → Int32} {m : Nat} (h : ∀ i, i < m → f i = nI (mOC M n (M 8 i))) : fC M n t 3 m = sm f m := by
  induction m with
  | zero => rfl
  | succ m ih => show stC M n t 3 (fC M n t 3 m) m = sm f m + f m; rw [st3, ih (fun i hi => h i (by omega)), h m (Nat.lt_succ_self m)]
theorem fC_mx {t : Nat} {f : Nat → Int32} {m : Nat} (h : ∀ i, i < m → f i = M 11 i) : fC M n t 4 m = mx f m := by
  induction m with
  | zero => rfl
  | succ m ih =>
    show stC M n t 4 (fC M n t 4 m) m = if mx f m < f m then f m else mx f m
    rw [st4, ih (fun i hi => h i (by omega)), h m (Nat.lt_succ_self m)]
    by_cases z : M 11 m ≤ mx f m
    · rw [if_pos z, if_neg (Int32.not_lt.mpr z)]
    · rw [if_neg z, if_pos (Int32.not_le.mp z)]
theorem fC_c {t : Nat} {a0 : Int32} {p : Nat → Bool} {m : Nat} (h : ∀ a i, i < m → stC M n t a0 a i = if p i = true then a + 1 else a) : fC M n t a0 m = nI (cnt p m) := by
  induction m with
  | zero => rfl
  | succ m ih =>
    show stC M n t a0 (fC M n t a0 m) m = nI (if p m = true then cnt p m + 1 else cnt p m)
    rw [h _ m (Nat.lt_succ_self m), ih (fun a i hi => h a i (by omega))]
    by_cases z : p m = true
    · rw [if_pos z, if_pos z]; exact nI_1 _
    · rw [if_neg z, if_neg z]
theorem rng {a0 : Int32} (h0 : ¬ a0 = 0) (h1 : ¬ a0 = 1) : (s_Mo_in a0 2 6 = 0 ∧ s_Mo_in a0 10 33 = 0) ↔ (s_Ds_isBelow a0 7 = 0 ∧ s_Ds_isBelow (a0 - 10) 24 = 0) := by
  have A : s_Mo_in a0 2 6 = 0 ↔ s_Ds_isBelow a0 7 = 0 := by
    constructor
    · intro h
      refine ib_0 (n := 7) (by decide) (fun i hi e => ?_)
      subst e
      rcases (show i = 0 ∨ i = 1 ∨ i = 2 ∨ i = 3 ∨ i = 4 ∨ i = 5 ∨ i = 6 by omega) with z | z | z | z | z | z | z <;> subst z
      · exact h0 rfl
      · exact h1 rfl
      all_goals exact absurd h (by decide)
    · intro h
      unfold s_Mo_in
      by_cases c1 : a0 < 2
      · rw [if_pos c1]
      · rw [if_neg c1]
        by_cases c2 : (6 : Int32) < a0
        · rw [if_pos c2]
        · exfalso
          have e0 : ¬ a0 < 0 := by
            rw [Int32.lt_iff_toInt_lt] at *
            have e2 : (2 : Int32).toInt = 2 := by decide
            have e3 : (0 : Int32).toInt = 0 := by decide
            omega
          obtain ⟨j, hj, rfl⟩ := nI_of e0
          have g2 : ¬ 6 < j := fun z => c2 (nI_lt (a := 6) z hj)
          exact ib_f (n := 7) (by decide) h j (by omega) rfl
  have B : s_Mo_in a0 10 33 = 0 ↔ s_Ds_isBelow (a0 - 10) 24 = 0 := by
    constructor
    · intro h
      refine ib_0 (n := 24) (by decide) (fun i hi e => ?_)
      have ea : a0 = nI (i + 10) := by
        have : a0 = (a0 - 10) + 10 := by rw [Int32.sub_add_cancel]
        rw [this, e]; exact nI_add i 10
      rw [ea] at h
      unfold s_Mo_in at h
      have q1 : ¬ nI (i + 10) < (10 : Int32) := nI_nlt (b := 10) (by omega) (by omega)
      have q2 : ¬ (33 : Int32) < nI (i + 10) := nI_nlt (a := 33) (by omega) (by decide)
      rw [if_neg q1, if_neg q2] at h
      exact absurd h (by decide)
    · intro h
      unfold s_Mo_in
      by_cases c1 : a0 < 10
      · rw [if_pos c1]
      · rw [if_neg c1]
        by_cases c2 : (33 : Int32) < a0
        · rw [if_pos c2]
        · exfalso
          have e0 : ¬ a0 < 0 := by
            rw [Int32.lt_iff_toInt_lt] at *
            have e2 : (10 : Int32).toInt = 10 := by decide
            have e3 : (0 : Int32).toInt = 0 := by decide
            omega
          obtain ⟨j, hj, rfl⟩ := nI_of e0
          have g1 : ¬ j < 10 := fun z => c1 (nI_lt (b := 10) z (by decide))
          have g2 : ¬ 33 < j := fun z => c2 (nI_lt (a := 33) z hj)
          exact ib_f (n := 24) (by decide) h (j - 10) (by omega) (pk_sub (b := 10) (by omega))
  rw [A, B]
theorem lt_small {m : Nat} (hn : n ≤ 24) (hm : m < 10) : nI m - 10 < nI n := by
  have h3 : (nI m - 10).toInt = (m : Int) - 10 := pk_sub_toInt (b := 10) (by omega) (by decide)
  rw [Int32.lt_iff_toInt_lt, h3, nI_toInt (by omega)]
  omega
theorem r_count (h : Rl X M n tr c cm v x nn k o) {t : Nat} {a0 r r' : Int32} (htt : ∀ j, j < 24 → a0 - 10 = nI j → t = j)
    (hX : ((s_Ds_isBelow a0 7 = 0 ∧ s_Ds_isBelow (a0 - 10) 24 = 0) → r = -1) ∧ (a0 = 0 → r = nI n) ∧ (a0 = 1 → r = nI c) ∧ (¬ (s_Ds_isBelow a0 7 = 0 ∧ s_Ds_isBelow (a0 - 10) 24 = 0) → ¬ a0 = 0 → ¬ a0 = 1 → (ks o = 0 → r = -2) ∧ (0 < ks o → (a0 = 2 → r = nI (ks o)) ∧ (a0 = 3 → r = sm (X 8) (ks o)) ∧ (a0 = 4 → r = mx (X 7) (ks o)) ∧ (a0 = 5 → r = (nI (cnt (fun i => decide (X 8 i = 0 ∧ ((0 : Int32) = 0 ∨ ¬ s_Pk_allAtLastPlace (X 4 i) = 0))) (ks o)))) ∧ (a0 = 6 → r = (nI (cnt (fun i => decide (X 8 i = 0 ∧ ((1 : Int32) = 0 ∨ ¬ s_Pk_allAtLastPlace (X 4 i) = 0))) (ks o)))) ∧ (¬ a0 = 2 → ¬ a0 = 3 → ¬ a0 = 4 → ¬ a0 = 5 → ¬ a0 = 6 → (nI n ≤ a0 - 10 → r = -2) ∧ ∀ t, t < n → a0 - 10 = nI t → r = (nI (cnt (fun i => decide (¬ X 9 (i * 24 + t) = (-2 : Int32))) (ks o)))))) ∧ X = X')
    (hM : (a0 = 0 → r' = nI n) ∧ (a0 = 1 → r' = nI c) ∧ (¬ a0 = 0 → ¬ a0 = 1 → (s_Mo_in a0 2 6 = 0 ∧ s_Mo_in a0 10 33 = 0 → r' = -1) ∧ (¬ (s_Mo_in a0 2 6 = 0 ∧ s_Mo_in a0 10 33 = 0) → (M 0 18 = 0 ∨ ¬ a0 - 10 < nI n → r' = -2) ∧ (¬ M 0 18 = 0 → a0 - 10 < nI n → (a0 = 2 → r' = nI k) ∧ (¬ a0 = 2 → r' = fC M n t a0 k)))) ∧ M = M') : r = r' := by
  by_cases h0 : a0 = 0
  · rw [hX.2.1 h0, hM.1 h0]
  by_cases h1 : a0 = 1
  · rw [hX.2.2.1 h1, hM.2.1 h1]
  obtain ⟨mb, mg⟩ := hM.2.2.1 h0 h1
  rw [rng h0 h1] at mb mg
  by_cases hb : s_Ds_isBelow a0 7 = 0 ∧ s_Ds_isBelow (a0 - 10) 24 = 0
  · rw [hX.1 hb, mb hb]
  obtain ⟨xn, xs⟩ := hX.2.2.2.1 hb h0 h1
  obtain ⟨mn, ms⟩ := mg hb
  cases o with
  | none => rw [xn rfl, mn (Or.inl h.2.2.2.2.2.2)]
  | some q =>
    obtain ⟨a1', a2, a3, a4, a5, a6, a7⟩ := h.2.2.2.2.2
    have hw := R_bwf h a3
    have hn := h.1.2.1.1
    have hk := hw.2.1
    have hk1 := hw.1
    have hne : ¬ M 0 18 = 0 := by rw [a1']; decide
    have h3 := h.1.2.2
    subst a2
    obtain ⟨x2, x3, x4, x5, x6, xt⟩ := xs (by show 0 < q.1; omega)
    have oc : ∀ i, i < q.1 → X 8 i = nI (mOC M n (M 8 i)) := fun i hi => by rw [a6.2.2.1 i hi, ocn_eq hn hi, (a7.2.1 i hi).1, mOC_eq h3 (hw.2.2.1 i hi)]
    have dn : ∀ i, i < q.1 → s_Mo_isDone (M 8 i) = s_Pk_allAtLastPlace (X 4 i) := fun i hi => by rw [(a7.2.1 i hi).1, (a4.2.1 i hi).1, S_done (hw.2.2.1 i hi)]
    by_cases hs : s_Ds_isBelow a0 7 = 0
    · have ht : ¬ s_Ds_isBelow (a0 - 10) 24 = 0 := fun z => hb ⟨hs, z⟩
      obtain ⟨j, hj, e⟩ := ib_t (n := 24) (by decide) ht
      have et := htt j hj e
      subst et
      have ea : a0 = nI (t + 10) := by
        have : a0 = (a0 - 10) + 10 := by rw [Int32.sub_add_cancel]
        rw [this, e]; exact nI_add t 10
      have ne : ∀ m : Nat, m < 10 → ¬ a0 = nI m := fun m hm z => by
        rw [ea] at z
        have := (nI_eq (by omega) (by omega)).mp z
        omega
      have n2 : ¬ a0 = 2 := ne 2 (by decide)
      have n3 : ¬ a0 = 3 := ne 3 (by decide)
      have n4 : ¬ a0 = 4 := ne 4 (by decide)
      have n5 : ¬ a0 = 5 := ne 5 (by decide)
      have n6 : ¬ a0 = 6 := ne 6 (by decide)
      have n10 : ¬ a0 < 10 := by rw [ea]; exact nI_nlt (b := 10) (by omega) (by omega)
      obtain ⟨y1, y2⟩ := xt n2 n3 n4 n5 n6
      by_cases htn : t < n
      · rw [y2 t htn e, (ms hne (by rw [e]; exact nI_lt htn (by omega))).2 n2]
        symm
        refine fC_c (fun a i hi => ?_)
        rw [st10 n10 n3 n4 n5 n6, (a7.2.1 i hi).1, oM h3 htn (hw.2.2.1 i hi)]
        show _ = if decide (¬ X 9 (i * 24 + t) = (-2 : Int32)) = true then a + 1 else a
        have no := nxq_open (n := n) (tr := tr) (q := q) (s := i) hk hj
        rw [a6.1 (i * 24 + t) (by omega)]
        by_cases z : s_Tr_isOpenIn (gX tr t) (q.2.1 i) = 0
        · rw [if_pos z, df (fun w => of_decide_eq_true (no.mp w).2 z)]; rfl
        · rw [if_neg z, dt (no.mpr ⟨htn, dt z⟩)]; rfl
      · rw [y1 (by rw [e]; exact nI_le (by omega) (by omega)), mn (Or.inr (by rw [e]; exact nI_nlt (by omega) (by omega)))]
    · obtain ⟨m, hm, rfl⟩ := ib_t (n := 7) (by decide) hs
      obtain ⟨z2, z3⟩ := ms hne (lt_small hn (by omega))
      rcases (show m = 0 ∨ m = 1 ∨ m = 2 ∨ m = 3 ∨ m = 4 ∨ m = 5 ∨ m = 6 by omega) with z | z | z | z | z | z | z <;> subst z
      · exact absurd rfl h0
      · exact absurd rfl h1
      · rw [x2 rfl, z2 rfl]; rfl
      · rw [x3 rfl, z3 (by decide)]
        exact (fC_sm oc).symm
      · rw [x4 rfl, z3 (by decide)]
        exact (fC_mx (fun i hi => by rw [(a4.2.1 i hi).2, (a7.2.1 i hi).2])).symm
      · rw [x5 rfl, z3 (by decide)]
        symm
        refine fC_c (fun a i hi => ?_)
        show stC M n t 5 a i = if decide (X 8 i = 0 ∧ ((0 : Int32) = 0 ∨ ¬ s_Pk_allAtLastPlace (X 4 i) = 0)) = true then a + 1 else a
        rw [st5, ← oc i hi]
        by_cases z : X 8 i = 0
        · rw [if_pos z, dt ⟨z, Or.inl rfl⟩]; rfl
        · rw [if_neg z, df (fun w => z w.1)]; rfl
      · rw [x6 rfl, z3 (by decide)]
        symm
        refine fC_c (fun a i hi => ?_)
        show stC M n t 6 a i = if decide (X 8 i = 0 ∧ ((1 : Int32) = 0 ∨ ¬ s_Pk_allAtLastPlace (X 4 i) = 0)) = true then a + 1 else a
        rw [st6, ← oc i hi, dn i hi]
        by_cases z : X 8 i = 0
        · rw [if_pos z]
          by_cases y : s_Pk_allAtLastPlace (X 4 i) = 0
          · rw [if_pos y, df (fun w => w.2.elim (fun u => absurd u (by decide)) (fun u => u y))]; rfl
          · rw [if_neg y, dt ⟨z, Or.inr y⟩]; rfl
        · rw [if_neg z, df (fun w => z w.1)]; rfl
end OPS5
