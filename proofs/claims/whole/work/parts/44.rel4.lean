section OPS4
variable {X M X' M' : um_M} {n : Nat} {tr : Nat → Nat → Nat} {c : Nat} {cm : Nat → Nat → Int32} {v : Nat} {x : Int32} {nn : Nat → Nat} {k : Nat} {o : Option Bq}
theorem nw_eq (hT : RMt M n tr) {q : Bq} (hk : q.1 ≤ 300) (hq : okq n tr q) (hw : bwf n q) {s t : Nat} (hs : s < q.1) (ht : t < 24) : decide (¬ s_Sp_isNewNext (nxq n tr q) s t = 0) = (decide (t < n) && nwM M (cvI (q.2.1 s)) t) := by
  have hn := hT.2.1
  have hy := hw.2.2.1 s hs
  have no := nxq_open (n := n) (tr := tr) (q := q) (s := s) hk ht
  unfold s_Sp_isNewNext
  by_cases hto : t < n ∧ opn tr t (q.2.1 s) = true
  · have hmo : ¬ moM M (cvI (q.2.1 s)) t = 0 := by unfold moM; rw [oM hT hto.1 hy]; exact of_decide_eq_true hto.2
    have eqv : ∀ u, u < t → (decide (nxq n tr q (s * 24 + u) = nxq n tr q (s * 24 + t)) = decide (¬ moM M (cvI (q.2.1 s)) u = 0 ∧ mlM M (cvI (q.2.1 s)) u = mlM M (cvI (q.2.1 s)) t)) := by
      intro u hu
      have hun : u < n := by omega
      rw [nxq_is hto.1 hn hto.2]
      by_cases ho : opn tr u (q.2.1 s) = true
      · have m1 : ¬ moM M (cvI (q.2.1 s)) u = 0 := by unfold moM; rw [oM hT hun hy]; exact of_decide_eq_true ho
        obtain ⟨l1, l2⟩ := lM hT hun hy ho
        obtain ⟨l3, l4⟩ := lM hT hto.1 hy hto.2
        rw [nxq_is hun hn ho]
        have f1 := hq s hs u hun ho
        have f2 := hq s hs t hto.1 hto.2
        by_cases e : led tr u (q.2.1 s) = led tr t (q.2.1 s)
        · rw [dt (by rw [e]), dt ⟨m1, by unfold mlM; rw [l1, l3, e]⟩]
        · have n1 : ¬ nI (fnd q (led tr u (q.2.1 s))) = nI (fnd q (led tr t (q.2.1 s))) := fun z => e (by
            have y := (nI_eq (by omega) (by omega)).mp z
            rw [← fnd_yes f1, y, fnd_yes f2])
          have n2 : ¬ (¬ moM M (cvI (q.2.1 s)) u = 0 ∧ mlM M (cvI (q.2.1 s)) u = mlM M (cvI (q.2.1 s)) t) := fun z => e (by
            have z2 := z.2
            unfold mlM at z2
            rw [l1, l3] at z2
            exact cv_inj l2 l4 z2)
          rw [df n1, df n2]
      · have m1 : moM M (cvI (q.2.1 s)) u = 0 := by
          unfold moM; rw [oM hT hun hy]
          rcases z_Tr_isOpenIn (gX tr u) (q.2.1 s) with w | w
          · exact w
          · exact absurd (dt (P := ¬ s_Tr_isOpenIn (gX tr u) (q.2.1 s) = 0) (by rw [w]; decide)) ho
        have e2 : nxq n tr q (s * 24 + u) = -2 := Classical.byContradiction (fun z => ho ((nxq_open hk (by omega)).mp z).2)
        have f2 := hq s hs t hto.1 hto.2
        rw [e2, df (fun z => nI_m2 (by omega) z.symm), df (fun z => z.1 m1)]
    rw [lst_congr eqv, dt hto.1]
    unfold nwM
    rw [dt hmo, if_neg (no.mpr hto)]
    have hle := lst_le (fun u => decide (¬ moM M (cvI (q.2.1 s)) u = 0 ∧ mlM M (cvI (q.2.1 s)) u = mlM M (cvI (q.2.1 s)) t)) t
    by_cases z : lst (fun u => decide (¬ moM M (cvI (q.2.1 s)) u = 0 ∧ mlM M (cvI (q.2.1 s)) u = mlM M (cvI (q.2.1 s)) t)) t < t
    · rw [if_pos z, df (fun y => y rfl), df (by omega)]; rfl
    · rw [if_neg z, dt (by decide : ¬ (1 : Int32) = 0), dt (by omega)]; rfl
  · have e2 : nxq n tr q (s * 24 + t) = -2 := Classical.byContradiction (fun z => hto (no.mp z))
    have l0 : decide (¬ (if lst (fun i => decide (nxq n tr q (s * 24 + i) = nxq n tr q (s * 24 + t))) t < t then (0 : Int32) else if nxq n tr q (s * 24 + t) = (-2 : Int32) then (0 : Int32) else (1 : Int32)) = 0) = false := by
      rw [if_pos e2]
      split <;> exact df (fun y => y rfl)
    rw [l0]
    by_cases c1 : t < n
    · rw [dt c1, nwM_f]; rfl
      unfold moM; rw [oM hT c1 hy]
      rcases z_Tr_isOpenIn (gX tr t) (q.2.1 s) with w | w
      · exact w
      · exact absurd ⟨c1, dt (P := ¬ s_Tr_isOpenIn (gX tr t) (q.2.1 s) = 0) (by rw [w]; decide)⟩ hto
    · rw [df c1]; rfl
theorem isNew_congr {f g : Nat → Int32} {s t : Nat} (h : ∀ i, i ≤ t → f (s * 24 + i) = g (s * 24 + i)) : s_Sp_isNewNext f s t = s_Sp_isNewNext g s t := by
  unfold s_Sp_isNewNext
  rw [lst_congr (n := t) (fun i hi => by rw [h i (by omega), h t (Nat.le_refl _)]), h t (Nat.le_refl _)]
theorem first_eq (hT : RMt M n tr) {q : Bq} (hk : q.1 ≤ 300) (hq : okq n tr q) (hw : bwf n q) (hR : RMq M q) {s : Nat} (hs : s < q.1) : (if lst (fun i => decide (¬ nxq n tr q (s * 24 + i) = (-2 : Int32))) 24 < 24 then nxq n tr q (s * 24 + lst (fun i => decide (¬ nxq n tr q (s * 24 + i) = (-2 : Int32))) 24) else (-2 : Int32)) = ftM M n q.1 (cvI (q.2.1 s)) := by
  have hn := hT.2.1
  have hy := hw.2.2.1 s hs
  have ep : ∀ t, t < n → decide (¬ moM M (cvI (q.2.1 s)) t = 0) = opn tr t (q.2.1 s) := fun t ht => by unfold moM; rw [oM hT ht hy]; rfl
  have eq24 : ∀ t, t < 24 → decide (¬ nxq n tr q (s * 24 + t) = (-2 : Int32)) = (decide (t < n) && opn tr t (q.2.1 s)) := fun t ht => by
    have no := nxq_open (n := n) (tr := tr) (q := q) (s := s) hk ht
    by_cases z : t < n ∧ opn tr t (q.2.1 s) = true
    · rw [dt (no.mpr z), dt z.1, z.2]; rfl
    · rw [df (fun w => z (no.mp w))]
      by_cases c1 : t < n
      · rw [dt c1]
        rcases hb : opn tr t (q.2.1 s) with _ | _
        · rfl
        · exact absurd ⟨c1, hb⟩ z
      · rw [df c1]; rfl
  rw [lst_congr eq24]
  unfold ftM
  rw [lst_congr ep]
  by_cases z : lst (fun t => opn tr t (q.2.1 s)) n < n
  · have ho := lst_yes (fun t => opn tr t (q.2.1 s)) n z
    have hno := lst_no (fun t => opn tr t (q.2.1 s)) n
    rw [if_pos z]
    generalize lst (fun t => opn tr t (q.2.1 s)) n = t0 at z ho hno
    have e24 : lst (fun t => decide (t < n) && opn tr t (q.2.1 s)) 24 = t0 := lst_at (by omega) (by show (decide (t0 < n) && opn tr t0 (q.2.1 s)) = true; rw [dt z, ho]; rfl) (fun j hj => by show (decide (j < n) && opn tr j (q.2.1 s)) = false; rw [hno j hj, Bool.and_false])
    rw [e24, if_pos (by omega), nxq_is z hn ho]
    obtain ⟨l1, l2⟩ := lM hT z hy ho
    unfold mlM
    rw [l1, mFind_fnd hR hw l2, if_pos (hq s hs t0 z ho)]
  · rw [if_neg z]
    have hno := lst_no (fun t => opn tr t (q.2.1 s)) n
    rw [lst_all (fun j hj => ?_), if_neg (Nat.lt_irrefl _)]
    show (decide (j < n) && opn tr j (q.2.1 s)) = false
    by_cases y : j < n
    · rw [hno j (by have := lst_le (fun t => opn tr t (q.2.1 s)) n; omega), Bool.and_false]
    · rw [df y]; rfl
theorem r_state (h : Rl X M n tr c cm v x nn k o) {a0 a1 r r' : Int32}
    (hX : (s_Ds_isBelow a1 13 = 0 → r = -1) ∧ (¬ s_Ds_isBelow a1 13 = 0 → (∀ s, s < ks o → a0 ≠ nI s) → r = -2) ∧ (¬ s_Ds_isBelow a1 13 = 0 → ∀ s, s < ks o → a0 = nI s → (a1 = 10 → r = X 8 s) ∧ (a1 = 11 → r = (nI (cnt (fun i => decide (¬ s_Sp_isNewNext (X 9) s i = 0)) 24))) ∧ (a1 = 12 → r = (if lst (fun i => decide (¬ X 9 (s * 24 + i) = (-2 : Int32))) 24 < 24 then X 9 (s * 24 + lst (fun i => decide (¬ X 9 (s * 24 + i) = (-2 : Int32))) 24) else (-2 : Int32))) ∧ (¬ a1 = 10 → ¬ a1 = 11 → ¬ a1 = 12 → r = s_Pk_part (X 4 s) a1)) ∧ X = X')
    (hM : (s_Mo_in a1 0 12 = 0 → r' = -1) ∧ (¬ s_Mo_in a1 0 12 = 0 → M 0 18 = 0 → r' = -2) ∧ (¬ s_Mo_in a1 0 12 = 0 → ¬ M 0 18 = 0 → (∀ s, s < k → a0 ≠ nI s) → r' = -2) ∧ (¬ s_Mo_in a1 0 12 = 0 → ¬ M 0 18 = 0 → ∀ s, s < k → a0 = nI s → (a1 < 10 → r' = s_Mo_told (M 8 s) a1) ∧ (a1 = 10 → r' = nI (mOC M n (M 8 s))) ∧ (a1 = 11 → r' = nI (cnt (nwM M (M 8 s)) n)) ∧ (¬ a1 < 10 → ¬ a1 = 10 → ¬ a1 = 11 → r' = ftM M n k (M 8 s))) ∧ M = M') : r = r' := by
  rw [in12] at hM
  by_cases q : s_Ds_isBelow a1 13 = 0
  · rw [hX.1 q, hM.1 q]
  · cases o with
    | none => rw [hX.2.1 q (fun s hs => absurd hs (Nat.not_lt_zero _)), hM.2.1 q h.2.2.2.2.2.2]
    | some qq =>
      obtain ⟨a1', a2, a3, a4, a5, a6, a7⟩ := h.2.2.2.2.2
      have hw := R_bwf h a3
      have hn := h.1.2.1.1
      have hk := hw.2.1
      have hok := okq_of a6 hn
      have hne : ¬ M 0 18 = 0 := by rw [a1']; decide
      subst a2
      rcases ex_or (a0 := a0) (m := qq.1) with z | ⟨s, hs, e⟩
      · rw [hX.2.1 q z, hM.2.2.1 q hne z]
      · obtain ⟨x1, x2, x3, x4⟩ := hX.2.2.1 q s hs e
        obtain ⟨m1, m2, m3, m4⟩ := hM.2.2.2.1 q hne s hs e
        obtain ⟨w, hw13, rfl⟩ := ib_t (n := 13) (by decide) q
        have nx9 : ∀ i, i < 24 → X 9 (s * 24 + i) = nxq n tr qq (s * 24 + i) := fun i hi => a6.1 _ (by omega)
        rw [(a7.2.1 s hs).1] at m1 m2 m3 m4
        have c10 : nI w = (10 : Int32) ↔ w = 10 := nI_eq (b := 10) (by omega) (by decide)
        have c11 : nI w = (11 : Int32) ↔ w = 11 := nI_eq (b := 11) (by omega) (by decide)
        have c12 : nI w = (12 : Int32) ↔ w = 12 := nI_eq (b := 12) (by omega) (by decide)
        have cl : nI w < (10 : Int32) ↔ w < 10 := nI_ltI (b := 10) (by omega) (by decide)
        rcases (show w < 10 ∨ w = 10 ∨ w = 11 ∨ w = 12 by omega) with y | y | y | y
        · rw [x4 (fun z => by have := c10.mp z; omega) (fun z => by have := c11.mp z; omega) (fun z => by have := c12.mp z; omega), m1 (cl.mpr y), (a4.2.1 s hs).1, S_told (hw.2.2.1 s hs) y]
        · rw [x1 (c10.mpr y), m2 (c10.mpr y), a6.2.2.1 s hs, ocn_eq hn hs, mOC_eq h.1.2.2 (hw.2.2.1 s hs)]
        · rw [x2 (c11.mpr y), m3 (c11.mpr y)]
          rw [cnt_congr (n := 24) (fun i hi => by rw [isNew_congr (fun j hj => nx9 j (by omega)), nw_eq h.1.2.2 hk hok hw hs hi]), cnt_ext hn]
        · rw [x3 (c12.mpr y), m4 (fun z => by have := cl.mp z; omega) (fun z => by have := c10.mp z; omega) (fun z => by have := c11.mp z; omega), ← first_eq h.1.2.2 hk hok hw a7 hs]
          have e1 : lst (fun i => decide (¬ X 9 (s * 24 + i) = (-2 : Int32))) 24 = lst (fun i => decide (¬ nxq n tr qq (s * 24 + i) = (-2 : Int32))) 24 := lst_congr (fun i hi => by rw [nx9 i hi])
          rw [e1]
          by_cases z : lst (fun i => decide (¬ nxq n tr qq (s * 24 + i) = (-2 : Int32))) 24 < 24
          · rw [if_pos z, if_pos z, nx9 _ z]
          · rw [if_neg z, if_neg z]
theorem r_now (h : Rl X M n tr c cm v x nn k o) {a0 r r' : Int32}
    (hX : (s_Ds_isBelow a0 14 = 0 → r = -1) ∧ (¬ s_Ds_isBelow a0 14 = 0 → (a0 = 10 → r = (nI (cnt (fun i => decide (¬ s_Tr_isOpenIn (X (17 + i)) (X 0 7) = 0)) n))) ∧ (a0 = 11 → r = (s_Sp_numberOf nn (X 3 9) (X 4) (X 0 7))) ∧ (a0 = 12 → r = (nI (cnt (fun i => decide (¬ s_Cm_failsIn (X (41 + i)) (X 0 7) = 0)) c))) ∧ (a0 = 13 → r = X 0 8) ∧ (¬ a0 = 10 → ¬ a0 = 11 → ¬ a0 = 12 → ¬ a0 = 13 → r = s_Pk_part (X 0 7) a0)) ∧ X = X')
    (hM : (s_Mo_in a0 0 13 = 0 → r' = -1) ∧ (¬ s_Mo_in a0 0 13 = 0 → (a0 < 10 → r' = s_Mo_told (M 0 10) a0) ∧ (a0 = 10 → r' = (nI (mOC M n (M 0 10)))) ∧ (a0 = 13 → r' = M 0 11) ∧ (a0 = 11 → (M 0 18 = 0 ∨ (mFind (M 8) k (M 0 10)) < 0 → r' = -2) ∧ (¬ M 0 18 = 0 → ¬ (mFind (M 8) k (M 0 10)) < 0 → r' = (mFind (M 8) k (M 0 10)))) ∧ (¬ a0 < 10 → ¬ a0 = 10 → ¬ a0 = 13 → ¬ a0 = 11 → r' = (nI (cnt (fun i => decide (¬ s_Mo_failsIn (M 5 i) (M 6 i) (M 7 i) (M 0 10) = 0)) c)))) ∧ M = M') : r = r' := by
  obtain ⟨⟨h1, h2, h3⟩, ⟨h4, h5, h6⟩, ⟨h7, h8, h9⟩, ⟨h10, h11, h12, h13⟩, ⟨h14, h15, h16⟩, h17⟩ := id h
  rw [in13] at hM
  by_cases q : s_Ds_isBelow a0 14 = 0
  · rw [hX.1 q, hM.1 q]
  · obtain ⟨x1, x2, x3, x4, x5⟩ := hX.2.1 q
    obtain ⟨m1, m2, m3, m4, m5⟩ := hM.2.1 q
    obtain ⟨w, hw, rfl⟩ := ib_t (n := 14) (by decide) q
    rw [h12] at m1 m2 m4 m5
    rw [h11] at x1 x2 x3 x5
    have c10 : nI w = (10 : Int32) ↔ w = 10 := nI_eq (b := 10) (by omega) (by decide)
    have c11 : nI w = (11 : Int32) ↔ w = 11 := nI_eq (b := 11) (by omega) (by decide)
    have c12 : nI w = (12 : Int32) ↔ w = 12 := nI_eq (b := 12) (by omega) (by decide)
    have c13 : nI w = (13 : Int32) ↔ w = 13 := nI_eq (b := 13) (by omega) (by decide)
    have cl : nI w < (10 : Int32) ↔ w < 10 := nI_ltI (b := 10) (by omega) (by decide)
    rcases (show w < 10 ∨ w = 10 ∨ w = 11 ∨ w = 12 ∨ w = 13 by omega) with y | y | y | y | y
    · rw [x5 (fun z => by have := c10.mp z; omega) (fun z => by have := c11.mp z; omega) (fun z => by have := c12.mp z; omega) (fun z => by have := c13.mp z; omega), m1 (cl.mpr y), S_told h10 y]
    · rw [x1 (c10.mpr y), m2 (c10.mpr y), mOC_eq h3 h10]
      exact congrArg nI (cnt_congr (fun i hi => by show decide (¬ s_Tr_isOpenIn (X (17 + i)) x = 0) = decide (¬ s_Tr_isOpenIn (gX tr i) x = 0); rw [s_open_congr (h2.2 i hi).2]))
    · rw [x2 (c11.mpr y)]
      obtain ⟨m6, m7⟩ := m4 (c11.mpr y)
      cases o with
      | none =>
        rw [m6 (Or.inl h17.2), h17.1]; rfl
      | some qq =>
        obtain ⟨a1', a2, a3, a4, a5, a6, a7⟩ := h17
        have hwf := R_bwf h a3
        have hk := hwf.2.1
        subst a2
        rw [mFind_fnd a7 hwf h10] at m6 m7
        rw [ht_find a4 a5 hwf]
        by_cases z : fnd qq x < qq.1
        · rw [if_pos z] at m6 m7 ⊢
          exact (m7 (by rw [a1']; decide) (nI_pos (by omega))).symm
        · rw [if_neg z] at m6 m7 ⊢
          exact (m6 (Or.inr (by decide))).symm
    · rw [x3 (c12.mpr y), m5 (fun z => by have := cl.mp z; omega) (fun z => by have := c10.mp z; omega) (fun z => by have := c13.mp z; omega) (fun z => by have := c11.mp z; omega)]
      rw [cnt_congr (n := c) (fun i hi => by rw [← fl_eq h hi h10])]
    · rw [x4 (c13.mpr y), m3 (c13.mpr y), h13]
end OPS4
