section OPS2
variable {X M X' M' : um_M} {n : Nat} {tr : Nat → Nat → Nat} {c : Nat} {cm : Nat → Nat → Int32} {v : Nat} {x : Int32} {nn : Nat → Nat} {k : Nat} {o : Option Bq}
def cmU (cm : Nat → Nat → Int32) (t : Nat) (a0 a1 a2 : Int32) : Nat → Nat → Int32 := fun s => if s = t then (fun z => match z with | 0 => a0 | 1 => a1 | _ => a2) else cm s
theorem said1 {a0 a1 a2 : Int32} (h : ¬ s_Cm_isAsSaid a0 a1 a2 = 0) : s_Cm_isAsSaid a0 a1 a2 = 1 := (z_Cm_isAsSaid a0 a1 a2).resolve_left h
theorem Rl_sp {X' M' : um_M} (h : Rl X M n tr c cm v x nn k o) {n' c' : Nat} {cm' : Nat → Nat → Int32} {x' : Int32} (h1 : X' 0 4 = nI n ∧ RXt X' n tr ∧ RMt M' n tr) (h2 : X' 0 5 = nI c' ∧ RMc M' c' cm' ∧ ∀ i, i < c' → ∀ j, j < 3 → X' (41 + i) j = cm' i j) (h3 : X' 0 6 = nI v ∧ M' 0 9 = nI v) (h4 : vst x' ∧ X' 0 7 = x' ∧ M' 0 10 = cvI x' ∧ X' 0 8 = M' 0 11) (h5 : ∀ w, 3 ≤ w → w ≤ 12 → X' w = X w) (h6 : ∀ w, 8 ≤ w → w ≤ 11 → M' w = M w) (h7 : M' 0 17 = M 0 17 ∧ M' 0 18 = M 0 18) : Rl X' M' n tr c' cm' v x' nn k o := by
  obtain ⟨_, _, ⟨g7, _, _⟩, _, ⟨g14, g15, g16⟩, g17⟩ := h
  refine ⟨h1, h2, ⟨g7, h3⟩, h4, ⟨fun j hj => by rw [h5 12 (by decide) (by decide)]; exact g14 j hj, g15, by rw [h7.1]; exact g16⟩, ?_⟩
  cases o with
  | none => exact ⟨by rw [h5 3 (by decide) (by decide)]; exact g17.1, by rw [h7.2]; exact g17.2⟩
  | some q =>
    obtain ⟨a1, a2, a3, a4, a5, a6, a7⟩ := g17
    refine ⟨by rw [h7.2]; exact a1, a2, a3, RXs_c a4 (h5 3 (by decide) (by decide)) (h5 4 (by decide) (by decide)) (h5 5 (by decide) (by decide)) (h5 6 (by decide) (by decide)) (h5 7 (by decide) (by decide)), by rw [h5 12 (by decide) (by decide)]; exact a5, ?_, ?_⟩
    · unfold RXp
      rw [h5 9 (by decide) (by decide), h5 8 (by decide) (by decide), h5 10 (by decide) (by decide), h5 11 (by decide) (by decide)]
      exact a6
    · unfold RMq
      rw [h7.1, h6 8 (by decide) (by decide), h6 9 (by decide) (by decide), h6 10 (by decide) (by decide), h6 11 (by decide) (by decide)]
      exact a7
theorem o_claim (h : Rl X M n tr c cm v x nn k o) {a0 a1 a2 r r' : Int32}
    (hX : (s_Cm_isAsSaid a0 a1 a2 = 0 → r = -1 ∧ X = X') ∧ (¬ s_Cm_isAsSaid a0 a1 a2 = 0 → c = 6 → r = -3 ∧ X = X') ∧ (¬ s_Cm_isAsSaid a0 a1 a2 = 0 → ¬ c = 6 → r = nI c ∧ um_set (n_Cm_become X c a0 a1 a2) 0 5 (nI (c + 1)) = X'))
    (hM : (s_Cm_isAsSaid a0 a1 a2 = 0 → r' = -1 ∧ M = M') ∧ (¬ s_Cm_isAsSaid a0 a1 a2 = 0 → c = 6 → r' = -3 ∧ M = M') ∧ (¬ s_Cm_isAsSaid a0 a1 a2 = 0 → ¬ c = 6 → r' = nI c ∧ um_set (um_set (um_set (um_set M 5 c a0) 6 c a1) 7 c a2) 0 8 (nI (c + 1)) = M')) : r = r' ∧ Rel X' M' := by
  obtain ⟨⟨h1, h2, h3⟩, ⟨h4, h5, h6⟩, ⟨h7, h8, h9⟩, ⟨h10, h11, h12, h13⟩, ⟨h14, h15, h16⟩, h17⟩ := id h
  by_cases q : s_Cm_isAsSaid a0 a1 a2 = 0
  · obtain ⟨e1, rfl⟩ := hX.1 q
    obtain ⟨e2, rfl⟩ := hM.1 q
    exact ⟨by rw [e1, e2], n, tr, c, cm, v, x, nn, k, o, h⟩
  · by_cases q2 : c = 6
    · obtain ⟨e1, rfl⟩ := hX.2.1 q q2
      obtain ⟨e2, rfl⟩ := hM.2.1 q q2
      exact ⟨by rw [e1, e2], n, tr, c, cm, v, x, nn, k, o, h⟩
    · obtain ⟨e1, rfl⟩ := hX.2.2 q q2
      obtain ⟨e2, rfl⟩ := hM.2.2 q q2
      have hc := h5.2.1
      have ek : ∀ w, w ≠ 41 + c → w ≠ 0 → um_set (n_Cm_become X c a0 a1 a2) 0 5 (nI (c + 1)) w = X w := fun w y1 y2 => by rw [um_k y2, becC_k y1]
      have e0 : ∀ w, w ≠ 5 → um_set (n_Cm_become X c a0 a1 a2) 0 5 (nI (c + 1)) 0 w = X 0 w := fun w y => by rw [um_j y, becC_k (by omega)]
      have m0 : ∀ w, w ≠ 8 → um_set (um_set (um_set (um_set M 5 c a0) 6 c a1) 7 c a2) 0 8 (nI (c + 1)) 0 w = M 0 w := fun w y => by rw [um_j y, um_k (by decide), um_k (by decide), um_k (by decide)]
      have mk : ∀ w, w ≠ 0 → w ≠ 5 → w ≠ 6 → w ≠ 7 → um_set (um_set (um_set (um_set M 5 c a0) 6 c a1) 7 c a2) 0 8 (nI (c + 1)) w = M w := fun w y0 y1 y2 y3 => by rw [um_k y0, um_k y3, um_k y2, um_k y1]
      refine ⟨by rw [e1, e2], n, tr, c + 1, cmU cm c a0 a1 a2, v, x, nn, k, o, Rl_sp (n' := n) h ⟨by rw [e0 4 (by decide)]; exact h1, RXt_c h2 (fun t ht => ek (17 + t) (by omega) (by omega)), ?_⟩ ⟨um_self, ⟨um_self, by omega, fun s hs => ?_⟩, fun s hs w hw => ?_⟩ ⟨by rw [e0 6 (by decide)]; exact h8, by rw [m0 9 (by decide)]; exact h9⟩ ⟨h10, by rw [e0 7 (by decide)]; exact h11, by rw [m0 10 (by decide)]; exact h12, by rw [e0 8 (by decide), m0 11 (by decide)]; exact h13⟩ (fun w y1 y2 => ek w (by omega) (by omega)) (fun w y1 y2 => mk w (by omega) (by omega) (by omega) (by omega)) ⟨m0 17 (by decide), m0 18 (by decide)⟩⟩
      · unfold RMt
        rw [m0 7 (by decide), mk 1 (by decide) (by decide) (by decide) (by decide), mk 2 (by decide) (by decide) (by decide) (by decide), mk 3 (by decide) (by decide) (by decide) (by decide), mk 4 (by decide) (by decide) (by decide) (by decide)]
        exact h3
      · have k5 : um_set (um_set (um_set (um_set M 5 c a0) 6 c a1) 7 c a2) 0 8 (nI (c + 1)) 5 s = if s = c then a0 else M 5 s := by
          rw [um_k (by decide), um_k (by decide), um_k (by decide), um_ap]
          by_cases z : s = c
          · rw [if_pos ⟨rfl, z⟩, if_pos z]
          · rw [if_neg (fun y => z y.2), if_neg z]
        have k6 : um_set (um_set (um_set (um_set M 5 c a0) 6 c a1) 7 c a2) 0 8 (nI (c + 1)) 6 s = if s = c then a1 else M 6 s := by
          rw [um_k (by decide), um_k (by decide), um_ap]
          by_cases z : s = c
          · rw [if_pos ⟨rfl, z⟩, if_pos z]
          · rw [if_neg (fun y => z y.2), if_neg z, um_k (by decide)]
        have k7 : um_set (um_set (um_set (um_set M 5 c a0) 6 c a1) 7 c a2) 0 8 (nI (c + 1)) 7 s = if s = c then a2 else M 7 s := by
          rw [um_k (by decide), um_ap]
          by_cases z : s = c
          · rw [if_pos ⟨rfl, z⟩, if_pos z]
          · rw [if_neg (fun y => z y.2), if_neg z, um_k (by decide), um_k (by decide)]
        rw [k5, k6, k7]
        by_cases z : s = c
        · rw [if_pos z, if_pos z, if_pos z, show cmU cm c a0 a1 a2 s = (fun z => match z with | 0 => a0 | 1 => a1 | _ => a2) from if_pos z]
          exact ⟨said1 q, rfl, rfl, rfl⟩
        · rw [if_neg z, if_neg z, if_neg z, show cmU cm c a0 a1 a2 s = cm s from if_neg z]
          exact h5.2.2 s (by omega)
      · by_cases z : s = c
        · subst z
          have e : cmU cm s a0 a1 a2 s = (fun z => match z with | 0 => a0 | 1 => a1 | _ => a2) := if_pos rfl
          rw [e, um_k (by omega)]
          unfold n_Cm_become
          rcases (show w = 0 ∨ w = 1 ∨ w = 2 by omega) with y | y | y <;> subst y
          · rw [um_j (by decide), um_j (by decide), um_self]; rfl
          · rw [um_j (by decide), um_self]; rfl
          · rw [um_self]; rfl
        · rw [show cmU cm c a0 a1 a2 s = cm s from if_neg z, ek (41 + s) (by omega) (by omega)]
          exact h6 s (by omega) w hw
theorem o_explore (h : Rl X M n tr c cm v x nn k o) {r r' : Int32}
    (hX : fXE X X' ∧ ((∃ q, spc n tr (nI v) = some q ∧ r = nI q.1 ∧ RXs X' q ∧ (∃ nn, RXh (X' 12) q nn) ∧ RXp X' n tr q (q.1 * 24)) ∨ (spc n tr (nI v) = none ∧ r = -4 ∧ X' 3 9 = 0 ∧ ∃ nn : Nat → Nat, ∀ j, j < 1024 → X' 12 j = nI (nn j) ∧ nn j ≤ 300)))
    (hM : fME M M' ∧ ((spc n tr (nI v) = none ∧ r' = -4 ∧ M' 0 18 = 0 ∧ ∃ k, k ≤ 300 ∧ M' 0 17 = nI k) ∨ (∃ q, spc n tr (nI v) = some q ∧ r' = nI q.1 ∧ M' 0 18 = 1 ∧ RMq M' q))) : r = r' ∧ Rel X' M' := by
  obtain ⟨⟨h1, h2, h3⟩, ⟨h4, h5, h6⟩, ⟨h7, h8, h9⟩, ⟨h10, h11, h12, h13⟩, ⟨h14, h15, h16⟩, h17⟩ := id h
  obtain ⟨fX, hX⟩ := hX
  obtain ⟨fM, hM⟩ := hM
  have g1 : X' 0 4 = nI n ∧ RXt X' n tr ∧ RMt M' n tr := ⟨by rw [fX 0 (by decide)]; exact h1, RXt_f h2 fX, RMt_f h3 fM⟩
  have g2 : X' 0 5 = nI c ∧ RMc M' c cm ∧ ∀ i, i < c → ∀ j, j < 3 → X' (41 + i) j = cm i j := by
    refine ⟨by rw [fX 0 (by decide)]; exact h4, ?_, fun i hi j hj => by rw [fX (41 + i) (by omega)]; exact h6 i hi j hj⟩
    unfold RMc
    rw [fM.2 8 (by decide) (by decide), fM.1 5 (by decide) (by decide), fM.1 6 (by decide) (by decide), fM.1 7 (by decide) (by decide)]
    exact h5
  have g3 : v < 256 ∧ X' 0 6 = nI v ∧ M' 0 9 = nI v := ⟨h7, by rw [fX 0 (by decide)]; exact h8, by rw [fM.2 9 (by decide) (by decide)]; exact h9⟩
  have g4 : vst x ∧ X' 0 7 = x ∧ M' 0 10 = cvI x ∧ X' 0 8 = M' 0 11 := ⟨h10, by rw [fX 0 (by decide)]; exact h11, by rw [fM.2 10 (by decide) (by decide)]; exact h12, by rw [fX 0 (by decide), fM.2 11 (by decide) (by decide)]; exact h13⟩
  have hl := S_led (fun t ht => (h3.2.2 t ht).1)
  rcases hX with ⟨q, a1, a2, a3, ⟨nn', a4⟩, a5⟩ | ⟨a1, a2, a3, nn', a4⟩
  · rcases hM with ⟨b1, _⟩ | ⟨q', b1, b2, b3, b4⟩
    · rw [a1] at b1; cases b1
    · have e : q = q' := Option.some.inj (a1.symm.trans b1)
      subst e
      have hw := bfs_wf hl (S_first h7).2 300 q a1
      exact ⟨by rw [a2, b2], n, tr, c, cm, v, x, nn', q.1, some q, g1, g2, g3, g4, ⟨fun j hj => ⟨(a4.1 j hj).1, by have := (a4.1 j hj).2; have := hw.2.1; omega⟩, hw.2.1, b4.1⟩, b3, rfl, a1, a3, a4, a5, b4⟩
  · rcases hM with ⟨b1, b2, b3, k', b4, b5⟩ | ⟨q', b1, _⟩
    · exact ⟨by rw [a2, b2], n, tr, c, cm, v, x, nn', k', none, g1, g2, g3, g4, ⟨a4, b4, b5⟩, a3, b3⟩
    · rw [a1] at b1; cases b1
theorem o_walk (h : Rl X M n tr c cm v x nn k o) {a0 r r' : Int32}
    (hX : ((∀ t, t < n → a0 ≠ nI t) → r = 0 ∧ X = X') ∧ ∀ t, t < n → a0 = nI t → (s_Tr_isOpenIn (X (17 + t)) (X 0 7) = 0 → r = 0 ∧ X = X') ∧ (¬ s_Tr_isOpenIn (X (17 + t)) (X 0 7) = 0 → r = 1 ∧ um_set (um_set X 0 7 (s_Tr_leadsFrom (X (17 + t)) (X 0 7))) 0 8 (X 0 8 + 1) = X'))
    (hM : ((∀ t, t < n → a0 ≠ nI t) → r' = 0 ∧ M = M') ∧ ∀ t, t < n → a0 = nI t → (s_Mo_isOpen (M 1 t) (M 2 t) (M 4 t) (M 0 10) = 0 → r' = 0 ∧ M = M') ∧ (¬ s_Mo_isOpen (M 1 t) (M 2 t) (M 4 t) (M 0 10) = 0 → r' = 1 ∧ um_set (um_set M 0 10 (s_Mo_leads (M 4 t) (M 1 t) (M 3 t) (M 0 10))) 0 11 (M 0 11 + 1) = M')) : r = r' ∧ Rel X' M' := by
  obtain ⟨⟨h1, h2, h3⟩, ⟨h4, h5, h6⟩, ⟨h7, h8, h9⟩, ⟨h10, h11, h12, h13⟩, ⟨h14, h15, h16⟩, h17⟩ := id h
  by_cases q0 : ∀ t, t < n → a0 ≠ nI t
  · obtain ⟨e1, rfl⟩ := hX.1 q0
    obtain ⟨e2, rfl⟩ := hM.1 q0
    exact ⟨by rw [e1, e2], n, tr, c, cm, v, x, nn, k, o, h⟩
  · obtain ⟨t, hnt⟩ := Classical.not_forall.mp q0
    have ht : t < n := Classical.byContradiction (fun y => hnt (fun z => absurd z y))
    have ea : a0 = nI t := Classical.byContradiction (fun y => hnt (fun _ => y))
    obtain ⟨x1, x2⟩ := hX.2 t ht ea
    obtain ⟨m1, m2⟩ := hM.2 t ht ea
    obtain ⟨hok, d1, d2, d3, d4⟩ := h3.2.2 t ht
    have hg := (h2.2 t ht).2
    rw [h11, s_open_congr hg] at x1 x2
    rw [d1, d2, d4, h12, S_open hok h10] at m1 m2
    by_cases qo : s_Tr_isOpenIn (gX tr t) x = 0
    · obtain ⟨e1, rfl⟩ := x1 qo
      obtain ⟨e2, rfl⟩ := m1 qo
      exact ⟨by rw [e1, e2], n, tr, c, cm, v, x, nn, k, o, h⟩
    · obtain ⟨e1, rfl⟩ := x2 qo
      obtain ⟨e2, rfl⟩ := m2 qo
      have ho : opn tr t x = true := dt qo
      obtain ⟨sl1, sl2⟩ := S_lead hok h10 ho
      rw [s_lead_congr hg, d3, sl1]
      refine ⟨by rw [e1, e2], n, tr, c, cm, v, led tr t x, nn, k, o, Rl_sp (n' := n) h ⟨h1, RXt_c h2 (fun t ht => by rw [um_k (by omega), um_k (by omega)]), ?_⟩ ⟨h4, ?_, fun i hi j hj => by rw [um_k (by omega), um_k (by omega)]; exact h6 i hi j hj⟩ ⟨h8, h9⟩ ⟨sl2, rfl, rfl, by show X 0 8 + 1 = M 0 11 + 1; rw [h13]⟩ (fun w y1 y2 => by rw [um_k (by omega), um_k (by omega)]) (fun w y1 y2 => by rw [um_k (by omega), um_k (by omega)]) ⟨rfl, rfl⟩⟩
      · exact h3
      · exact h5
theorem o_go (h : Rl X M n tr c cm v x nn k o) {a0 r r' : Int32} {ks : Nat} (hks : X 3 9 = nI ks) (hk3 : ks ≤ 300)
    (hX : ((∀ s, s < ks → a0 ≠ nI s) → r = 0 ∧ X = X') ∧ ∀ s, s < ks → a0 = nI s → r = 1 ∧ um_set X 0 7 (X 4 s) = X')
    (hM : (M 0 18 = 0 → r' = 0 ∧ M = M') ∧ (¬ M 0 18 = 0 → (∀ s, s < k → a0 ≠ nI s) → r' = 0 ∧ M = M') ∧ (¬ M 0 18 = 0 → ∀ s, s < k → a0 = nI s → r' = 1 ∧ um_set M 0 10 (M 8 s) = M')) : r = r' ∧ Rel X' M' := by
  obtain ⟨⟨h1, h2, h3⟩, ⟨h4, h5, h6⟩, ⟨h7, h8, h9⟩, ⟨h10, h11, h12, h13⟩, ⟨h14, h15, h16⟩, h17⟩ := id h
  cases o with
  | none =>
    rw [h17.1] at hks
    have e0 : ks = 0 := (nI_eq (b := 0) (by omega) (by decide)).mp hks.symm
    obtain ⟨e1, rfl⟩ := hX.1 (fun s hs => by omega)
    obtain ⟨e2, rfl⟩ := hM.1 h17.2
    exact ⟨by rw [e1, e2], n, tr, c, cm, v, x, nn, k, none, h⟩
  | some q =>
    obtain ⟨a1, a2, a3, a4, a5, a6, a7⟩ := h17
    rw [a4.1] at hks
    have e0 : q.1 = ks := (nI_eq (by omega) (by omega)).mp hks
    have hne : ¬ M 0 18 = 0 := by rw [a1]; decide
    subst e0
    have hw := bfs_wf (S_led (fun t ht => (h3.2.2 t ht).1)) (S_first h7).2 300 q a3
    by_cases q0 : ∀ s, s < q.1 → a0 ≠ nI s
    · obtain ⟨e1, rfl⟩ := hX.1 q0
      obtain ⟨e2, rfl⟩ := hM.2.1 hne (by rw [a2]; exact q0)
      exact ⟨by rw [e1, e2], n, tr, c, cm, v, x, nn, k, some q, h⟩
    · obtain ⟨s, hns⟩ := Classical.not_forall.mp q0
      have hs : s < q.1 := Classical.byContradiction (fun y => hns (fun z => absurd z y))
      have ea : a0 = nI s := Classical.byContradiction (fun y => hns (fun _ => y))
      obtain ⟨e1, rfl⟩ := hX.2 s hs ea
      obtain ⟨e2, rfl⟩ := hM.2.2 hne s (by omega) ea
      rw [(a4.2.1 s hs).1, (a7.2.1 s hs).1]
      exact ⟨by rw [e1, e2], n, tr, c, cm, v, q.2.1 s, nn, k, some q, Rl_sp (n' := n) h ⟨h1, RXt_c h2 (fun t ht => by rw [um_k (by omega)]), h3⟩ ⟨h4, h5, fun i hi j hj => by rw [um_k (by omega)]; exact h6 i hi j hj⟩ ⟨h8, h9⟩ ⟨hw.2.2.1 s hs, rfl, rfl, h13⟩ (fun w y1 y2 => by rw [um_k (by omega)]) (fun w y1 y2 => by rw [um_k (by omega)]) ⟨rfl, rfl⟩⟩
end OPS2
