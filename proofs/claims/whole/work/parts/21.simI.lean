theorem S_open {tr : Nat → Nat → Nat} {t : Nat} (hf : trok (tr t)) {x : Int32} (hx : vst x) : s_Mo_isOpen (nI (tr t 0)) (nI (tr t 1)) (nI (tr t 3)) (cvI x) = s_Tr_isOpenIn (gX tr t) x := by
  obtain ⟨c, hc, rfl⟩ := vst_to hx
  rw [cv_en hc]
  exact sim_open hf hc
theorem open_imp {tr : Nat → Nat → Nat} {t : Nat} {c : Nat → Nat} (hf : trok (tr t)) (hc : cok c) (h : opn tr t (nI (enX c)) = true) : (tr t 3 / 16 = 6 → c 7 < 2) ∧ (tr t 3 / 16 = 7 → 0 < c 7) := by
  have h7 : c 7 ≤ 2 := hc.2.2.2.2.2.2.2.1
  have h := of_decide_eq_true h
  unfold s_Tr_isOpenIn at h
  by_cases q : s_Pk_place (nI (enX c)) (gX tr t 0) = gX tr t 1
  · rw [if_pos q] at h
    by_cases q2 : s_Tr_allows (gX tr t) (nI (enX c)) = 0
    · rw [if_pos q2] at h; exact absurd rfl h
    · unfold s_Tr_allows at q2
      have e3 : gX tr t 3 = nI (tr t 3 / 16) := rfl
      rw [e3, x_ln hc] at q2
      refine ⟨fun e => ?_, fun e => ?_⟩
      · rw [e] at q2
        simp (decide := true) only [↓reduceIte] at q2
        rcases Nat.lt_or_ge (c 7) 2 with z | z
        · exact z
        · exact absurd (if_pos (nI_le (a := 2) z (by omega))) q2
      · rw [e] at q2
        simp (decide := true) only [↓reduceIte] at q2
        rcases Nat.eq_zero_or_pos (c 7) with z | z
        · rw [z] at q2; exact absurd (if_pos (by decide)) q2
        · exact z
  · rw [if_neg q] at h; exact absurd rfl h
theorem S_lead {tr : Nat → Nat → Nat} {t : Nat} (hf : trok (tr t)) {x : Int32} (hx : vst x) (ho : opn tr t x = true) : s_Mo_leads (nI (tr t 3)) (nI (tr t 0)) (nI (tr t 2)) (cvI x) = cvI (led tr t x) ∧ vst (led tr t x) := by
  obtain ⟨c, hc, rfl⟩ := vst_to hx
  obtain ⟨h6, h7⟩ := open_imp hf hc ho
  have hok : cok (va_up (eff (tr t) c) (tr t 0) (tr t 2)) := cok_p (eff_ok hf hc h6 h7) hf.1 hf.2.2.1
  rw [x_lead hf hc h6 h7, cv_en hc, m_lead hf hc h6 h7, cv_en hok]
  exact ⟨rfl, vst_of hok⟩
theorem ib4 {a : Int32} (h : ¬ s_Ds_isBelow a (4 : Int32) = 0) : ∃ i, i < 4 ∧ a = nI i := ib_t (n := 4) (by decide) h
theorem ib3 {a : Int32} (h : ¬ s_Ds_isBelow a (3 : Int32) = 0) : ∃ i, i < 3 ∧ a = nI i := ib_t (n := 3) (by decide) h
theorem S_fails {g : Nat → Int32} (hg : clok g) {x : Int32} (hx : vst x) : s_Mo_failsIn (g 0) (g 1) (g 2) (cvI x) = s_Cm_failsIn g x := by
  obtain ⟨c, hc, rfl⟩ := vst_to hx
  rw [cv_en hc]
  unfold clok s_Cm_isAsSaid at hg
  unfold s_Mo_failsIn s_Cm_failsIn
  by_cases q0 : g 0 = 0
  · rw [if_pos q0] at hg
    rw [if_pos q0, if_pos q0]
    by_cases b1 : s_Ds_isBelow (g 1) 4 = 0
    · rw [if_pos b1] at hg; exact absurd hg (by decide)
    · obtain ⟨a, ha, e⟩ := ib4 b1
      rw [e, m_var hc ha, x_var hc ha]
  · rw [if_neg q0] at hg
    rw [if_neg q0, if_neg q0]
    by_cases q1 : g 0 = 1
    · rw [if_pos q1] at hg
      rw [if_pos q1, if_pos q1]
      by_cases b1 : s_Ds_isBelow (g 1) 3 = 0
      · rw [if_pos b1] at hg; exact absurd hg (by decide)
      · obtain ⟨a, ha, e⟩ := ib3 b1
        rw [e, m_pl hc ha, x_pl hc ha]
    · rw [if_neg q1] at hg
      rw [if_neg q1, if_neg q1]
      by_cases q2 : g 0 = 2
      · rw [if_pos q2] at hg
        rw [if_pos q2, if_pos q2]
        by_cases b1 : s_Ds_isBelow (g 1) 3 = 0
        · rw [if_pos b1] at hg; exact absurd hg (by decide)
        · rw [if_neg b1] at hg
          by_cases b2 : s_Ds_isBelow (g 2) 3 = 0
          · rw [if_pos b2] at hg; exact absurd hg (by decide)
          · obtain ⟨a, ha, e⟩ := ib3 b1
            obtain ⟨b, hb, e'⟩ := ib3 b2
            rw [e, e', m_pl hc ha, x_pl hc ha, m_pl hc hb, x_pl hc hb]
      · rw [if_neg q2] at hg
        rw [if_neg q2, if_neg q2]
        by_cases q3 : g 0 = 3
        · rw [if_pos q3, if_pos q3, m_ln hc, x_ln hc]
        · rw [if_neg q3] at hg
          rw [if_neg q3, if_neg q3]
          by_cases q4 : g 0 = 4
          · rw [if_pos q4] at hg
            by_cases b1 : s_Ds_isBelow (g 1) 4 = 0
            · rw [if_pos b1] at hg; exact absurd hg (by decide)
            · rw [if_neg b1] at hg
              by_cases b2 : s_Ds_isBelow (g 2) 4 = 0
              · rw [if_pos b2] at hg; exact absurd hg (by decide)
              · obtain ⟨a, ha, e⟩ := ib4 b1
                obtain ⟨b, hb, e'⟩ := ib4 b2
                rw [e, e', m_var hc ha, x_var hc ha, m_var hc hb, x_var hc hb]
          · rw [if_neg q4] at hg; exact absurd hg (by decide)
theorem S_done {x : Int32} (hx : vst x) : s_Mo_isDone (cvI x) = s_Pk_allAtLastPlace x := by
  obtain ⟨c, hc, rfl⟩ := vst_to hx
  have hl := enM_lt hc
  rw [cv_en hc]
  unfold s_Mo_isDone s_Pk_allAtLastPlace
  rw [show s_Pk_place (nI (enX c)) (0 : Int32) = nI (c 0) from x_pl hc (v := 0) (by decide), show s_Pk_place (nI (enX c)) (1 : Int32) = nI (c 1) from x_pl hc (v := 1) (by decide), show s_Pk_place (nI (enX c)) (2 : Int32) = nI (c 2) from x_pl hc (v := 2) (by decide), pk_andN (n := enM c) (by omega) (m := 511) 9 (by decide)]
  have hh := hc
  unfold cok at hh
  have e : enM c % 512 = c 0 + 8 * c 1 + 64 * c 2 := by unfold enM; omega
  have k0 : nI (c 0) = (7 : Int32) ↔ c 0 = 7 := nI_eq (b := 7) (by omega) (by decide)
  have k1 : nI (c 1) = (7 : Int32) ↔ c 1 = 7 := nI_eq (b := 7) (by omega) (by decide)
  have k2 : nI (c 2) = (7 : Int32) ↔ c 2 = 7 := nI_eq (b := 7) (by omega) (by decide)
  have k3 : nI (enM c % 2 ^ 9) = (511 : Int32) ↔ enM c % 512 = 511 := nI_eq (b := 511) (by omega) (by decide)
  by_cases q0 : c 0 = 7
  · rw [if_pos (k0.mpr q0)]
    by_cases q1 : c 1 = 7
    · rw [if_pos (k1.mpr q1)]
      by_cases q2 : c 2 = 7
      · rw [if_pos (k2.mpr q2), if_pos (k3.mpr (by omega))]
      · rw [if_neg (fun z => q2 (k2.mp z)), if_neg (fun z => q2 (by have := k3.mp z; omega))]
    · rw [if_neg (fun z => q1 (k1.mp z)), if_neg (fun z => q1 (by have := k3.mp z; omega))]
  · rw [if_neg (fun z => q0 (k0.mp z)), if_neg (fun z => q0 (by have := k3.mp z; omega))]
theorem S_told {x : Int32} (hx : vst x) {w : Nat} (hw : w < 10) : s_Mo_told (cvI x) (nI w) = s_Pk_part x (nI w) := by
  obtain ⟨c, hc, rfl⟩ := vst_to hx
  have h7 : c 7 ≤ 2 := hc.2.2.2.2.2.2.2.1
  rw [cv_en hc]
  unfold s_Mo_told s_Pk_part
  by_cases q3 : w < 3
  · have e3 : ¬ (3 : Int32) ≤ nI w := nI_ge (b := 3) q3 (by decide)
    rw [if_neg e3, if_neg e3, m_pl hc q3, x_pl hc q3]
  · have e3 : (3 : Int32) ≤ nI w := nI_le (a := 3) (by omega) (by omega)
    rw [if_pos e3, if_pos e3]
    by_cases q7 : w < 7
    · have e7 : ¬ (7 : Int32) ≤ nI w := nI_ge (b := 7) q7 (by decide)
      rw [if_neg e7, if_neg e7, show nI w - (3 : Int32) = nI (w - 3) from pk_sub (b := 3) (by omega), m_var hc (by omega), x_var hc (by omega)]
    · have e7 : (7 : Int32) ≤ nI w := nI_le (a := 7) (by omega) (by omega)
      rw [if_pos e7, if_pos e7]
      by_cases q : nI w = (7 : Int32)
      · rw [if_pos q, if_pos q, m_ln hc, x_ln hc]
      · have hq : w ≠ 7 := fun z => q (by rw [z]; rfl)
        rw [if_neg q, if_neg q, show nI w - (8 : Int32) = nI (w - 8) from pk_sub (b := 8) (by omega), m_ln hc, m_ch hc (by omega), x_cv hc (by omega)]
        by_cases z : w - 8 < c 7
        · rw [if_neg (nI_ge z (by omega)), if_pos z]
        · rw [if_pos (nI_le (by omega) (by omega)), if_neg z]
theorem S_first {v : Nat} (hv : v < 256) : s_Mo_first (nI v) = cvI (nI v) ∧ vst (nI v) := by
  constructor
  · unfold s_Mo_first cvI
    rw [pk_tn (by omega), pk_shlN _ 9 (by decide) (by omega)]
    congr 1
    unfold cvN
    omega
  · exact ⟨v, rfl, by omega, by omega⟩
theorem S_led {n : Nat} {tr : Nat → Nat → Nat} (hf : ∀ t, t < n → trok (tr t)) : ∀ t, t < n → ∀ x, vst x → opn tr t x = true → vst (led tr t x) := fun t ht _ hx ho => (S_lead (hf t ht) hx ho).2
theorem cv_eq {x y : Int32} (hx : vst x) (hy : vst y) : cvI x = cvI y ↔ x = y := ⟨cv_inj hx hy, fun h => by rw [h]⟩
