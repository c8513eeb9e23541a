/-! the reference's functions of a state, and the class's -/
section SIM
variable {c : Nat → Nat}
theorem x_send (h : cok c) {x : Nat} (hx : x < 4) (h7 : c 7 < 2) : s_Pk_withSent (nI (enX c)) (nI x) = nI (enX (va_up (va_up c (8 + c 7) x) 7 (c 7 + 1))) := by
  unfold s_Pk_withSent
  rw [x_ln h, m2, p19]
  have h0 : enX c / 2 ^ (19 + 2 * c 7) % 2 ^ 2 = 0 := by
    unfold cok at h
    rcases (show c 7 = 0 ∨ c 7 = 1 by omega) with e | e <;> (rw [e]; simp only [Nat.reduceAdd, Nat.reduceMul, Nat.reducePow]; unfold enX; omega)
  rw [pin_or (w := 2) hx (by omega) h0]
  refine (nI_add _ 131072).trans ?_
  congr 1
  unfold cok at h
  rcases (show c 7 = 0 ∨ c 7 = 1 by omega) with e | e <;> (rw [e]; unfold pin enX va_up; simp only [Nat.reduceAdd, Nat.reduceMul, Nat.reducePow, Nat.reduceEqDiff, if_true, if_false, reduceIte]; omega)
theorem m_send (h : cok c) {x : Nat} (hx : x < 4) (h7 : c 7 < 2) : ((nI (enM c) + (131072 : Int32)) ||| (nI x <<< (((19 : Int32) + ((2 : Int32) * nI (c 7))) &&& 31))) = nI (enM (va_up (va_up c (8 + c 7) x) 7 (c 7 + 1))) := by
  rw [m2, p19, show nI (enM c) + (131072 : Int32) = nI (enM c + 131072) from nI_add _ 131072]
  have h0 : (enM c + 131072) / 2 ^ (19 + 2 * c 7) % 2 ^ 2 = 0 := by
    unfold cok at h
    rcases (show c 7 = 0 ∨ c 7 = 1 by omega) with e | e <;> (rw [e]; simp only [Nat.reduceAdd, Nat.reduceMul, Nat.reducePow]; unfold enM; omega)
  rw [pin_or (w := 2) hx (by omega) h0]
  congr 1
  unfold cok at h
  rcases (show c 7 = 0 ∨ c 7 = 1 by omega) with e | e <;> (rw [e]; unfold pin enM va_up; simp only [Nat.reduceAdd, Nat.reduceMul, Nat.reducePow, Nat.reduceEqDiff, if_true, if_false, reduceIte]; omega)
def tk (c : Nat → Nat) : Nat → Nat := va_up (va_up (va_up c 7 (c 7 - 1)) 8 (c 9)) 9 0
theorem x_take (h : cok c) (h7 : 0 < c 7) : s_Pk_withoutFirst (nI (enX c)) = nI (enX (tk c)) := by
  have hl := enX_lt h
  unfold s_Pk_withoutFirst
  unfold cok at h
  rw [x_ln (by unfold cok; omega), show nI (c 7) - (1 : Int32) = nI (c 7 - 1) from pk_sub (b := 1) (by omega), pk_andN (n := enX c) (by omega) (m := 131071) 17 (by decide)]
  rw [show ((17 : Int32) &&& 31) = (nI 17 &&& 31) from rfl, show ((21 : Int32) &&& 31) = (nI 21 &&& 31) from rfl, show ((19 : Int32) &&& 31) = (nI 19 &&& 31) from rfl]
  rw [pin_or (w := 2) (by omega) (by omega) (by rw [Nat.div_eq_of_lt (Nat.mod_lt _ (by decide))]), pk_shrN (by omega) _ 21 (s_l 21 (by decide))]
  rw [pin_or (w := 2) (by omega) (by omega) (by unfold pin; omega)]
  congr 1
  unfold pin enX tk va_up
  simp only [Nat.reduceAdd, Nat.reduceMul, Nat.reducePow, Nat.reduceEqDiff, if_true, if_false, reduceIte]
  omega
theorem m_take (h : cok c) (h7 : 0 < c 7) {d : Nat} (hd : d = c 9) : (((nI (enM c) &&& (131071 : Int32)) ||| (nI (c 7 - 1) <<< ((17 : Int32) &&& 31))) ||| (nI d <<< ((19 : Int32) &&& 31))) = nI (enM (tk c)) := by
  subst hd
  have hl := enM_lt h
  unfold cok at h
  rw [pk_andN (n := enM c) (by omega) (m := 131071) 17 (by decide)]
  rw [show ((17 : Int32) &&& 31) = (nI 17 &&& 31) from rfl, show ((19 : Int32) &&& 31) = (nI 19 &&& 31) from rfl]
  rw [pin_or (w := 2) (by omega) (by omega) (by rw [Nat.div_eq_of_lt (Nat.mod_lt _ (by decide))])]
  rw [pin_or (w := 2) (by omega) (by omega) (by unfold pin; omega)]
  congr 1
  unfold pin enM tk va_up
  simp only [Nat.reduceAdd, Nat.reduceMul, Nat.reducePow, Nat.reduceEqDiff, if_true, if_false, reduceIte]
  omega
theorem op16 {n : Nat} (h : n < 128) : nI n / (16 : Int32) = nI (n / 16) := pk_div (d := 16) (by omega) (by decide) (by decide)
theorem op4 {n : Nat} (h : n < 128) : nI n / (4 : Int32) = nI (n / 4) := pk_div (d := 4) (by omega) (by decide) (by decide)
theorem op4r {n : Nat} (h : n < 128) : nI n - nI n / (4 : Int32) * (4 : Int32) = nI (n % 4) := pk_rem (d := 4) (by omega) (by decide) (by decide)
/-- OPEN: the same -/
theorem sim_open {tr : Nat → Nat → Nat} {t : Nat} (hf : trok (tr t)) (h : cok c) : s_Mo_isOpen (nI (tr t 0)) (nI (tr t 1)) (nI (tr t 3)) (nI (enM c)) = s_Tr_isOpenIn (gX tr t) (nI (enX c)) := by
  obtain ⟨f0, f1, f2, f3⟩ := hf
  have hk : tr t 3 / 16 < 8 := by omega
  have ha : tr t 3 / 4 % 4 < 4 := by omega
  unfold s_Mo_isOpen s_Tr_isOpenIn s_Tr_allows
  show _ = (if s_Pk_place (nI (enX c)) (nI (tr t 0)) = nI (tr t 1) then (if (if nI (tr t 3 / 16) = (1 : Int32) then (if s_Pk_variable (nI (enX c)) (nI (tr t 3 / 4 % 4)) = nI (tr t 3 % 4) then (1 : Int32) else (0 : Int32)) else (if nI (tr t 3 / 16) = (2 : Int32) then (if s_Pk_variable (nI (enX c)) (nI (tr t 3 / 4 % 4)) = nI (tr t 3 % 4) then (0 : Int32) else (1 : Int32)) else (if nI (tr t 3 / 16) = (3 : Int32) then (1 : Int32) else (if nI (tr t 3 / 16) = (4 : Int32) then (1 : Int32) else (if nI (tr t 3 / 16) = (5 : Int32) then (1 : Int32) else (if nI (tr t 3 / 16) = (6 : Int32) then (if (2 : Int32) ≤ (s_Pk_channelLength (nI (enX c))) then (0 : Int32) else (1 : Int32)) else (if nI (tr t 3 / 16) = (7 : Int32) then (if (s_Pk_channelLength (nI (enX c))) ≤ (0 : Int32) then (0 : Int32) else (1 : Int32)) else (1 : Int32)))))))) = (0 : Int32) then (0 : Int32) else (1 : Int32)) else (0 : Int32))
  rw [op16 f3, op4r f3, op4 f3, op4r (n := tr t 3 / 4) (by omega), m_pl h f0, x_pl h f0, m_var h ha, x_var h ha, m_ln h, x_ln h]
  generalize tr t 3 / 16 = kd at hk ⊢
  by_cases q : nI (c (tr t 0)) = nI (tr t 1)
  · rw [if_pos q, if_pos q]
    rcases (show kd = 0 ∨ kd = 1 ∨ kd = 2 ∨ kd = 3 ∨ kd = 4 ∨ kd = 5 ∨ kd = 6 ∨ kd = 7 by omega) with rfl | rfl | rfl | rfl | rfl | rfl | rfl | rfl <;> simp (decide := true) only [↓reduceIte] <;> (repeat' split) <;> first | rfl | (exfalso; simp_all; done)
  · rw [if_neg q, if_neg q]
theorem cok_v (h : cok c) {v x : Nat} (hv : v < 4) (hx : x < 4) : cok (va_up c (3 + v) x) := by
  unfold cok at h ⊢
  unfold va_up
  rcases (show v = 0 ∨ v = 1 ∨ v = 2 ∨ v = 3 by omega) with rfl | rfl | rfl | rfl <;> simp only [Nat.reduceAdd, Nat.reduceEqDiff, if_true, if_false, reduceIte] <;> omega
theorem cok_p (h : cok c) {v x : Nat} (hv : v < 3) (hx : x < 8) : cok (va_up c v x) := by
  unfold cok at h ⊢
  unfold va_up
  rcases (show v = 0 ∨ v = 1 ∨ v = 2 by omega) with rfl | rfl | rfl <;> simp only [Nat.reduceAdd, Nat.reduceEqDiff, if_true, if_false, reduceIte] <;> omega
theorem cok_s (h : cok c) {x : Nat} (hx : x < 4) (h7 : c 7 < 2) : cok (va_up (va_up c (8 + c 7) x) 7 (c 7 + 1)) := by
  unfold cok at h ⊢
  unfold va_up
  rcases (show c 7 = 0 ∨ c 7 = 1 by omega) with e | e <;> rw [e] <;> simp only [Nat.reduceAdd, Nat.reduceEqDiff, if_true, if_false, reduceIte] <;> refine ⟨?_, ?_, ?_, ?_, ?_, ?_, ?_, ?_, ?_, ?_, fun q => ?_, fun q => ?_⟩ <;> first | omega | trivial | exact q.elim
theorem cok_t (h : cok c) (h7 : 0 < c 7) : cok (tk c) := by
  unfold cok at h ⊢
  unfold tk va_up
  simp only [Nat.reduceAdd, Nat.reduceEqDiff, if_true, if_false, reduceIte]
  refine ⟨?_, ?_, ?_, ?_, ?_, ?_, ?_, ?_, ?_, ?_, fun q => ?_, fun q => ?_⟩ <;> first | omega | trivial | exact q.elim
theorem cok3 (h : cok c) {v : Nat} (hv : v < 4) : c (3 + v) < 4 := by
  unfold cok at h
  rcases (show v = 0 ∨ v = 1 ∨ v = 2 ∨ v = 3 by omega) with rfl | rfl | rfl | rfl <;> simp only [Nat.reduceAdd] <;> omega
theorem cok8 (h : cok c) {v : Nat} (hv : v < 2) : c (8 + v) < 4 := by
  unfold cok at h
  rcases (show v = 0 ∨ v = 1 by omega) with rfl | rfl <;> simp only [Nat.reduceAdd] <;> omega
theorem en_congr {d : Nat → Nat} (h : ∀ j, j < 10 → c j = d j) : enX c = enX d ∧ enM c = enM d := by
  have h0 := h 0 (by decide)
  have h1 := h 1 (by decide)
  have h2 := h 2 (by decide)
  have h3 := h 3 (by decide)
  have h4 := h 4 (by decide)
  have h5 := h 5 (by decide)
  have h6 := h 6 (by decide)
  have h7 := h 7 (by decide)
  have h8 := h 8 (by decide)
  have h9 := h 9 (by decide)
  unfold enX enM
  rw [h0, h1, h2, h3, h4, h5, h6, h7, h8, h9]
  exact ⟨rfl, rfl⟩
theorem up_comm {i j x y : Nat} (h : i ≠ j) : va_up (va_up c i x) j y = va_up (va_up c j y) i x := by
  funext k
  unfold va_up
  by_cases h1 : k = i
  · subst h1; rw [if_neg h, if_pos rfl, if_pos rfl]
  · by_cases h2 : k = j
    · subst h2; rw [if_pos rfl, if_neg h1, if_pos rfl]
    · rw [if_neg h2, if_neg h1, if_neg h1, if_neg h2]
/-- the parts behind a TRANSITION -/
def eff (f c : Nat → Nat) : Nat → Nat :=
  if f 3 / 16 = 3 then va_up c (3 + f 3 / 4 % 4) (f 3 % 4)
  else if f 3 / 16 = 4 then va_up c (3 + f 3 / 4 % 4) ((c (3 + f 3 / 4 % 4) + f 3 % 4) % 4)
  else if f 3 / 16 = 5 then va_up c (3 + f 3 / 4 % 4) (c (3 + f 3 % 4))
  else if f 3 / 16 = 6 then va_up (va_up c (8 + c 7) (c (3 + f 3 / 4 % 4))) 7 (c 7 + 1)
  else if f 3 / 16 = 7 then va_up (tk c) (3 + f 3 / 4 % 4) (c 8)
  else c
theorem eff_ok {f : Nat → Nat} (hf : trok f) (h : cok c) (h6 : f 3 / 16 = 6 → c 7 < 2) (h7 : f 3 / 16 = 7 → 0 < c 7) : cok (eff f c) := by
  obtain ⟨f0, f1, f2, f3⟩ := hf
  have ha : f 3 / 4 % 4 < 4 := by omega
  have hb : f 3 % 4 < 4 := by omega
  unfold eff
  by_cases q3 : f 3 / 16 = 3
  · rw [if_pos q3]; exact cok_v h ha hb
  · rw [if_neg q3]
    by_cases q4 : f 3 / 16 = 4
    · rw [if_pos q4]; exact cok_v h ha (by omega)
    · rw [if_neg q4]
      by_cases q5 : f 3 / 16 = 5
      · rw [if_pos q5]; exact cok_v h ha (cok3 h hb)
      · rw [if_neg q5]
        by_cases q6 : f 3 / 16 = 6
        · rw [if_pos q6]; exact cok_s h (cok3 h ha) (h6 q6)
        · rw [if_neg q6]
          by_cases q7 : f 3 / 16 = 7
          · rw [if_pos q7]; exact cok_v (cok_t h (h7 q7)) ha (cok8 h (v := 0) (by decide))
          · rw [if_neg q7]; exact h
theorem add4 {a b : Nat} (ha : a < 4) (hb : b < 4) : (nI a + nI b) - (nI a + nI b) / (4 : Int32) * (4 : Int32) = nI ((a + b) % 4) := by
  rw [nI_add]
  exact pk_rem (d := 4) (by omega) (by decide) (by decide)
theorem x_lead {tr : Nat → Nat → Nat} {t : Nat} (hf : trok (tr t)) (h : cok c) (h6 : tr t 3 / 16 = 6 → c 7 < 2) (h7 : tr t 3 / 16 = 7 → 0 < c 7) : led tr t (nI (enX c)) = nI (enX (va_up (eff (tr t) c) (tr t 0) (tr t 2))) := by
  have hc := eff_ok hf h h6 h7
  obtain ⟨f0, f1, f2, f3⟩ := hf
  have ha : tr t 3 / 4 % 4 < 4 := by omega
  have hb : tr t 3 % 4 < 4 := by omega
  have hk : tr t 3 / 16 < 8 := by omega
  show s_Pk_withPlace (s_Tr_withEffect (gX tr t) (nI (enX c))) (nI (tr t 0)) (nI (tr t 2)) = _
  have key : s_Tr_withEffect (gX tr t) (nI (enX c)) = nI (enX (eff (tr t) c)) := by
    unfold s_Tr_withEffect eff
    show (if nI (tr t 3 / 16) = (3 : Int32) then s_Pk_withVariable (nI (enX c)) (nI (tr t 3 / 4 % 4)) (nI (tr t 3 % 4)) else (if nI (tr t 3 / 16) = (4 : Int32) then (s_Pk_withVariable (nI (enX c)) (nI (tr t 3 / 4 % 4)) (((s_Pk_variable (nI (enX c)) (nI (tr t 3 / 4 % 4))) + (nI (tr t 3 % 4))) - ((s_Pk_variable (nI (enX c)) (nI (tr t 3 / 4 % 4))) + (nI (tr t 3 % 4))) / (4 : Int32) * (4 : Int32))) else (if nI (tr t 3 / 16) = (5 : Int32) then (s_Pk_withVariable (nI (enX c)) (nI (tr t 3 / 4 % 4)) (s_Pk_variable (nI (enX c)) (nI (tr t 3 % 4)))) else (if nI (tr t 3 / 16) = (6 : Int32) then (s_Pk_withSent (nI (enX c)) (s_Pk_variable (nI (enX c)) (nI (tr t 3 / 4 % 4)))) else (if nI (tr t 3 / 16) = (7 : Int32) then (s_Pk_withVariable (s_Pk_withoutFirst (nI (enX c))) (nI (tr t 3 / 4 % 4)) (s_Pk_channelValue (nI (enX c)) (nI 0))) else (nI (enX c))))))) = _
    rw [x_var h ha, x_var h hb, add4 (cok3 h ha) hb, x_sv h ha hb, x_sv h ha (by omega), x_sv h ha (cok3 h hb), x_cv h (v := 0) (by decide)]
    rcases (show tr t 3 / 16 = 0 ∨ tr t 3 / 16 = 1 ∨ tr t 3 / 16 = 2 ∨ tr t 3 / 16 = 3 ∨ tr t 3 / 16 = 4 ∨ tr t 3 / 16 = 5 ∨ tr t 3 / 16 = 6 ∨ tr t 3 / 16 = 7 by omega) with e | e | e | e | e | e | e | e <;> rw [e] <;> simp (decide := true) only [↓reduceIte]
    · exact x_send h (cok3 h ha) (h6 e)
    · rw [if_pos (h7 e), x_take h (h7 e)]
      exact x_sv (cok_t h (h7 e)) ha (cok8 h (v := 0) (by decide))
  rw [key]
  exact x_sp hc f0 f2
theorem m_lead {tr : Nat → Nat → Nat} {t : Nat} (hf : trok (tr t)) (h : cok c) (h6 : tr t 3 / 16 = 6 → c 7 < 2) (h7 : tr t 3 / 16 = 7 → 0 < c 7) : s_Mo_leads (nI (tr t 3)) (nI (tr t 0)) (nI (tr t 2)) (nI (enM c)) = nI (enM (va_up (eff (tr t) c) (tr t 0) (tr t 2))) := by
  obtain ⟨f0, f1, f2, f3⟩ := hf
  have ha : tr t 3 / 4 % 4 < 4 := by omega
  have hb : tr t 3 % 4 < 4 := by omega
  have hk : tr t 3 / 16 < 8 := by omega
  have hp : cok (va_up c (tr t 0) (tr t 2)) := cok_p h f0 f2
  have e7 : va_up c (tr t 0) (tr t 2) 7 = c 7 := up_n (by omega)
  have e9 : va_up c (tr t 0) (tr t 2) 9 = c 9 := up_n (by omega)
  unfold s_Mo_leads
  rw [op16 f3, op4r f3, op4 f3, op4r (n := tr t 3 / 4) (by omega), m_sp h f0 f2, m_var h ha, m_var h hb, add4 (cok3 h ha) hb, m_sv hp ha hb, m_sv hp ha (by omega), m_sv hp ha (cok3 h hb), m_ln h]
  rw [show s_Mo_inChannel (nI (enM c)) (0 : Int32) = nI (c 8) from m_ch h (v := 0) (by decide), show s_Mo_inChannel (nI (enM c)) (1 : Int32) = nI (c 9) from m_ch h (v := 1) (by decide), m_sv hp ha (cok8 h (v := 0) (by decide))]
  unfold eff
  rcases (show tr t 3 / 16 = 0 ∨ tr t 3 / 16 = 1 ∨ tr t 3 / 16 = 2 ∨ tr t 3 / 16 = 3 ∨ tr t 3 / 16 = 4 ∨ tr t 3 / 16 = 5 ∨ tr t 3 / 16 = 6 ∨ tr t 3 / 16 = 7 by omega) with e | e | e | e | e | e | e | e <;> rw [e] <;> simp (decide := true) only [↓reduceIte]
  · rw [up_comm (by omega)]
  · rw [up_comm (by omega)]
  · rw [up_comm (by omega)]
  · have e1 := m_send hp (cok3 h ha) (by rw [e7]; exact h6 e)
    rw [e7] at e1
    rw [e1, up_comm (i := tr t 0) (by have := h6 e; omega), up_comm (i := tr t 0) (j := 7) (by omega)]
  · have hc7 := h7 e
    have hd : cok (va_up (va_up c (tr t 0) (tr t 2)) (3 + tr t 3 / 4 % 4) (c 8)) := cok_v hp ha (cok8 h (v := 0) (by decide))
    have d7 : va_up (va_up c (tr t 0) (tr t 2)) (3 + tr t 3 / 4 % 4) (c 8) 7 = c 7 := by rw [up_n (by omega), e7]
    have d9 : va_up (va_up c (tr t 0) (tr t 2)) (3 + tr t 3 / 4 % 4) (c 8) 9 = c 9 := by rw [up_n (by omega), e9]
    have fin : tk (va_up (va_up c (tr t 0) (tr t 2)) (3 + tr t 3 / 4 % 4) (c 8)) = va_up (va_up (tk c) (3 + tr t 3 / 4 % 4) (c 8)) (tr t 0) (tr t 2) := by
      unfold tk
      rw [d7, d9]
      funext k
      unfold va_up
      by_cases k9 : k = 9
      · subst k9; rw [if_pos rfl, if_neg (by omega), if_neg (by omega), if_pos rfl]
      · by_cases k8 : k = 8
        · subst k8; rw [if_neg (by decide), if_pos rfl, if_neg (by omega), if_neg (by omega), if_neg (by decide), if_pos rfl]
        · by_cases k7 : k = 7
          · subst k7; rw [if_neg (by decide), if_neg (by decide), if_pos rfl, if_neg (by omega), if_neg (by omega), if_neg (by decide), if_neg (by decide), if_pos rfl]
          · rw [if_neg k9, if_neg k8, if_neg k7]
            by_cases ka : k = 3 + tr t 3 / 4 % 4
            · rw [if_pos ka, if_neg (by omega), if_pos ka]
            · rw [if_neg ka]
              by_cases k0 : k = tr t 0
              · rw [if_pos k0, if_pos k0]
              · rw [if_neg k0, if_neg k0, if_neg ka, if_neg k9, if_neg k8, if_neg k7]
    rw [show nI (c 7) - (1 : Int32) = nI (c 7 - 1) from pk_sub (b := 1) (by omega)]
    by_cases q : nI (c 7) = (2 : Int32)
    · rw [if_pos q, ← fin]
      have e1 := m_take hd (by rw [d7]; exact hc7) d9.symm
      rw [d7] at e1
      exact e1
    · rw [if_neg q, ← fin]
      have h9 : c 9 = 0 := by
        have hh := h
        unfold cok at hh
        have : c 7 ≠ 2 := fun z => q (by rw [z]; rfl)
        omega
      have e1 := m_take hd (by rw [d7]; exact hc7) (d := 0) (by rw [d9, h9])
      rw [d7] at e1
      exact e1
end SIM
