def fAv (X X' : um_M) : Prop := ∀ c, c < 13 ∨ 16 < c → X' c = X c
theorem fAv_rf (X : um_M) : fAv X X := fun _ _ => rfl
theorem fAv_s {X X' : um_M} {k j : Nat} {v : Int32} (h : fAv X X') (hk : 13 ≤ k ∧ k ≤ 16) : fAv X (um_set X' k j v) := fun i hi => by rw [um_k (by omega)]; exact h i hi
theorem fAv_rule {X X' : um_M} {w s : Nat} (h : fAv X X') : fAv X (n_Av_ruleOut X' w s) := by
  unfold n_Av_ruleOut
  split
  · exact fAv_s (fAv_s (fAv_s h (by decide)) (by decide)) (by decide)
  · exact h
theorem fAv_tr {X Y Z : um_M} (h : fAv X Y) (h2 : fAv Y Z) : fAv X Z := fun k hk => (h2 k hk).trans (h k hk)
theorem pv_m2 {f : Nat → Int32} {v : Int32} {b : Nat} (hb : b ≤ 7200) (h : pv f v b = -2) : ∀ p, p < b → f p ≠ v := by
  induction b with
  | zero => intro p hp; exact absurd hp (Nat.not_lt_zero _)
  | succ b ih =>
    intro p hp
    have h : (if f b = v then nI b else pv f v b) = -2 := h
    by_cases c : f b = v
    · rw [if_pos c] at h; exact absurd h (nI_m2 (by omega))
    · rw [if_neg c] at h
      rcases Nat.lt_or_ge p b with z | z
      · exact ih (by omega) h p z
      · have e : p = b := by omega
        subst e; exact c
theorem pv_some {f : Nat → Int32} {v : Int32} {b : Nat} (h : ¬ pv f v b = -2) : ∃ p0, p0 < b ∧ pv f v b = nI p0 ∧ f p0 = v ∧ ∀ p, p0 < p → p < b → f p ≠ v := by
  induction b with
  | zero => exact absurd rfl h
  | succ b ih =>
    have e0 : pv f v (b + 1) = if f b = v then nI b else pv f v b := rfl
    by_cases c : f b = v
    · exact ⟨b, Nat.lt_succ_self b, by rw [e0, if_pos c], c, fun p h1 h2 => by omega⟩
    · rw [e0, if_neg c] at h
      obtain ⟨p0, h1, h2, h3, h4⟩ := ih h
      refine ⟨p0, by omega, by rw [e0, if_neg c]; exact h2, h3, fun p a d => ?_⟩
      rcases Nat.lt_or_ge p b with z | z
      · exact h4 p a z
      · have e : p = b := by omega
        subst e; exact c
theorem lfc_dec {nx : Nat → Int32} {cs : Nat → Bool} {p : Nat} (hn : nx p ≠ -2) (hc : cs p = false) : lfc nx cs (p / 24) = lfc nx (va_up cs p true) (p / 24) + 1 := by
  unfold lfc
  refine cnt_one (i := p % 24) (Nat.mod_lt _ (by decide)) (fun j hj hne => ?_) ?_ ?_
  · rw [show va_up cs p true (p / 24 * 24 + j) = cs (p / 24 * 24 + j) from if_neg (by omega)]
  · rw [show p / 24 * 24 + p % 24 = p by omega, show va_up cs p true p = true from if_pos rfl]; simp
  · rw [show p / 24 * 24 + p % 24 = p by omega, hc, dt hn]; rfl
theorem lfc_oth {nx : Nat → Int32} {cs : Nat → Bool} {p u : Nat} (hu : u ≠ p / 24) : lfc nx (va_up cs p true) u = lfc nx cs u := by
  unfold lfc
  refine cnt_congr (fun j hj => ?_)
  rw [show va_up cs p true (u * 24 + j) = cs (u * 24 + j) from if_neg (by omega)]
theorem lfc_le (nx : Nat → Int32) (cs : Nat → Bool) (s : Nat) : lfc nx cs s ≤ 24 := cnt_le _ _
section DEC
variable {X : um_M} {nx : Nat → Int32} {fl : Nat → Bool} {k : Nat} {ro : Nat → Bool} {wt : Nat → Nat} {w : Nat} {cs : Nat → Bool} {p v : Nat}
theorem dec_v (h : AvI X nx fl k ro wt w cs) (hp : p < k * 24) (hx : nx p = nI v) (hv : v < k) (hk : k ≤ 300) (hc : cs p = false) : X 15 (p / 24) - 1 = nI (lfc nx (va_up cs p true) (p / 24)) := by
  rw [h.2.2.2.1 (p / 24) (by omega), lfc_dec (by rw [hx]; exact nI_m2 (by omega)) hc]
  exact nI_pred _
theorem dec_ok (h : AvI X nx fl k ro wt w cs) (hp : p < k * 24) (hx : nx p = nI v) (hv : v < k) (hk : k ≤ 300) (hr : ro v = true) (hc : cs p = false) :
    (∀ s, s < k → um_set X 15 (p / 24) (X 15 (p / 24) - 1) 15 s = nI (lfc nx (va_up cs p true) s)) ∧ ∀ p', p' < k * 24 → va_up cs p true p' = true → ∃ v, v < k ∧ nx p' = nI v ∧ ro v = true := by
  refine ⟨fun s hs => ?_, fun p' hp' h' => ?_⟩
  · rw [um_ap]
    by_cases z : s = p / 24
    · rw [if_pos ⟨rfl, z⟩, dec_v h hp hx hv hk hc, z]
    · rw [if_neg (fun y => z y.2), lfc_oth z]; exact h.2.2.2.1 s hs
  · by_cases z : p' = p
    · rw [z]; exact ⟨v, hv, hx, hr⟩
    · rw [show va_up cs p true p' = cs p' from if_neg z] at h'
      exact h.2.2.2.2.2.1 p' hp' h'
theorem dec_nz (h : AvI X nx fl k ro wt w cs) (hp : p < k * 24) (hx : nx p = nI v) (hv : v < k) (hk : k ≤ 300) (hr : ro v = true) (hc : cs p = false) (hz : ¬ lfc nx (va_up cs p true) (p / 24) = 0) : AvI (um_set X 15 (p / 24) (X 15 (p / 24) - 1)) nx fl k ro wt w (va_up cs p true) := by
  obtain ⟨d1, d2⟩ := dec_ok h hp hx hv hk hr hc
  obtain ⟨h1, h2, h3, h4, h5, h6, h7, h8, h9⟩ := h
  refine ⟨fun s hs => by rw [um_k (by decide)]; exact h1 s hs, fun j hj => by rw [um_k (by decide)]; exact h2 j hj, by rw [um_k (by decide)]; exact h3, d1, h5, d2, fun s hs a b => ?_, h8, h9⟩
  by_cases z : s = p / 24
  · rw [z] at b; exact absurd b hz
  · rw [lfc_oth z] at b; exact h7 s hs a b
theorem dec_z (h : AvI X nx fl k ro wt w cs) (hp : p < k * 24) (hx : nx p = nI v) (hv : v < k) (hk : k ≤ 300) (hr : ro v = true) (hc : cs p = false) (hz : lfc nx (va_up cs p true) (p / 24) = 0) : ∃ ro' wt' w', AvI (n_Av_ruleOut (um_set X 15 (p / 24) (X 15 (p / 24) - 1)) w (p / 24)) nx fl k ro' wt' w' (va_up cs p true) ∧ (∀ u, u < k → ro u = true → ro' u = true) ∧ w ≤ w' ∧ ∀ j, j < w → wt' j = wt j := by
  obtain ⟨d1, d2⟩ := dec_ok h hp hx hv hk hr hc
  obtain ⟨h1, h2, h3, h4, h5, h6, h7, h8, h9⟩ := h
  have hs : p / 24 < k := by omega
  refine AvI_rule (fun s hs => by rw [um_k (by decide)]; exact h1 s hs) (fun j hj => by rw [um_k (by decide)]; exact h2 j hj) (by rw [um_k (by decide)]; exact h3) d1 h5 d2 (fun u hu z a b => ?_) h8 h9 hs ?_
  · rw [lfc_oth z] at b; exact h7 u hu a b
  · refine out_rule ⟨p % 24, Nat.mod_lt _ (by decide), by rw [show p / 24 * 24 + p % 24 = p by omega, hx]; exact nI_m2 (by omega)⟩ (fun t ht hn => ?_)
    have := cnt_zero hz t ht
    rw [dt hn] at this
    have hcs : va_up cs p true (p / 24 * 24 + t) = true := by simpa using this
    obtain ⟨v', a, b, d⟩ := d2 _ (by omega) hcs
    exact ⟨v', a, b, h8 v' a d⟩
theorem AvI_w (h : AvI X nx fl k ro wt w cs) (hk : k ≤ 300) {s : Nat} (hs : s < k) (h0 : X 14 s = 0) : w < 300 := by
  rw [h.1 s hs] at h0
  have hf : ro s = false := by
    rcases hb : ro s with _ | _
    · rfl
    · rw [hb, if_pos rfl] at h0; exact absurd h0 (by decide)
  have := cnt_lt hs hf
  have := h.2.2.1.2
  omega
theorem cs_step {cs0 : Nat → Bool} {b p0 : Nat} (h : ∀ p, p < k * 24 → cs p = (cs0 p || (decide (nx p = nI v) && decide (b ≤ p)))) (hp0 : p0 < b) (hx : nx p0 = nI v) (hno : ∀ p, p0 < p → p < b → nx p ≠ nI v) : ∀ p, p < k * 24 → va_up cs p0 true p = (cs0 p || (decide (nx p = nI v) && decide (p0 ≤ p))) := by
  intro p hp
  unfold va_up
  by_cases z : p = p0
  · rw [if_pos z, z, dt hx, dt (Nat.le_refl p0)]; simp
  · rw [if_neg z, h p hp]
    by_cases c : nx p = nI v
    · rw [dt c]
      by_cases c2 : b ≤ p
      · rw [dt c2, dt (by omega : p0 ≤ p)]
      · rw [df c2]
        by_cases c3 : p0 ≤ p
        · exact absurd c (hno p (by omega) (by omega))
        · rw [df c3]
    · rw [df c]; simp
theorem cs_0 {cs0 : Nat → Bool} {b p0 : Nat} (h : ∀ p, p < k * 24 → cs p = (cs0 p || (decide (nx p = nI v) && decide (b ≤ p)))) (hp0 : p0 < b) (hb : b ≤ k * 24) (hx : nx p0 = nI v) (h0 : ∀ p, p < k * 24 → nx p = nI v → cs0 p = false) : cs p0 = false := by
  rw [h p0 (by omega), h0 p0 (by omega) hx, df (by omega : ¬ b ≤ p0)]; simp
theorem cs_end {cs0 : Nat → Bool} {b : Nat} (h : ∀ p, p < k * 24 → cs p = (cs0 p || (decide (nx p = nI v) && decide (b ≤ p)))) (hno : ∀ p, p < b → nx p ≠ nI v) : ∀ p, p < k * 24 → cs p = (cs0 p || decide (nx p = nI v)) := by
  intro p hp
  rw [h p hp]
  by_cases c : nx p = nI v
  · rcases Nat.lt_or_ge p b with z | z
    · exact absurd c (hno p z)
    · rw [dt z, Bool.and_true]
  · rw [df c]; simp
end DEC
