def fAv (X X' : um_M) : Prop := ∀ c, c < 13 ∨ 16 < c → X' c = X c
theorem fAv_rf (X : um_M) : fAv X X := fun _ _ => rfl
theorem fAv_s {X X' : um_M} {k j : Nat} {v : Int32} (h : fAv X X') (hk : 13 ≤ k ∧ k ≤ 16) : fAv X (um_set X' k j v) := fun i hi => by rw [um_k (by omega)]; exact h i hi
theorem fAv_rule {X X' : um_M} {w s : Nat} (h : fAv X X') : fAv X (n_Av_ruleOut X' w s) := by
  unfold n_Av_ruleOut
  split
  · exact fAv_s (fAv_s (fAv_s h (by decide)) (by decide)) (by decide)
  · exact h
theorem fAv_tr {X Y Z : um_M} (h : fAv X Y) (h2 : fAv Y Z) : fAv X Z := fun k hk => (h2 k hk).trans (h k hk)
theorem pv_m2 {f : Nat → Int32} {v : Int32} {b : Nat} (hb : b ≤ 7200) (h : pv f v b = -2) : ∀ p, p < b → f p ≠ v := by
  induction b with
  | zero => intro p hp; exact absurd hp (Nat.not_lt_zero _)
  | succ b ih =>
    intro p hp
    have h : (if f b = v then nI b else pv f v b) = -2 := h
    by_cases c : f b = v
    · rw [if_pos c] at h; exact absurd h (nI_m2 (by omega))
    · rw [if_neg c] at h
      rcases Nat.lt_or_ge p b with z | z
      · exact ih (by omega) h p z
      · have e : p = b := by omega
        subst e; exact c
theorem pv_some {f : Nat → Int32} {v : Int32} {b : Nat} (h : ¬ pv f v b = -2) : ∃ p0, p0 < b ∧ pv f v b = nI p0 ∧ f p0 = v ∧ ∀ p, p0 < p → p < b → f p ≠ v := by
  induction b with
  | zero => exact absurd rfl h
  | succ b ih =>
    have e0 : pv f v (b + 1) = if f b = v then nI b else pv f v b := rfl
    by_cases c : f b = v
    · exact ⟨b, Nat.lt_succ_self b, by rw [e0, if_pos c], c, fun p h1 h2 => by omega⟩
    · rw [e0, if_neg c] at h
      obtain ⟨p0, h1, h2, h3, h4⟩ := ih h
      refine ⟨p0, by omega, by rw [e0, if_neg c]; exact h2, h3, fun p a d => ?_⟩
      rcases Nat.lt_or_ge p b with z | z
      · exact h4 p a z
      · have e : p = b := by omega
        subst e; exact c
theorem lfc_dec {nx : Nat → Int32} {cs : Nat → Bool} {p : Nat} (hn : nx p ≠ -2) (hc : cs p = false) : lfc nx cs (p / 24) = lfc nx (va_up cs p true) (p / 24) + 1 := by
  unfold lfc
  refine cnt_one (i := p % 24) (Nat.mod_lt _ (by decide)) (fun j hj hne => ?_) ?_ ?_
  · rw [show va_up cs p true (p / 24 * 24 + j) = cs (p / 24 * 24 + j) from if_neg (by omega)]
  · rw [show p / 24 * 24 + p % 24 = p by omega, show va_up cs p true p = true from if_pos rfl]; simp
  · rw [show p / 24 * 24 + p % 24 = p by omega, hc, dt hn]; rfl
theorem lfc_oth {nx : Nat → Int32} {cs : Nat → Bool} {p u : Nat} (hu : u ≠ p / 24) : lfc nx (va_up cs p true) u = lfc nx cs u := by
  unfold lfc
  refine cnt_congr (fun j hj => ?_)
  rw [show va_up cs p true (u * 24 + j) = cs (u * 24 + j) from if_neg (by omega)]
theorem lfc_le (nx : Nat → Int32) (cs : Nat → Bool) (s : Nat) : lfc nx cs s ≤ 24 := cnt_le _ _
section DEC
variable {X : um_M} {nx : Nat → Int32} {fl : Nat → Bool} {k : Nat} {ro : Nat → Bool} {wt : Nat → Nat} {w : Nat} {cs : Nat → Bool} {p v : Nat}
theorem dec_v (h : AvI X nx fl k ro wt w cs) (hp : p < k * 24) (hx : nx p = nI v) (hv : v < k) (hk : k ≤ 300) (hc : cs p = false) : X 15 (p / 24) - 1 = nI (lfc nx (va_up cs p true) (p / 24)) := by
  rw [h.2.2.2.1 (p / 24) (by omega), lfc_dec (by rw [hx]; exact nI_m2 (by omega)) hc]
  exact nI_pred _
theorem dec_ok (h : AvI X nx fl k ro wt w cs) (hp : p < k * 24) (hx : nx p = nI v) (hv : v < k) (hk : k ≤ 300) (hr : ro v = true) (hc : cs p = false) :
    (∀ s, s < k → um_set X 15 (p / 24) (X 15 (p / 24) - 1) 15 s = nI (lfc nx (va_up cs p true) s)) ∧ ∀ p', p' < k * 24 → va_up cs p true p' = true → ∃ v, v < k ∧ nx p' = nI v ∧ ro v = true := by
  refine ⟨fun s hs => ?_, fun p' hp' h' => ?_⟩
  · rw [um_ap]
    by_cases z : s = p / 24
    · rw [if_pos ⟨rfl, z⟩, dec_v h hp hx hv hk hc, z]
    · rw [if_neg (fun y => z y.2), lfc_oth z]; exact h.2.2.2.1 s hs
  · by_cases z : p' = p
    · rw [z]; exact ⟨v, hv, hx, hr⟩
    · rw [show va_up cs p true p' = cs p' from if_neg z] at h'
      exact h.2.2.2.2.2.1 p' hp' h'
theorem dec_nz (h : AvI X nx fl k ro wt w cs) (hp : p < k * 24) (hx : nx p = nI v) (hv : v < k) (hk : k ≤ 300) (hr : ro v = true) (hc : cs p = false) (hz : ¬ lfc nx (va_up cs p true) (p / 24) = 0) : AvI (um_set X 15 (p / 24) (X 15 (p / 24) - 1)) nx fl k ro wt w (va_up cs p true) := by
  obtain ⟨d1, d2⟩ := dec_ok h hp hx hv hk hr hc
  obtain ⟨h1, h2, h3, h4, h5, h6, h7, h8, h9, h10⟩ := h
  refine ⟨fun s hs => by rw [um_k (by decide)]; exact h1 s hs, fun j hj => by rw [um_k (by decide)]; exact h2 j hj, by rw [um_k (by decide)]; exact h3, d1, h5, d2, fun s hs a b => ?_, h8, h9, h10⟩
  by_cases z : s = p / 24
  · rw [z] at b; exact absurd b hz
  · rw [lfc_oth z] at b; exact h7 s hs a b
theorem dec_z (h : AvI X nx fl k ro wt w cs) (hp : p < k * 24) (hx : nx p = nI v) (hv : v < k) (hk : k ≤ 300) (hr : ro v = true) (hc : cs p = false) (hz : lfc nx (va_up cs p true) (p / 24) = 0) : ∃ ro' wt' w', AvI (n_Av_ruleOut (um_set X 15 (p / 24) (X 15 (p / 24) - 1)) w (p / 24)) nx fl k ro' wt' w' (va_up cs p true) ∧ (∀ u, u < k → ro u = true → ro' u = true) ∧ w ≤ w' ∧ ∀ j, j < w → wt' j = wt j := by
  obtain ⟨d1, d2⟩ := dec_ok h hp hx hv hk hr hc
  obtain ⟨h1, h2, h3, h4, h5, h6, h7, h8, h9, h10⟩ := h
  have hs : p / 24 < k := by omega
  refine AvI_rule (fun s hs => by rw [um_k (by decide)]; exact h1 s hs) (fun j hj => by rw [um_k (by decide)]; exact h2 j hj) (by rw [um_k (by decide)]; exact h3) d1 h5 d2 (fun u hu z a b => ?_) h8 h9 h10 hs ?_
  · rw [lfc_oth z] at b; exact h7 u hu a b
  · refine out_rule ⟨p % 24, Nat.mod_lt _ (by decide), by rw [show p / 24 * 24 + p % 24 = p by omega, hx]; exact nI_m2 (by omega)⟩ (fun t ht hn => ?_)
    have := cnt_zero hz t ht
    rw [dt hn] at this
    have hcs : va_up cs p true (p / 24 * 24 + t) = true := by simpa using this
    obtain ⟨v', a, b, d⟩ := d2 _ (by omega) hcs
    exact ⟨v', a, b, h8 v' a d⟩
theorem AvI_w (h : AvI X nx fl k ro wt w cs) (hk : k ≤ 300) {s : Nat} (hs : s < k) (h0 : X 14 s = 0) : w < 300 := by
  rw [h.1 s hs] at h0
  have hf : ro s = false := by
    rcases hb : ro s with _ | _
    · rfl
    · rw [hb, if_pos rfl] at h0; exact absurd h0 (by decide)
  have := cnt_lt hs hf
  have := h.2.2.1.2
  omega
theorem cs_step {cs0 : Nat → Bool} {b p0 : Nat} (h : ∀ p, p < k * 24 → cs p = (cs0 p || (decide (nx p = nI v) && decide (b ≤ p)))) (hp0 : p0 < b) (hx : nx p0 = nI v) (hno : ∀ p, p0 < p → p < b → nx p ≠ nI v) : ∀ p, p < k * 24 → va_up cs p0 true p = (cs0 p || (decide (nx p = nI v) && decide (p0 ≤ p))) := by
  intro p hp
  unfold va_up
  by_cases z : p = p0
  · rw [if_pos z, z, dt hx, dt (Nat.le_refl p0)]; simp
  · rw [if_neg z, h p hp]
    by_cases c : nx p = nI v
    · rw [dt c]
      by_cases c2 : b ≤ p
      · rw [dt c2, dt (by omega : p0 ≤ p)]
      · rw [df c2]
        by_cases c3 : p0 ≤ p
        · exact absurd c (hno p (by omega) (by omega))
        · rw [df c3]
    · rw [df c]; simp
theorem cs_0 {cs0 : Nat → Bool} {b p0 : Nat} (h : ∀ p, p < k * 24 → cs p = (cs0 p || (decide (nx p = nI v) && decide (b ≤ p)))) (hp0 : p0 < b) (hb : b ≤ k * 24) (hx : nx p0 = nI v) (h0 : ∀ p, p < k * 24 → nx p = nI v → cs0 p = false) : cs p0 = false := by
  rw [h p0 (by omega), h0 p0 (by omega) hx, df (by omega : ¬ b ≤ p0)]; simp
theorem cs_end {cs0 : Nat → Bool} {b : Nat} (h : ∀ p, p < k * 24 → cs p = (cs0 p || (decide (nx p = nI v) && decide (b ≤ p)))) (hno : ∀ p, p < b → nx p ≠ nI v) : ∀ p, p < k * 24 → cs p = (cs0 p || decide (nx p = nI v)) := by
  intro p hp
  rw [h p hp]
  by_cases c : nx p = nI v
  · rcases Nat.lt_or_ge p b with z | z
    · exact absurd c (hno p z)
    · rw [dt z, Bool.and_true]
  · rw [df c]; simp
end DEC
/-- the first loop of find: what fails is ruled out -/
def P1 (X Y : um_M) (fl : Nat → Bool) (i : Nat) (wt : Nat → Nat) (w : Nat) : Prop :=
  (∀ s, s < i → Y 14 s = if fl s = true then 1 else 0) ∧ (∀ j, j < w → Y 16 j = nI (wt j) ∧ wt j < i ∧ fl (wt j) = true) ∧ (Y 13 3 = nI w ∧ w = cnt fl i) ∧ (∀ s, s < i → Y 15 s = X 8 s) ∧ (∀ s, s < i → fl s = true → ∃ j, j < w ∧ wt j = s) ∧ ∀ a b, a < w → b < w → wt a = wt b → a = b
theorem P1_f {X Y : um_M} {fl : Nat → Bool} {i : Nat} {wt : Nat → Nat} {w : Nat} (h : P1 X Y fl i wt w) (hf : fl i = false) : P1 X (um_set (um_set Y 14 i 0) 15 i (X 8 i)) fl (i + 1) wt w := by
  obtain ⟨h1, h2, h3, h4, h5, h6⟩ := h
  refine ⟨fun s hs => ?_, fun j hj => ?_, ?_, fun s hs => ?_, fun s hs a => ?_, h6⟩
  · rw [um_k (by decide), um_ap]
    by_cases z : s = i
    · rw [if_pos ⟨rfl, z⟩, z, hf]; rfl
    · rw [if_neg (fun y => z y.2)]; exact h1 s (by omega)
  · rw [um_k (by decide), um_k (by decide)]
    obtain ⟨a, b, c⟩ := h2 j hj
    exact ⟨a, by omega, c⟩
  · rw [um_k (by decide), um_k (by decide), cnt_f hf]; exact h3
  · rw [um_ap]
    by_cases z : s = i
    · rw [if_pos ⟨rfl, z⟩, z]
    · rw [if_neg (fun y => z y.2), um_k (by decide)]; exact h4 s (by omega)
  · by_cases z : s = i
    · rw [z, hf] at a; exact absurd a (by decide)
    · exact h5 s (by omega) a
theorem P1_t {X Y : um_M} {fl : Nat → Bool} {i : Nat} {wt : Nat → Nat} {w : Nat} (h : P1 X Y fl i wt w) (hf : fl i = true) : P1 X (n_Av_ruleOut (um_set (um_set Y 14 i 0) 15 i (X 8 i)) w i) fl (i + 1) (va_up wt w i) (w + 1) := by
  obtain ⟨h1, h2, h3, h4, h5, h6⟩ := h
  have e0 : n_Av_ruleOut (um_set (um_set Y 14 i 0) 15 i (X 8 i)) w i = um_set (um_set (um_set (um_set (um_set Y 14 i 0) 15 i (X 8 i)) 14 i 1) 16 w (nI i)) 13 3 (nI (w + 1)) := by
    unfold n_Av_ruleOut
    rw [um_k (by decide), um_self, if_pos rfl]
  rw [e0]
  refine ⟨fun s hs => ?_, fun j hj => ?_, ⟨um_self, ?_⟩, fun s hs => ?_, fun s hs a => ?_, fun a b ha hb e => ?_⟩
  · rw [um_k (by decide), um_k (by decide), um_ap]
    by_cases z : s = i
    · rw [if_pos ⟨rfl, z⟩, z, hf]; rfl
    · rw [if_neg (fun y => z y.2), um_k (by decide), um_j z]; exact h1 s (by omega)
  · rw [um_k (by decide), um_ap]
    by_cases z : j = w
    · rw [if_pos ⟨rfl, z⟩, show va_up wt w i j = i from if_pos z]; exact ⟨rfl, by omega, hf⟩
    · rw [if_neg (fun y => z y.2), show va_up wt w i j = wt j from if_neg z, um_k (by decide), um_k (by decide), um_k (by decide)]
      obtain ⟨a, b, c⟩ := h2 j (by omega)
      exact ⟨a, by omega, c⟩
  · rw [cnt_t hf, h3.2]
  · rw [um_k (by decide), um_k (by decide), um_k (by decide), um_ap]
    by_cases z : s = i
    · rw [if_pos ⟨rfl, z⟩, z]
    · rw [if_neg (fun y => z y.2), um_k (by decide)]; exact h4 s (by omega)
  · by_cases z : s = i
    · exact ⟨w, by omega, by rw [z]; exact if_pos rfl⟩
    · obtain ⟨j, a', b'⟩ := h5 s (by omega) a
      exact ⟨j, by omega, by rw [← b']; exact if_neg (by omega)⟩
  · unfold va_up at e
    by_cases z1 : a = w <;> by_cases z2 : b = w
    · omega
    · rw [if_pos z1, if_neg z2] at e
      have := (h2 b (by omega)).2.1
      omega
    · rw [if_neg z1, if_pos z2] at e
      have := (h2 a (by omega)).2.1
      omega
    · rw [if_neg z1, if_neg z2] at e
      exact h6 a b (by omega) (by omega) e
theorem nxq_open {n : Nat} {tr : Nat → Nat → Nat} {q : Bq} {s t : Nat} (hk : q.1 ≤ 300) (ht : t < 24) : nxq n tr q (s * 24 + t) ≠ -2 ↔ t < n ∧ opn tr t (q.2.1 s) = true := by
  obtain ⟨d1, d2⟩ := dm (s := s) ht
  unfold nxq
  rw [d1, d2]
  by_cases c : t < n ∧ opn tr t (q.2.1 s) = true
  · rw [if_pos c]
    have : fnd q (led tr t (q.2.1 s)) ≤ q.1 := lst_le _ _
    exact ⟨fun _ => c, fun _ => nI_m2 (by omega)⟩
  · rw [if_neg c]; exact ⟨fun z => absurd rfl z, fun z => absurd z c⟩
theorem P1_end {X Y : um_M} {fl : Nat → Bool} {n : Nat} {tr : Nat → Nat → Nat} {q : Bq} {wt : Nat → Nat} {w : Nat} (hP : RXp X n tr q (q.1 * 24)) (hk : q.1 ≤ 300) (h : P1 X Y fl q.1 wt w) : AvI Y (nxq n tr q) fl q.1 fl wt w (fun _ => false) := by
  obtain ⟨h1, h2, h3, h4, h5, h6⟩ := h
  have e : ∀ s, s < q.1 → ocn n tr q s (q.1 * 24) = lfc (nxq n tr q) (fun _ => false) s := by
    intro s hs
    unfold ocn lfc
    refine cnt_congr (fun t ht => ?_)
    rw [dt (by omega : s * 24 + t < q.1 * 24)]
    have := nxq_open (n := n) (tr := tr) (q := q) (s := s) hk ht
    by_cases c : t < n ∧ opn tr t (q.2.1 s) = true
    · rw [dt (this.mpr c), dt c.1, c.2]; rfl
    · rw [df (fun z => c (this.mp z))]
      by_cases c1 : t < n
      · rw [dt c1]
        rcases hb : opn tr t (q.2.1 s) with _ | _
        · rfl
        · exact absurd ⟨c1, hb⟩ c
      · rw [df c1]; rfl
  refine ⟨h1, h2, h3, fun s hs => by rw [h4 s hs, hP.2.2.1 s hs, e s hs], h5, fun p _ z => absurd (show false = true from z) (by decide), fun s hs ⟨t, ht, hn⟩ z => ?_, fun s _ z => out_fl z, fun s _ z => z, h6⟩
  have := cnt_zero z t ht
  rw [dt hn] at this
  exact absurd (show true = false from this) (by decide)
theorem Av_end {Y : um_M} {nx : Nat → Int32} {fl : Nat → Bool} {k : Nat} {ro : Nat → Bool} {wt : Nat → Nat} {w : Nat} {cs : Nat → Bool} (h : AvI Y nx fl k ro wt w cs) (hc : ∀ p, p < k * 24 → (cs p = true ↔ ∃ j, j < w ∧ nx p = nI (wt j))) : ∀ s, s < k → Y 14 s = if stB k nx fl s = true then 0 else 1 := by
  obtain ⟨h1, h2, h3, h4, h5, h6, h7, h8, h9, h10⟩ := h
  have hin : ∀ s, s < k → Out k nx fl s → ro s = true := by
    refine out_least (R := fun s => ro s = true) h9 (fun s hs a b => h7 s hs a (cnt_none (fun t ht => ?_)))
    by_cases c : nx (s * 24 + t) = -2
    · rw [df (fun z => z c)]; rfl
    · obtain ⟨v, a', b', d'⟩ := b t ht c
      obtain ⟨j, x, y⟩ := h5 v a' d'
      rw [(hc (s * 24 + t) (by omega)).mpr ⟨j, x, by rw [y]; exact b'⟩]
      simp
  intro s hs
  rw [h1 s hs]
  rcases hb : ro s with _ | _
  · rw [stB_t (fun z => by rw [hin s hs z] at hb; exact absurd hb (by decide))]; rfl
  · rw [stB_f (h8 s hs hb)]; rfl
theorem cs_next {nx : Nat → Int32} {k i w : Nat} {cs cs2 : Nat → Bool} {wt wt2 : Nat → Nat} (hc : ∀ p, p < k * 24 → (cs p = true ↔ ∃ j, j < i ∧ nx p = nI (wt j))) (h2 : ∀ p, p < k * 24 → cs2 p = (cs p || decide (nx p = nI (wt i)))) (hi : i < w) (hw : ∀ j, j < w → wt2 j = wt j) : ∀ p, p < k * 24 → (cs2 p = true ↔ ∃ j, j < i + 1 ∧ nx p = nI (wt2 j)) := by
  intro p hp
  rw [h2 p hp]
  constructor
  · intro h
    by_cases c : cs p = true
    · obtain ⟨j, a, b⟩ := (hc p hp).mp c
      exact ⟨j, by omega, by rw [hw j (by omega)]; exact b⟩
    · have c : cs p = false := Bool.eq_false_iff.mpr c
      rw [c, Bool.false_or] at h
      exact ⟨i, by omega, by rw [hw i hi]; exact of_decide_eq_true h⟩
  · intro ⟨j, a, b⟩
    rw [hw j (by omega)] at b
    by_cases z : j = i
    · rw [z] at b; rw [dt b, Bool.or_true]
    · rw [(hc p hp).mpr ⟨j, by omega, b⟩, Bool.true_or]
theorem cs_free {nx : Nat → Int32} {k i w : Nat} {cs : Nat → Bool} {wt : Nat → Nat} (hk : k ≤ 300) (hc : ∀ p, p < k * 24 → (cs p = true ↔ ∃ j, j < i ∧ nx p = nI (wt j))) (hb : ∀ j, j < w → wt j < k) (hi : i < w) (hinj : ∀ a b, a < w → b < w → wt a = wt b → a = b) : ∀ p, p < k * 24 → nx p = nI (wt i) → cs p = false := by
  intro p hp h
  rcases hz : cs p with _ | _
  · rfl
  · obtain ⟨j, a, b⟩ := (hc p hp).mp hz
    rw [h] at b
    have h1 := hb i hi
    have h2 := hb j (by omega)
    have := hinj i j hi (by omega) ((nI_eq (by omega) (by omega)).mp b)
    omega
