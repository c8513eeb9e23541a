/-! the class and the reference, side by side -/
def Rl (X M : um_M) (n : Nat) (tr : Nat → Nat → Nat) (c : Nat) (cm : Nat → Nat → Int32) (v : Nat) (x : Int32) (nn : Nat → Nat) (k : Nat) (o : Option Bq) : Prop :=
  (X 0 4 = nI n ∧ RXt X n tr ∧ RMt M n tr) ∧ (X 0 5 = nI c ∧ RMc M c cm ∧ ∀ i, i < c → ∀ j, j < 3 → X (41 + i) j = cm i j) ∧ (v < 256 ∧ X 0 6 = nI v ∧ M 0 9 = nI v) ∧ (vst x ∧ X 0 7 = x ∧ M 0 10 = cvI x ∧ X 0 8 = M 0 11) ∧ ((∀ j, j < 1024 → X 12 j = nI (nn j) ∧ nn j ≤ 300) ∧ k ≤ 300 ∧ M 0 17 = nI k) ∧
  (match o with
    | none => X 3 9 = 0 ∧ M 0 18 = 0
    | some q => M 0 18 = 1 ∧ k = q.1 ∧ spc n tr (nI v) = some q ∧ RXs X q ∧ RXh (X 12) q nn ∧ RXp X n tr q (q.1 * 24) ∧ RMq M q)
def Rel (X M : um_M) : Prop := ∃ n tr c cm v x nn k o, Rl X M n tr c cm v x nn k o
section OPS
variable {X M X' M' : um_M} {n : Nat} {tr : Nat → Nat → Nat} {c : Nat} {cm : Nat → Nat → Int32} {v : Nat} {x : Int32} {nn : Nat → Nat} {k : Nat} {o : Option Bq}
theorem in255 (a : Int32) : s_Mo_in a 0 255 = s_Ds_isBelow a 256 := in_b (m := 255) (by decide)
theorem RXt_c {Y : um_M} (h : RXt X n tr) (e : ∀ t, t < 24 → Y (17 + t) = X (17 + t)) : RXt Y n tr := ⟨h.1, fun t ht => ⟨(h.2 t ht).1, fun j hj => by rw [e t (by have := h.1; omega)]; exact (h.2 t ht).2 j hj⟩⟩
theorem o_begin (h : Rl X M n tr c cm v x nn k o) (a0 : Int32) : s_Ds_begin a0 = s_Mo_begin a0 ∧ Rel (n_Ds_begin X a0) (n_Mo_begin M a0) := by
  obtain ⟨⟨h1, h2, h3⟩, ⟨h4, h5, h6⟩, ⟨h7, h8, h9⟩, ⟨h10, h11, h12, h13⟩, ⟨h14, h15, h16⟩, h17⟩ := id h
  unfold s_Ds_begin s_Mo_begin n_Ds_begin n_Mo_begin
  rw [in255]
  refine ⟨rfl, ?_⟩
  by_cases q : s_Ds_isBelow a0 256 = 0
  · rw [if_pos q, if_pos q]; exact ⟨n, tr, c, cm, v, x, nn, k, o, h⟩
  · rw [if_neg q, if_neg q]
    obtain ⟨i, hi, rfl⟩ := ib_t (n := 256) (by decide) q
    refine ⟨n, tr, c, cm, i, nI i, nn, k, none, ⟨h1, RXt_c h2 (fun t ht => ?_), h3⟩, ⟨h4, h5, fun j hj l hl => ?_⟩, ⟨hi, rfl, rfl⟩, ⟨(S_first hi).2, rfl, (S_first hi).1, rfl⟩, ⟨h14, h15, h16⟩, rfl, rfl⟩
    · unfold n_Sp_forget n_Ds_returnToFirst
      rw [um_k (by omega), um_k (by omega), um_k (by omega), um_k (by omega)]
    · unfold n_Sp_forget n_Ds_returnToFirst
      rw [um_k (by omega), um_k (by omega), um_k (by omega), um_k (by omega)]; exact h6 j hj l hl
theorem o_clear (h : Rl X M n tr c cm v x nn k o) : s_Ds_clear (X 0 4) = s_Mo_clear (M 0 7) ∧ Rel (n_Ds_clear X) (n_Mo_clear M) := by
  obtain ⟨⟨h1, h2, h3⟩, ⟨h4, h5, h6⟩, ⟨h7, h8, h9⟩, ⟨h10, h11, h12, h13⟩, ⟨h14, h15, h16⟩, h17⟩ := id h
  refine ⟨by show X 0 4 = M 0 7; rw [h1, h3.1], 0, tr, 0, cm, v, nI v, nn, k, none, ⟨rfl, ⟨Nat.zero_le _, fun t ht => absurd ht (Nat.not_lt_zero _)⟩, ⟨rfl, Nat.zero_le _, fun t ht => absurd ht (Nat.not_lt_zero _)⟩⟩, ⟨rfl, ⟨rfl, Nat.zero_le _, fun t ht => absurd ht (Nat.not_lt_zero _)⟩, fun j hj => absurd hj (Nat.not_lt_zero _)⟩, ⟨h7, h8, h9⟩, ⟨(S_first h7).2, h8, ?_, rfl⟩, ⟨h14, h15, h16⟩, rfl, rfl⟩
  show s_Mo_first (M 0 9) = cvI (nI v)
  rw [h9]; exact (S_first h7).1
theorem said {a0 a1 a2 a3 : Int32} (h : ¬ s_Tr_isAsSaid a0 a1 a2 a3 = 0) : ∃ i j l m, i < 3 ∧ j < 8 ∧ l < 8 ∧ m < 128 ∧ a0 = nI i ∧ a1 = nI j ∧ a2 = nI l ∧ a3 = nI m := by
  unfold s_Tr_isAsSaid at h
  by_cases c0 : s_Ds_isBelow a0 3 = 0
  · rw [if_pos c0] at h; exact absurd rfl h
  · rw [if_neg c0] at h
    by_cases c1 : s_Ds_isBelow a1 8 = 0
    · rw [if_pos c1] at h; exact absurd rfl h
    · rw [if_neg c1] at h
      by_cases c2 : s_Ds_isBelow a2 8 = 0
      · rw [if_pos c2] at h; exact absurd rfl h
      · rw [if_neg c2] at h
        by_cases c3 : s_Ds_isBelow a3 128 = 0
        · rw [if_pos c3] at h; exact absurd rfl h
        · obtain ⟨i, hi, e0⟩ := ib_t (n := 3) (by decide) c0
          obtain ⟨j, hj, e1⟩ := ib_t (n := 8) (by decide) c1
          obtain ⟨l, hl, e2⟩ := ib_t (n := 8) (by decide) c2
          obtain ⟨m, hm, e3⟩ := ib_t (n := 128) (by decide) c3
          exact ⟨i, j, l, m, hi, hj, hl, hm, e0, e1, e2, e3⟩
/-- a transition t is put: both sides -/
def trU (tr : Nat → Nat → Nat) (t i j l m : Nat) : Nat → Nat → Nat := fun s => if s = t then (fun z => match z with | 0 => i | 1 => j | 2 => l | _ => m) else tr s
theorem put_tr {t i j l m n' : Nat} (hX : ∀ s, s < n' → s ≠ t → trok (tr s) ∧ ∀ z, z < 6 → X (17 + s) z = gX tr s z) (hM : ∀ s, s < n' → s ≠ t → trok (tr s) ∧ M 1 s = nI (tr s 0) ∧ M 2 s = nI (tr s 1) ∧ M 3 s = nI (tr s 2) ∧ M 4 s = nI (tr s 3)) (hi : i < 3) (hj : j < 8) (hl : l < 8) (hm : m < 128) :
    (∀ s, s < n' → trok (trU tr t i j l m s) ∧ ∀ z, z < 6 → n_Tr_become X t (nI i) (nI j) (nI l) (nI m) (17 + s) z = gX (trU tr t i j l m) s z) ∧ ∀ s, s < n' → trok (trU tr t i j l m s) ∧ n_Mo_set M t (nI i) (nI j) (nI l) (nI m) 1 s = nI (trU tr t i j l m s 0) ∧ n_Mo_set M t (nI i) (nI j) (nI l) (nI m) 2 s = nI (trU tr t i j l m s 1) ∧ n_Mo_set M t (nI i) (nI j) (nI l) (nI m) 3 s = nI (trU tr t i j l m s 2) ∧ n_Mo_set M t (nI i) (nI j) (nI l) (nI m) 4 s = nI (trU tr t i j l m s 3) := by
  refine ⟨fun s hs => ?_, fun s hs => ?_⟩
  · by_cases z : s = t
    · subst z
      have e : trU tr s i j l m s = (fun z => match z with | 0 => i | 1 => j | 2 => l | _ => m) := if_pos rfl
      refine ⟨by rw [e]; exact ⟨hi, hj, hl, hm⟩, fun w hw => ?_⟩
      have g0 : gX (trU tr s i j l m) s 0 = nI i := by show nI (trU tr s i j l m s 0) = _; rw [e]; rfl
      have g1 : gX (trU tr s i j l m) s 1 = nI j := by show nI (trU tr s i j l m s 1) = _; rw [e]; rfl
      have g2 : gX (trU tr s i j l m) s 2 = nI l := by show nI (trU tr s i j l m s 2) = _; rw [e]; rfl
      have g3 : gX (trU tr s i j l m) s 3 = nI (m / 16) := by show nI (trU tr s i j l m s 3 / 16) = _; rw [e]; rfl
      have g4 : gX (trU tr s i j l m) s 4 = nI (m / 4 % 4) := by show nI (trU tr s i j l m s 3 / 4 % 4) = _; rw [e]; rfl
      have g5 : gX (trU tr s i j l m) s 5 = nI (m % 4) := by show nI (trU tr s i j l m s 3 % 4) = _; rw [e]; rfl
      unfold n_Tr_become
      rcases (show w = 0 ∨ w = 1 ∨ w = 2 ∨ w = 3 ∨ w = 4 ∨ w = 5 by omega) with y | y | y | y | y | y <;> subst y
      · rw [g0, um_j (by decide), um_j (by decide), um_j (by decide), um_j (by decide), um_j (by decide), um_self]
      · rw [g1, um_j (by decide), um_j (by decide), um_j (by decide), um_j (by decide), um_self]
      · rw [g2, um_j (by decide), um_j (by decide), um_j (by decide), um_self]
      · rw [g3, um_j (by decide), um_j (by decide), um_self]; exact op16 hm
      · rw [g4, um_j (by decide), um_self, op4 hm]; exact op4r (by omega)
      · rw [g5, um_self]; exact op4r hm
    · have e : trU tr t i j l m s = tr s := if_neg z
      obtain ⟨a, b⟩ := hX s hs z
      refine ⟨by rw [e]; exact a, fun w hw => ?_⟩
      rw [bec_k (by omega), b w hw]
      unfold gX; rw [e]
  · unfold n_Mo_set
    by_cases z : s = t
    · subst z
      have e : trU tr s i j l m s = (fun z => match z with | 0 => i | 1 => j | 2 => l | _ => m) := if_pos rfl
      rw [e]
      refine ⟨⟨hi, hj, hl, hm⟩, ?_, ?_, ?_, ?_⟩
      · rw [um_k (by decide), um_k (by decide), um_k (by decide), um_k (by decide), um_self]; rfl
      · rw [um_k (by decide), um_k (by decide), um_k (by decide), um_self]; rfl
      · rw [um_k (by decide), um_k (by decide), um_self]; rfl
      · rw [um_k (by decide), um_self]; rfl
    · have e : trU tr t i j l m s = tr s := if_neg z
      rw [e]
      obtain ⟨a, b1, b2, b3, b4⟩ := hM s hs z
      refine ⟨a, ?_, ?_, ?_, ?_⟩
      · rw [um_k (by decide), um_k (by decide), um_k (by decide), um_k (by decide), um_j z]; exact b1
      · rw [um_k (by decide), um_k (by decide), um_k (by decide), um_j z, um_k (by decide)]; exact b2
      · rw [um_k (by decide), um_k (by decide), um_j z, um_k (by decide), um_k (by decide)]; exact b3
      · rw [um_k (by decide), um_j z, um_k (by decide), um_k (by decide), um_k (by decide)]; exact b4
theorem set_k {t : Nat} {a1 a2 a3 a4 : Int32} {w : Nat} (h : 4 < w) : n_Mo_set M t a1 a2 a3 a4 w = M w := by
  unfold n_Mo_set
  rw [um_k (by omega), um_k (by omega), um_k (by omega), um_k (by omega), um_k (by omega)]
theorem o_add (h : Rl X M n tr c cm v x nn k o) {a0 a1 a2 a3 r r' : Int32}
    (hX : (s_Tr_isAsSaid a0 a1 a2 a3 = 0 → r = -1 ∧ X = X') ∧ (¬ s_Tr_isAsSaid a0 a1 a2 a3 = 0 → n = 24 → r = -3 ∧ X = X') ∧ (¬ s_Tr_isAsSaid a0 a1 a2 a3 = 0 → ¬ n = 24 → r = nI n ∧ n_Sp_forget (um_set (n_Tr_become X n a0 a1 a2 a3) 0 4 (nI (n + 1))) = X'))
    (hM : (s_Mo_isGood a0 a1 a2 a3 = 0 → r' = -1 ∧ M = M') ∧ (¬ s_Mo_isGood a0 a1 a2 a3 = 0 → n = 24 → r' = -3 ∧ M = M') ∧ (¬ s_Mo_isGood a0 a1 a2 a3 = 0 → ¬ n = 24 → r' = nI n ∧ um_set (n_Mo_set M n a0 a1 a2 a3) 0 7 (nI (n + 1)) = M')) : r = r' ∧ Rel X' M' := by
  obtain ⟨⟨h1, h2, h3⟩, ⟨h4, h5, h6⟩, ⟨h7, h8, h9⟩, ⟨h10, h11, h12, h13⟩, ⟨h14, h15, h16⟩, h17⟩ := id h
  rw [good_eq] at hM
  by_cases q : s_Tr_isAsSaid a0 a1 a2 a3 = 0
  · obtain ⟨e1, rfl⟩ := hX.1 q
    obtain ⟨e2, rfl⟩ := hM.1 q
    exact ⟨by rw [e1, e2], n, tr, c, cm, v, x, nn, k, o, h⟩
  · by_cases q2 : n = 24
    · obtain ⟨e1, rfl⟩ := hX.2.1 q q2
      obtain ⟨e2, rfl⟩ := hM.2.1 q q2
      exact ⟨by rw [e1, e2], n, tr, c, cm, v, x, nn, k, o, h⟩
    · obtain ⟨e1, rfl⟩ := hX.2.2 q q2
      obtain ⟨e2, rfl⟩ := hM.2.2 q q2
      obtain ⟨i, j, l, m, hi, hj, hl, hm, rfl, rfl, rfl, rfl⟩ := said q
      have hn := h2.1
      obtain ⟨p1, p2⟩ := put_tr (tr := tr) (X := X) (M := M) (t := n) (n' := n + 1) (fun s hs hne => h2.2 s (by omega)) (fun s hs hne => h3.2.2 s (by omega)) hi hj hl hm
      have ek : ∀ w, w ≠ 17 + n → w ≠ 0 → w ≠ 3 → n_Sp_forget (um_set (n_Tr_become X n (nI i) (nI j) (nI l) (nI m)) 0 4 (nI (n + 1))) w = X w := fun w y1 y2 y3 => by
        unfold n_Sp_forget; rw [um_k y3, um_k y2, bec_k y1]
      have e0 : ∀ w, w ≠ 4 → n_Sp_forget (um_set (n_Tr_become X n (nI i) (nI j) (nI l) (nI m)) 0 4 (nI (n + 1))) 0 w = X 0 w := fun w y => by
        unfold n_Sp_forget; rw [um_k (by decide), um_j y, bec_k (by omega)]
      have m0 : ∀ w, w ≠ 7 → w ≠ 18 → um_set (n_Mo_set M n (nI i) (nI j) (nI l) (nI m)) 0 7 (nI (n + 1)) 0 w = M 0 w := fun w y1 y2 => by
        rw [um_j y1]; unfold n_Mo_set; rw [um_j y2, um_k (by decide), um_k (by decide), um_k (by decide), um_k (by decide)]
      refine ⟨by rw [e1, e2], n + 1, trU tr n i j l m, c, cm, v, x, nn, k, none, ⟨rfl, ⟨by omega, fun s hs => ?_⟩, ⟨um_self, by omega, fun s hs => ?_⟩⟩, ⟨by rw [e0 5 (by decide)]; exact h4, ⟨by rw [m0 8 (by decide) (by decide)]; exact h5.1, h5.2.1, fun s hs => ?_⟩, fun s hs w hw => ?_⟩, ⟨h7, by rw [e0 6 (by decide)]; exact h8, by rw [m0 9 (by decide) (by decide)]; exact h9⟩, ⟨h10, by rw [e0 7 (by decide)]; exact h11, by rw [m0 10 (by decide) (by decide)]; exact h12, by rw [e0 8 (by decide), m0 11 (by decide) (by decide)]; exact h13⟩, ⟨fun w hw => by rw [ek 12 (by omega) (by decide) (by decide)]; exact h14 w hw, h15, by rw [m0 17 (by decide) (by decide)]; exact h16⟩, rfl, rfl⟩
      · refine ⟨(p1 s hs).1, fun w hw => ?_⟩
        unfold n_Sp_forget
        rw [um_k (by omega), um_k (by omega)]
        exact (p1 s hs).2 w hw
      · rw [um_k (by decide), um_k (by decide), um_k (by decide), um_k (by decide)]
        exact p2 s hs
      · rw [um_k (by decide), um_k (by decide), um_k (by decide), set_k (by decide), set_k (by decide), set_k (by decide)]
        exact h5.2.2 s hs
      · have h6' := h5.2.1
        rw [ek (41 + s) (by omega) (by omega) (by omega)]; exact h6 s hs w hw
theorem o_change (h : Rl X M n tr c cm v x nn k o) {a0 a1 a2 a3 a4 r r' : Int32}
    (hX : ((∀ t, t < n → a0 ≠ nI t) → r = 0 ∧ X = X') ∧ (s_Tr_isAsSaid a1 a2 a3 a4 = 0 → r = 0 ∧ X = X') ∧ ∀ t, t < n → a0 = nI t → ¬ s_Tr_isAsSaid a1 a2 a3 a4 = 0 → r = 1 ∧ n_Sp_forget (n_Tr_become X t a1 a2 a3 a4) = X')
    (hM : ((∀ t, t < n → a0 ≠ nI t) → r' = 0 ∧ M = M') ∧ (s_Mo_isGood a1 a2 a3 a4 = 0 → r' = 0 ∧ M = M') ∧ ∀ t, t < n → a0 = nI t → ¬ s_Mo_isGood a1 a2 a3 a4 = 0 → r' = 1 ∧ n_Mo_set M t a1 a2 a3 a4 = M') : r = r' ∧ Rel X' M' := by
  obtain ⟨⟨h1, h2, h3⟩, ⟨h4, h5, h6⟩, ⟨h7, h8, h9⟩, ⟨h10, h11, h12, h13⟩, ⟨h14, h15, h16⟩, h17⟩ := id h
  rw [good_eq] at hM
  by_cases q0 : ∀ t, t < n → a0 ≠ nI t
  · obtain ⟨e1, rfl⟩ := hX.1 q0
    obtain ⟨e2, rfl⟩ := hM.1 q0
    exact ⟨by rw [e1, e2], n, tr, c, cm, v, x, nn, k, o, h⟩
  · by_cases q : s_Tr_isAsSaid a1 a2 a3 a4 = 0
    · obtain ⟨e1, rfl⟩ := hX.2.1 q
      obtain ⟨e2, rfl⟩ := hM.2.1 q
      exact ⟨by rw [e1, e2], n, tr, c, cm, v, x, nn, k, o, h⟩
    · obtain ⟨t, hnt⟩ := Classical.not_forall.mp q0
      have ht : t < n := Classical.byContradiction (fun y => hnt (fun z => absurd z y))
      have ea : a0 = nI t := Classical.byContradiction (fun y => hnt (fun _ => y))
      obtain ⟨e1, rfl⟩ := hX.2.2 t ht ea q
      obtain ⟨e2, rfl⟩ := hM.2.2 t ht ea q
      obtain ⟨i, j, l, m, hi, hj, hl, hm, rfl, rfl, rfl, rfl⟩ := said q
      have hn := h2.1
      obtain ⟨p1, p2⟩ := put_tr (tr := tr) (X := X) (M := M) (t := t) (n' := n) (fun s hs hne => h2.2 s hs) (fun s hs hne => h3.2.2 s hs) hi hj hl hm
      have ek : ∀ w, w ≠ 17 + t → w ≠ 3 → n_Sp_forget (n_Tr_become X t (nI i) (nI j) (nI l) (nI m)) w = X w := fun w y1 y3 => by
        unfold n_Sp_forget; rw [um_k y3, bec_k y1]
      have m0 : ∀ w, w ≠ 18 → n_Mo_set M t (nI i) (nI j) (nI l) (nI m) 0 w = M 0 w := fun w y2 => by
        unfold n_Mo_set; rw [um_j y2, um_k (by decide), um_k (by decide), um_k (by decide), um_k (by decide)]
      refine ⟨by rw [e1, e2], n, trU tr t i j l m, c, cm, v, x, nn, k, none, ⟨by rw [ek 0 (by omega) (by decide)]; exact h1, ⟨hn, fun s hs => ?_⟩, ⟨by rw [m0 7 (by decide)]; exact h3.1, hn, p2⟩⟩, ⟨by rw [ek 0 (by omega) (by decide)]; exact h4, ⟨by rw [m0 8 (by decide)]; exact h5.1, h5.2.1, fun s hs => ?_⟩, fun s hs w hw => ?_⟩, ⟨h7, by rw [ek 0 (by omega) (by decide)]; exact h8, by rw [m0 9 (by decide)]; exact h9⟩, ⟨h10, by rw [ek 0 (by omega) (by decide)]; exact h11, by rw [m0 10 (by decide)]; exact h12, by rw [ek 0 (by omega) (by decide), m0 11 (by decide)]; exact h13⟩, ⟨fun w hw => by rw [ek 12 (by omega) (by decide)]; exact h14 w hw, h15, by rw [m0 17 (by decide)]; exact h16⟩, rfl, rfl⟩
      · refine ⟨(p1 s hs).1, fun w hw => ?_⟩
        unfold n_Sp_forget
        rw [um_k (by omega)]
        exact (p1 s hs).2 w hw
      · rw [set_k (by decide), set_k (by decide), set_k (by decide)]
        exact h5.2.2 s hs
      · have h6' := h5.2.1
        rw [ek (41 + s) (by omega) (by omega)]; exact h6 s hs w hw
end OPS
