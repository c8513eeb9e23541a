theorem bf0 {x : Int32} {b : Bool} (h : x = if b = true then 1 else 0) (c : x = 0) : b = false := by
  cases b
  · rfl
  · rw [h] at c; exact absurd c (by decide)
theorem bt1 {x : Int32} {b : Bool} (h : x = if b = true then 1 else 0) (c : ¬ x = 0) : b = true := by
  cases b
  · exact absurd h c
  · rfl
set_option maxHeartbeats 4000000 in
set_option maxRecDepth 100000 in
theorem c_Mo_goesOn (l : Launch) (G : UG) (mem : um_M) (n s : Nat) (tr : Nat → Nat → Nat) (q : Bq) (st : Nat → Bool) (hT : RMt mem n tr) (hR : RMq mem q) (hw0 : bwf n q) (hq : okq n tr q) (hs : s < q.1) (hst : ∀ i, i < q.1 → mem 12 i = if st i = true then 1 else 0) : MetM l G y_Mo_goesOn b_Mo_goesOn 5 (some .boolean) ({ frames := 2, cells := 0, slots := 0, locals := 51 }) [.ref (G.2.1 0), .int (nI s)] mem (fun r mem' => ((r = 1 ∧ gOn q.1 (nxq n tr q) st s) ∨ (r = 0 ∧ gNo q.1 (nxq n tr q) st s)) ∧ mem = mem') := by
  refine u_start [.ref (G.2.1 0), .int (nI s)] (by decide) (Nat.le_of_ble_eq_true rfl) ?_
  intro p_ e_ s_ m_ bl_ me_ c_ ls S hr hlk hin hl hB
  have hw := uH_start hB
  have hl : lv_has ls 5 [(0, .ref (G.2.1 0)), (1, .int (nI s))] := hl
  refine lv_iconst (v := (0 : Int32)) S.1 S.2.1 d_Mo_goesOn_0 (by decide) ?_
  refine lv_istore_n (lv' := [(2, .int (0 : Int32)), (0, .ref (G.2.1 0)), (1, .int (nI s))]) S.1 S.2.1 d_Mo_goesOn_1 rfl hl (by decide) rfl (fun ls hl => ?_)
  refine lv_iconst (v := (0 : Int32)) S.1 S.2.1 d_Mo_goesOn_2 (by decide) ?_
  refine lv_istore_n (lv' := [(3, .int (0 : Int32)), (2, .int (0 : Int32)), (0, .ref (G.2.1 0)), (1, .int (nI s))]) S.1 S.2.1 d_Mo_goesOn_3 rfl hl (by decide) rfl (fun ls hl => ?_)
  refine u_loop (σ := Nat × Int32) (fun (x : Nat × Int32) (mem_ : um_M) (ls : Array Slot) => match x with | (t, f) => (t ≤ n) ∧ (∀ u, u < t → opn tr u (q.2.1 s) = true → st (fnd q (led tr u (q.2.1 s))) = false) ∧ ((f = 0 ∧ ∀ u, u < t → ¬ opn tr u (q.2.1 s) = true) ∨ (f = 1 ∧ ∃ u, u < t ∧ opn tr u (q.2.1 s) = true)) ∧ mem = mem_ ∧ lv_has ls 5 [(0, .ref (G.2.1 0)), (1, .int (nI s)), (2, .int f), (3, .int (nI t))]) (fun x => match x with | (t, f) => n - t) ?_ (0, 0) hw ⟨Nat.zero_le _, lt_zero, Or.inl ⟨rfl, lt_zero⟩, rfl, lv_sub hl [2, 3, 1, 0] rfl⟩
  intro x memq H locs ls hw hI ih4
  obtain ⟨t, f⟩ := x
  obtain ⟨htn, hno1, hf1, rfl, hl⟩ := hI
  dsimp only at ih4
  have hn24 := hT.2.1
  have hk := hw0.2.1
  refine lv_iload_n S.1 S.2.1 d_Mo_goesOn_4 rfl (lv_at hl 3 rfl) ?_
  refine lv_aload_n S.1 S.2.1 d_Mo_goesOn_5 rfl (lv_at hl 0 rfl) ?_
  refine u_get (v := .int (mem 0 7)) S hw 0 (by decide) rfl rfl in_Mo 7 (by decide) lf_Mo_77 rfl d_Mo_goesOn_6 ?_
  refine u_top (y := (nI n)) hT.1 ?_
  refine lv_icmp_ge (tgt := 66) S.1 S.2.1 d_Mo_goesOn_9 (by decide) (fun c1 => ?_) (fun c1 => ?_)
  · skip
    have ht2 : t = n := by have z := nle c1 (by omega) (by omega); omega
    refine lv_iload_n S.1 S.2.1 d_Mo_goesOn_66 rfl (lv_at hl 2 rfl) ?_
    refine lv_if_ne (tgt := 74) S.1 S.2.1 d_Mo_goesOn_67 (by decide) (fun c2 => ?_) (fun c2 => ?_)
    · skip
      have hg : gNo q.1 (nxq n tr q) st s := gNo_of hk hT.2.1 hq hs (by rcases hf1 with z | z; exact absurd z.1 c2; obtain ⟨u, a, b⟩ := z.2; exact ⟨u, by omega, b⟩) (fun u hu => hno1 u (by omega))
      refine lv_iconst (v := (0 : Int32)) S.1 S.2.1 d_Mo_goesOn_74 (by decide) ?_
      exact u_zret S hr hlk hw (by first | rfl | assumption | exact nb01 (z_Ds_isBelow _ _)) ⟨Or.inr ⟨rfl, hg⟩, rfl⟩ d_Mo_goesOn_75
    · skip
      have hg : gOn q.1 (nxq n tr q) st s := gOn_of hk (fun u hu => by rcases hf1 with z | z; exact z.2 u (by omega); rw [z.1] at c2; exact absurd c2 (by decide))
      refine lv_iconst (v := (1 : Int32)) S.1 S.2.1 d_Mo_goesOn_70 (by decide) ?_
      refine lv_goto (tgt := 75) S.1 S.2.1 d_Mo_goesOn_71 (by decide) ?_
      exact u_zret S hr hlk hw (by first | rfl | assumption | exact nb01 (z_Ds_isBelow _ _)) ⟨Or.inl ⟨rfl, hg⟩, rfl⟩ d_Mo_goesOn_75
  · skip
    have ht2 : t < n := nlt c1 (by omega) (by omega)
    obtain ⟨hok, e1, e2, e3, e4⟩ := hT.2.2 t ht2
    have e8 := (hR.2.1 s hs).1
    have hvs := hw0.2.2.1 s hs
    have hop : s_Mo_isOpen (mem 1 t) (mem 2 t) (mem 4 t) (mem 8 s) = s_Tr_isOpenIn (gX tr t) (q.2.1 s) := by rw [e1, e2, e4, e8]; exact S_open hok hvs
    refine lv_aload_n S.1 S.2.1 d_Mo_goesOn_12 rfl (lv_at hl 0 rfl) ?_
    refine lv_aload_n S.1 S.2.1 d_Mo_goesOn_13 rfl (lv_at hl 0 rfl) ?_
    refine u_get (v := .ref (G.2.1 8)) S hw 0 (by decide) rfl rfl in_Mo 12 (by decide) lf_Mo_31 rfl d_Mo_goesOn_14 ?_
    refine lv_iload_n S.1 S.2.1 d_Mo_goesOn_17 rfl (lv_at hl 1 rfl) ?_
    refine u_iaN S hw 8 0 (by decide) rfl rfl (j := s) rfl (by omega) (by decide) d_Mo_goesOn_18 ?_
    refine lv_iload_n S.1 S.2.1 d_Mo_goesOn_19 rfl (lv_at hl 3 rfl) ?_
    refine u_calli hw (va_runV (As := [.int (mem 8 s), .int (nI t)]) (rest := []) S (c_Mo_isOpen l G mem (mem 8 s) t (by omega)) ⟨u_cB S.2.2.2.2 t_Mo_isOpen ln_Mo lm_Mo_80 hd_Mo_isOpen rfl rfl ⟨Nat.le_of_ble_eq_true rfl, Nat.le_of_ble_eq_true rfl⟩, S.2.2.2.2 _ li_Mo_isOpen, S.2.2.2.2 _ ls_Mo_isOpen⟩ (u_preV hw 0 (by decide) rfl rfl) rfl rfl hl.1 rfl (lv_room (Nat.le_of_ble_eq_true rfl)) d_Mo_goesOn_20 ⟨Nat.zero_le _, Nat.zero_le _⟩) (fun r4 mem3 H locs hp hw => ?_)
    obtain ⟨hp, rfl⟩ := hp
    refine u_top (y := (s_Mo_isOpen (mem 1 t) (mem 2 t) (mem 4 t) (mem 8 s))) hp ?_
    refine u_top (y := (s_Tr_isOpenIn (gX tr t) (q.2.1 s))) hop ?_
    refine lv_if_ne (tgt := 29) S.1 S.2.1 d_Mo_goesOn_23 (by decide) (fun c5 => ?_) (fun c5 => ?_)
    · skip
      have ho : opn tr t (q.2.1 s) = true := dt c5
      have hld : s_Mo_leads (mem 4 t) (mem 1 t) (mem 3 t) (mem 8 s) = cvI (led tr t (q.2.1 s)) := by rw [e1, e3, e4, e8]; exact (S_lead hok hvs ho).1
      have hvx : vst (led tr t (q.2.1 s)) := (S_lead hok hvs ho).2
      have hfd := hq s hs t ht2 ho
      refine lv_iconst (v := (1 : Int32)) S.1 S.2.1 d_Mo_goesOn_29 (by decide) ?_
      refine lv_istore_n (lv' := [(2, .int (1 : Int32)), (0, .ref (G.2.1 0)), (1, .int (nI s)), (3, .int (nI t))]) S.1 S.2.1 d_Mo_goesOn_30 rfl hl (by decide) rfl (fun ls hl => ?_)
      refine lv_aload_n S.1 S.2.1 d_Mo_goesOn_31 rfl (lv_at hl 1 rfl) ?_
      refine lv_aload_n S.1 S.2.1 d_Mo_goesOn_32 rfl (lv_at hl 1 rfl) ?_
      refine u_get (v := .ref (G.2.1 8)) S hw 0 (by decide) rfl rfl in_Mo 12 (by decide) lf_Mo_31 rfl d_Mo_goesOn_33 ?_
      refine lv_iload_n S.1 S.2.1 d_Mo_goesOn_36 rfl (lv_at hl 2 rfl) ?_
      refine u_iaN S hw 8 0 (by decide) rfl rfl (j := s) rfl (by omega) (by decide) d_Mo_goesOn_37 ?_
      refine lv_iload_n S.1 S.2.1 d_Mo_goesOn_38 rfl (lv_at hl 3 rfl) ?_
      refine u_calli hw (va_runV (As := [.int (mem 8 s), .int (nI t)]) (rest := []) S (c_Mo_leads l G mem (mem 8 s) t (by omega)) ⟨u_cB S.2.2.2.2 t_Mo_leads ln_Mo lm_Mo_109 hd_Mo_leads rfl rfl ⟨Nat.le_of_ble_eq_true rfl, Nat.le_of_ble_eq_true rfl⟩, S.2.2.2.2 _ li_Mo_leads, S.2.2.2.2 _ ls_Mo_leads⟩ (u_preV hw 0 (by decide) rfl rfl) rfl rfl hl.1 rfl (lv_room (Nat.le_of_ble_eq_true rfl)) d_Mo_goesOn_39 ⟨Nat.zero_le _, Nat.zero_le _⟩) (fun r7 mem6 H locs hp hw => ?_)
      obtain ⟨hp, rfl⟩ := hp
      refine u_top (y := (s_Mo_leads (mem 4 t) (mem 1 t) (mem 3 t) (mem 8 s))) hp ?_
      refine u_top (y := (cvI (led tr t (q.2.1 s)))) hld ?_
      refine lv_istore (lv' := [(4, .int (cvI (led tr t (q.2.1 s)))), (2, .int (1 : Int32)), (0, .ref (G.2.1 0)), (1, .int (nI s)), (3, .int (nI t))]) S.1 S.2.1 d_Mo_goesOn_42 hl (by decide) rfl (fun ls hl => ?_)
      refine lv_aload_n S.1 S.2.1 d_Mo_goesOn_44 rfl (lv_at hl 2 rfl) ?_
      refine u_get (v := .ref (G.2.1 12)) S hw 0 (by decide) rfl rfl in_Mo 16 (by decide) lf_Mo_43 rfl d_Mo_goesOn_45 ?_
      refine lv_aload_n S.1 S.2.1 d_Mo_goesOn_48 rfl (lv_at hl 2 rfl) ?_
      refine lv_iload S.1 S.2.1 d_Mo_goesOn_49 (lv_at hl 0 rfl) ?_
      refine u_calli hw (va_runV (As := [.int (cvI (led tr t (q.2.1 s)))]) (rest := [.ref (G.2.1 12)]) S (c_Mo_find l G mem (cvI (led tr t (q.2.1 s))) q.1 hw0.2.1 hR.1) ⟨u_cB S.2.2.2.2 t_Mo_find ln_Mo lm_Mo_112 hd_Mo_find rfl rfl ⟨Nat.le_of_ble_eq_true rfl, Nat.le_of_ble_eq_true rfl⟩, S.2.2.2.2 _ li_Mo_find, S.2.2.2.2 _ ls_Mo_find⟩ (u_preV hw 0 (by decide) rfl rfl) rfl rfl hl.1 rfl (lv_room (Nat.le_of_ble_eq_true rfl)) d_Mo_goesOn_51 ⟨Nat.zero_le _, Nat.zero_le _⟩) (fun r9 mem8 H locs hp hw => ?_)
      obtain ⟨hp, rfl⟩ := hp
      refine u_top (y := (mFind (mem 8) q.1 (cvI (led tr t (q.2.1 s))))) hp ?_
      refine u_top (y := (nI (fnd q (led tr t (q.2.1 s))))) (by rw [mFind_fnd hR hw0 hvx, if_pos hfd]) ?_
      refine u_zaN S hw 12 1 (by decide) rfl rfl (j := (fnd q (led tr t (q.2.1 s)))) rfl (by omega) (by decide) d_Mo_goesOn_54 ?_
      refine lv_if_eq (tgt := 60) S.1 S.2.1 d_Mo_goesOn_55 (by decide) (fun c10 => ?_) (fun c10 => ?_)
      · skip
        have hst0 : st (fnd q (led tr t (q.2.1 s))) = false := bf0 (hst _ hfd) c10
        refine lv_iinc (v := (nI (t + 1))) (lv' := [(3, .int (nI (t + 1))), (4, .int (cvI (led tr t (q.2.1 s)))), (2, .int (1 : Int32)), (0, .ref (G.2.1 0)), (1, .int (nI s))]) S.1 S.2.1 d_Mo_goesOn_60 hl (k := 4) rfl (nI_1 _) (by decide) rfl (fun ls hl => ?_)
        refine lv_goto (tgt := 4) S.1 S.2.1 d_Mo_goesOn_63 (by decide) ?_
        exact ih4 (t + 1, 1) _ H locs ls (by omega) hw ⟨ht2, (lt_step hno1 (fun _ => hst0)), (Or.inr ⟨rfl, t, by omega, ho⟩), rfl, lv_sub hl [3, 4, 2, 0] rfl⟩
      · skip
        have hst1 : st (fnd q (led tr t (q.2.1 s))) = true := bt1 (hst _ hfd) c10
        refine lv_iconst (v := (1 : Int32)) S.1 S.2.1 d_Mo_goesOn_58 (by decide) ?_
        exact u_zret S hr hlk hw (by first | rfl | assumption | exact nb01 (z_Ds_isBelow _ _)) ⟨Or.inl ⟨rfl, Or.inr ⟨t, by omega, _, hfd, nxq_is ht2 hT.2.1 ho, hst1⟩⟩, rfl⟩ d_Mo_goesOn_59
    · skip
      have hcl : ¬ opn tr t (q.2.1 s) = true := fun z => of_decide_eq_true z c5
      have hn1 : opn tr t (q.2.1 s) = true → st (fnd q (led tr t (q.2.1 s))) = false := fun z => absurd z hcl
      have hf2 : (f = 0 ∧ ∀ u, u < t + 1 → ¬ opn tr u (q.2.1 s) = true) ∨ (f = 1 ∧ ∃ u, u < t + 1 ∧ opn tr u (q.2.1 s) = true) := hf1.elim (fun z => Or.inl ⟨z.1, lt_step z.2 hcl⟩) (fun z => Or.inr ⟨z.1, by obtain ⟨u, a, b⟩ := z.2; exact ⟨u, by omega, b⟩⟩)
      refine lv_goto (tgt := 60) S.1 S.2.1 d_Mo_goesOn_26 (by decide) ?_
      refine lv_iinc (v := (nI (t + 1))) (lv' := [(3, .int (nI (t + 1))), (0, .ref (G.2.1 0)), (1, .int (nI s)), (2, .int f)]) S.1 S.2.1 d_Mo_goesOn_60 hl (k := 3) rfl (nI_1 _) (by decide) rfl (fun ls hl => ?_)
      refine lv_goto (tgt := 4) S.1 S.2.1 d_Mo_goesOn_63 (by decide) ?_
      exact ih4 (t + 1, f) _ H locs ls (by omega) hw ⟨ht2, (lt_step hno1 hn1), hf2, rfl, lv_sub hl [1, 2, 3, 0] rfl⟩
theorem va_sub {st : Nat → Bool} {i s : Nat} (h : va_up st i false s = true) : st s = true := by
  unfold va_up at h
  by_cases z : s = i
  · rw [if_pos z] at h; exact absurd h (by decide)
  · rw [if_neg z] at h; exact h
theorem va_st {M : um_M} {k i : Nat} {st : Nat → Bool} (h : ∀ s, s < k → M 12 s = if st s = true then 1 else 0) : ∀ s, s < k → um_set M 12 i 0 12 s = if va_up st i false s = true then 1 else 0 := by
  intro s hs
  rw [um_ap]
  unfold va_up
  by_cases z : s = i
  · rw [if_pos ⟨rfl, z⟩, if_pos z]; rfl
  · rw [if_neg (fun y => z y.2), if_neg z]; exact h s hs
theorem va_snd {k i : Nat} {nx : Nat → Int32} {fl st : Nat → Bool} (h : ∀ s, s < k → st s = false → Out k nx fl s) (ho : Out k nx fl i) : ∀ s, s < k → va_up st i false s = false → Out k nx fl s := by
  intro s hs e
  unfold va_up at e
  by_cases z : s = i
  · rw [z]; exact ho
  · rw [if_neg z] at e; exact h s hs e
theorem va_cnt {st : Nat → Bool} {i k : Nat} (hi : i < k) (h : st i = true) : cnt st k = cnt (va_up st i false) k + 1 := cnt_one (i := i) hi (fun j _ hj => (if_neg hj).symm) (if_pos rfl) h
theorem RMc_a {M M' : um_M} {c : Nat} {cm : Nat → Nat → Int32} (h : RMc M c cm) (hF : fMA M M') : RMc M' c cm := by
  unfold RMc
  rw [hF 0 (by decide), hF 5 (by decide), hF 6 (by decide), hF 7 (by decide)]
  exact h
theorem gNo_out {k : Nat} {nx : Nat → Int32} {fl st : Nat → Bool} {s : Nat} (h : ∀ s, s < k → st s = false → Out k nx fl s) (hg : gNo k nx st s) : Out k nx fl s :=
  out_rule hg.1 (fun t ht hn => by obtain ⟨v, a, b, d⟩ := hg.2 t ht hn; exact ⟨v, a, b, h v a d⟩)
theorem gOn_congr {k : Nat} {nx : Nat → Int32} {st st' : Nat → Bool} {s : Nat} (h : ∀ v, v < k → st v = st' v) (hg : gOn k nx st s) : gOn k nx st' s := hg.elim Or.inl (fun ⟨t, ht, v, a, b, c⟩ => Or.inr ⟨t, ht, v, a, b, by rw [← h v a]; exact c⟩)
theorem ain0 {a : Int32} (h : ¬ s_Mo_in a 0 1 = 0) (h1 : ¬ a = 1) : a = 0 := by
  obtain ⟨i, hi, e⟩ := mi_t (n := 2) (by decide) h
  rcases (show i = 0 ∨ i = 1 by omega) with z | z
  · rw [e, z]; rfl
  · rw [e, z] at h1; exact absurd rfl h1
set_option maxHeartbeats 4000000 in
set_option maxRecDepth 100000 in
theorem c_Mo_avoids (l : Launch) (G : UG) (mem : um_M) (n c : Nat) (tr : Nat → Nat → Nat) (cm : Nat → Nat → Int32) (q : Bq) (a0 a1 : Int32) (hT : RMt mem n tr) (hC : RMc mem c cm) (hsp : ¬ mem 0 18 = 0 → RMq mem q ∧ bwf n q ∧ okq n tr q) : MetM l G y_Mo_avoids b_Mo_avoids 7 (some .int) ({ frames := 3, cells := 0, slots := 0, locals := 75 }) [.ref (G.2.1 0), .int a0, .int a1] mem (fun r mem' => fMA mem mem' ∧ (s_Mo_in a1 0 1 = 0 → r = -1) ∧ (¬ s_Mo_in a1 0 1 = 0 → (mem 0 18 = 0 ∨ s_Mo_in a0 0 (nI c - 1) = 0) → r = -2) ∧ (¬ s_Mo_in a1 0 1 = 0 → ¬ mem 0 18 = 0 → ∀ i, i < c → a0 = nI i → r = a_avo n tr q (cm i) a1)) := by
  refine u_start [.ref (G.2.1 0), .int a0, .int a1] (by decide) (Nat.le_of_ble_eq_true rfl) ?_
  intro p_ e_ s_ m_ bl_ me_ c_ ls S hr hlk hin hl hB
  have hw := uH_start hB
  have hl : lv_has ls 7 [(0, .ref (G.2.1 0)), (1, .int a0), (2, .int a1)] := hl
  refine lv_iload_n S.1 S.2.1 d_Mo_avoids_0 rfl (lv_at hl 2 rfl) ?_
  refine lv_iconst (v := (0 : Int32)) S.1 S.2.1 d_Mo_avoids_1 (by decide) ?_
  refine lv_iconst (v := (1 : Int32)) S.1 S.2.1 d_Mo_avoids_2 (by decide) ?_
  refine u_callp hw (va_runS (As := [.int a1, .int (0 : Int32), .int (1 : Int32)]) (rest := []) S (c_Mo_in l a1 (0 : Int32) (1 : Int32)) ⟨u_cB S.2.2.2.2 t_Mo_in ln_Mo lm_Mo_84 hd_Mo_in rfl rfl ⟨Nat.le_of_ble_eq_true rfl, Nat.le_of_ble_eq_true rfl⟩, S.2.2.2.2 _ lt_Mo_in⟩ (u_preP hw.1.2) rfl rfl hl.1 rfl (lv_room (Nat.le_of_ble_eq_true rfl)) d_Mo_avoids_3 ⟨Nat.zero_le _, Nat.zero_le _⟩) (fun r H locs hp hw => ?_)
  refine u_top (y := (s_Mo_in a1 (0 : Int32) (1 : Int32))) hp ?_
  refine lv_if_ne (tgt := 11) S.1 S.2.1 d_Mo_avoids_6 (by decide) (fun c1 => ?_) (fun c1 => ?_)
  · skip
    have hin := c1
    refine lv_aload_n S.1 S.2.1 d_Mo_avoids_11 rfl (lv_at hl 0 rfl) ?_
    refine u_get (v := .int (mem 0 18)) S hw 0 (by decide) rfl rfl in_Mo 18 (by decide) lf_Mo_91 rfl d_Mo_avoids_12 ?_
    refine lv_if_eq (tgt := 32) S.1 S.2.1 d_Mo_avoids_15 (by decide) (fun c2 => ?_) (fun c2 => ?_)
    · skip
      have h18 := c2
      refine lv_bipush (v := (-2 : Int32)) S.1 S.2.1 d_Mo_avoids_32 (by decide) ?_
      exact u_iret S hr hlk hw ⟨fMA_rf mem, fun h => absurd h hin, fun _ _ => rfl, fun _ h => absurd h18 h⟩ d_Mo_avoids_34
    · skip
      have h18 := c2
      obtain ⟨hR, hw0, hok⟩ := hsp h18
      have hk := hw0.2.1
      refine lv_iload_n S.1 S.2.1 d_Mo_avoids_18 rfl (lv_at hl 1 rfl) ?_
      refine lv_iconst (v := (0 : Int32)) S.1 S.2.1 d_Mo_avoids_19 (by decide) ?_
      refine lv_aload_n S.1 S.2.1 d_Mo_avoids_20 rfl (lv_at hl 0 rfl) ?_
      refine u_get (v := .int (mem 0 8)) S hw 0 (by decide) rfl rfl in_Mo 8 (by decide) lf_Mo_103 rfl d_Mo_avoids_21 ?_
      refine u_top (y := (nI c)) hC.1 ?_
      refine lv_iconst (v := (1 : Int32)) S.1 S.2.1 d_Mo_avoids_24 (by decide) ?_
      refine lv_isub S.1 S.2.1 d_Mo_avoids_25 ?_
      refine u_callp hw (va_runS (As := [.int a0, .int (0 : Int32), .int ((nI c) - (1 : Int32))]) (rest := []) S (c_Mo_in l a0 (0 : Int32) ((nI c) - (1 : Int32))) ⟨u_cB S.2.2.2.2 t_Mo_in ln_Mo lm_Mo_84 hd_Mo_in rfl rfl ⟨Nat.le_of_ble_eq_true rfl, Nat.le_of_ble_eq_true rfl⟩, S.2.2.2.2 _ lt_Mo_in⟩ (u_preP hw.1.2) rfl rfl hl.1 rfl (lv_room (Nat.le_of_ble_eq_true rfl)) d_Mo_avoids_26 ⟨Nat.zero_le _, Nat.zero_le _⟩) (fun r H locs hp hw => ?_)
      refine u_top (y := (s_Mo_in a0 (0 : Int32) ((nI c) - (1 : Int32)))) hp ?_
      refine lv_if_ne (tgt := 35) S.1 S.2.1 d_Mo_avoids_29 (by decide) (fun c3 => ?_) (fun c3 => ?_)
      · skip
        obtain ⟨z, hz, rfl⟩ := mi_t (by have := hC.2.1; omega) c3
        have hc6 := hC.2.1
        refine lv_iconst (v := (0 : Int32)) S.1 S.2.1 d_Mo_avoids_35 (by decide) ?_
        refine lv_istore_n (lv' := [(3, .int (0 : Int32)), (0, .ref (G.2.1 0)), (1, .int (nI z)), (2, .int a1)]) S.1 S.2.1 d_Mo_avoids_36 rfl hl (by decide) rfl (fun ls hl => ?_)
        refine u_loop (σ := Nat) (fun (x : Nat) (mem_ : um_M) (ls : Array Slot) => match x with | (i) => (i ≤ q.1) ∧ (fMA mem mem_) ∧ (∀ s, s < i → mem_ 12 s = if (!(flG (cm z) q) s) = true then 1 else 0) ∧ lv_has ls 7 [(0, .ref (G.2.1 0)), (1, .int (nI z)), (2, .int a1), (3, .int (nI i))]) (fun x => match x with | (i) => 301 - i) ?_ (0) hw ⟨Nat.zero_le _, fMA_rf mem, lt_zero, lv_sub hl [1, 2, 3, 0] rfl⟩
        intro i memi H locs ls hw hI ih37
        obtain ⟨hik, hF1, hst1, hl⟩ := hI
        dsimp only at ih37
        refine lv_iload_n S.1 S.2.1 d_Mo_avoids_37 rfl (lv_at hl 3 rfl) ?_
        refine lv_aload_n S.1 S.2.1 d_Mo_avoids_38 rfl (lv_at hl 0 rfl) ?_
        refine u_get (v := .int (memi 0 17)) S hw 0 (by decide) rfl rfl in_Mo 17 (by decide) lf_Mo_106 rfl d_Mo_avoids_39 ?_
        refine u_top (y := (nI q.1)) (RMq_a hR hF1).1 ?_
        refine lv_icmp_ge (tgt := 76) S.1 S.2.1 d_Mo_avoids_42 (by decide) (fun c4 => ?_) (fun c4 => ?_)
        · skip
          have hi2 : i = q.1 := by have y := nle c4 (by omega) (by omega); omega
          refine lv_iconst (v := (1 : Int32)) S.1 S.2.1 d_Mo_avoids_76 (by decide) ?_
          refine lv_istore_n (lv' := [(3, .int (1 : Int32)), (0, .ref (G.2.1 0)), (1, .int (nI z)), (2, .int a1)]) S.1 S.2.1 d_Mo_avoids_77 rfl hl (by decide) rfl (fun ls hl => ?_)
          refine u_loop (σ := Nat × (Nat → Bool)) (fun (x : Nat × (Nat → Bool)) (mem_ : um_M) (ls : Array Slot) => match x with | (m0, st0) => (m0 ≤ 1) ∧ (fMA mem mem_) ∧ (∀ s, s < q.1 → mem_ 12 s = if st0 s = true then 1 else 0) ∧ (∀ s, s < q.1 → st0 s = false → Out q.1 (nxq n tr q) (flG (cm z) q) s) ∧ (∀ s, s < q.1 → st0 s = true → (flG (cm z) q) s = false) ∧ (m0 = 0 → ∀ s, s < q.1 → st0 s = true → gOn q.1 (nxq n tr q) st0 s) ∧ lv_has ls 7 [(0, .ref (G.2.1 0)), (1, .int (nI z)), (2, .int a1), (3, .int (nI m0))]) (fun x => match x with | (m0, st0) => 2 * cnt st0 q.1 + m0) ?_ (1, (fun s => !(flG (cm z) q) s)) hw ⟨Nat.le_refl _, hF1, fun s hs => hst1 s (by omega), fun s _ h => out_fl (by simpa using h), fun s _ h => by simpa using h, fun h => absurd (show 1 = 0 from h) (by decide), lv_sub hl [1, 2, 3, 0] rfl⟩
          intro x memk H locs ls hw hI ih78
          obtain ⟨m0, st0⟩ := x
          obtain ⟨hm1o, hF2, hstm0, hsnd0, hnf0, hcl, hl⟩ := hI
          dsimp only at ih78
          refine lv_iload_n S.1 S.2.1 d_Mo_avoids_78 rfl (lv_at hl 3 rfl) ?_
          refine lv_if_eq (tgt := 137) S.1 S.2.1 d_Mo_avoids_79 (by decide) (fun c5 => ?_) (fun c5 => ?_)
          · skip
            have hm2 : m0 = 0 := (nI_eq (b := 0) (by omega) (by decide)).mp c5
            refine lv_iconst (v := (0 : Int32)) S.1 S.2.1 d_Mo_avoids_137 (by decide) ?_
            refine lv_istore (lv' := [(4, .int (0 : Int32)), (0, .ref (G.2.1 0)), (1, .int (nI z)), (2, .int a1), (3, .int (nI m0))]) S.1 S.2.1 d_Mo_avoids_138 hl (by decide) rfl (fun ls hl => ?_)
            refine lv_bipush (v := (-2 : Int32)) S.1 S.2.1 d_Mo_avoids_140 (by decide) ?_
            refine lv_istore (lv' := [(5, .int (-2 : Int32)), (4, .int (0 : Int32)), (0, .ref (G.2.1 0)), (1, .int (nI z)), (2, .int a1), (3, .int (nI m0))]) S.1 S.2.1 d_Mo_avoids_142 hl (by decide) rfl (fun ls hl => ?_)
            refine lv_aload_n S.1 S.2.1 d_Mo_avoids_144 rfl (lv_at hl 2 rfl) ?_
            refine u_get (v := .int (memk 0 17)) S hw 0 (by decide) rfl rfl in_Mo 17 (by decide) lf_Mo_106 rfl d_Mo_avoids_145 ?_
            refine u_top (y := (nI q.1)) (RMq_a hR hF2).1 ?_
            refine lv_iconst (v := (1 : Int32)) S.1 S.2.1 d_Mo_avoids_148 (by decide) ?_
            refine lv_isub S.1 S.2.1 d_Mo_avoids_149 ?_
            refine lv_istore (lv' := [(6, .int ((nI q.1) - (1 : Int32))), (5, .int (-2 : Int32)), (4, .int (0 : Int32)), (0, .ref (G.2.1 0)), (1, .int (nI z)), (2, .int a1), (3, .int (nI m0))]) S.1 S.2.1 d_Mo_avoids_150 hl (by decide) rfl (fun ls hl => ?_)
            refine u_loop (σ := Nat × Nat × Int32) (fun (x : Nat × Nat × Int32) (mem_ : um_M) (ls : Array Slot) => match x with | (i, a, L) => (i ≤ q.1) ∧ (a + cnt st0 i = cnt st0 q.1) ∧ (leastF st0 q.1 i L) ∧ memk = mem_ ∧ lv_has ls 7 [(0, .ref (G.2.1 0)), (1, .int (nI z)), (2, .int a1), (4, .int (nI a)), (5, .int L), (6, .int (nI i - (1 : Int32)))]) (fun x => match x with | (i, a, L) => i) ?_ (q.1, 0, -2) hw ⟨Nat.le_refl _, Nat.zero_add _, Or.inl ⟨rfl, fun s a b => absurd b (by omega)⟩, rfl, lv_sub hl [3, 4, 5, 2, 1, 0] rfl⟩
            intro x memq H locs ls hw hI ih152
            obtain ⟨i, a, L⟩ := x
            obtain ⟨hik, ha, hL, rfl, hl⟩ := hI
            dsimp only at ih152
            refine lv_iload S.1 S.2.1 d_Mo_avoids_152 (lv_at hl 5 rfl) ?_
            refine lv_if_lt (tgt := 183) S.1 S.2.1 d_Mo_avoids_154 (by decide) (fun c6 => ?_) (fun c6 => ?_)
            · skip
              have hi0 : i = 0 := down0 (by omega) c6
              have hfin := rounds_end hsnd0 hnf0 (hcl hm2) hk
              refine lv_iload_n S.1 S.2.1 d_Mo_avoids_183 rfl (lv_at hl 2 rfl) ?_
              refine lv_iconst (v := (1 : Int32)) S.1 S.2.1 d_Mo_avoids_184 (by decide) ?_
              refine lv_icmp_ne (tgt := 193) S.1 S.2.1 d_Mo_avoids_185 (by decide) (fun c7 => ?_) (fun c7 => ?_)
              · skip
                have hw1 := c7
                refine lv_iload S.1 S.2.1 d_Mo_avoids_193 (lv_at hl 4 rfl) ?_
                exact u_iret S hr hlk hw ⟨hF2, fun h => absurd h hin, fun _ h => h.elim (fun y => absurd y h18) (fun y => absurd rfl (mi_f (by omega) y z hz)), fun _ _ i hi h => by have e := (nI_eq (by omega) (by omega)).mp h; subst e; unfold a_avo; rw [if_pos (ain0 hin hw1)]; rw [hi0] at hL; have y := leastF_0 hL; rw [y, lst_congr hfin]⟩ d_Mo_avoids_195
              · skip
                have hw1 := c7
                refine lv_iload S.1 S.2.1 d_Mo_avoids_188 (lv_at hl 3 rfl) ?_
                refine lv_goto (tgt := 195) S.1 S.2.1 d_Mo_avoids_190 (by decide) ?_
                exact u_iret S hr hlk hw ⟨hF2, fun h => absurd h hin, fun _ h => h.elim (fun y => absurd y h18) (fun y => absurd rfl (mi_f (by omega) y z hz)), fun _ _ i hi h => by have e := (nI_eq (by omega) (by omega)).mp h; subst e; unfold a_avo; rw [if_neg (by rw [hw1]; decide)]; have y : a = cnt st0 q.1 := (by rw [hi0] at ha; exact ha); rw [y, cnt_congr hfin]⟩ d_Mo_avoids_195
            · skip
              have hi0 : 0 < i := downn c6
              refine lv_aload_n S.1 S.2.1 d_Mo_avoids_157 rfl (lv_at hl 0 rfl) ?_
              refine u_get (v := .ref (G.2.1 12)) S hw 0 (by decide) rfl rfl in_Mo 16 (by decide) lf_Mo_43 rfl d_Mo_avoids_158 ?_
              refine lv_iload S.1 S.2.1 d_Mo_avoids_161 (lv_at hl 5 rfl) ?_
              refine u_zaN S hw 12 1 (by decide) rfl rfl (j := (i - 1)) (down1 hi0) (by omega) (by decide) d_Mo_avoids_163 ?_
              refine lv_if_ne (tgt := 170) S.1 S.2.1 d_Mo_avoids_164 (by decide) (fun c8 => ?_) (fun c8 => ?_)
              · skip
                have hsti : st0 (i - 1) = true := bt1 (hstm0 (i - 1) (by omega)) c8
                refine lv_iinc (v := (nI (a + 1))) (lv' := [(4, .int (nI (a + 1))), (0, .ref (G.2.1 0)), (1, .int (nI z)), (2, .int a1), (5, .int L), (6, .int (nI i - (1 : Int32)))]) S.1 S.2.1 d_Mo_avoids_170 hl (k := 3) rfl (nI_1 _) (by decide) rfl (fun ls hl => ?_)
                refine lv_iload S.1 S.2.1 d_Mo_avoids_173 (lv_at hl 5 rfl) ?_
                refine lv_istore (lv' := [(5, .int (nI i - (1 : Int32))), (4, .int (nI (a + 1))), (0, .ref (G.2.1 0)), (1, .int (nI z)), (2, .int a1), (6, .int (nI i - (1 : Int32)))]) S.1 S.2.1 d_Mo_avoids_175 hl (by decide) rfl (fun ls hl => ?_)
                refine lv_iinc (v := (nI (i - 1) - (1 : Int32))) (lv' := [(6, .int (nI (i - 1) - (1 : Int32))), (5, .int (nI i - (1 : Int32))), (4, .int (nI (a + 1))), (0, .ref (G.2.1 0)), (1, .int (nI z)), (2, .int a1)]) S.1 S.2.1 d_Mo_avoids_177 hl (k := 5) rfl (down2 hi0) (by decide) rfl (fun ls hl => ?_)
                refine lv_goto (tgt := 152) S.1 S.2.1 d_Mo_avoids_180 (by decide) ?_
                exact ih152 (i - 1, a + 1, nI i - 1) _ H locs ls (by omega) hw ⟨(by show i - 1 ≤ q.1; omega), (by show a + 1 + cnt st0 (i - 1) = cnt st0 q.1; have y := cnt_t hsti; rw [show i - 1 + 1 = i by omega] at y; omega), (by show leastF st0 q.1 (i - 1) (nI i - 1); rw [down1 hi0]; exact leastF_t (by omega) hsti (L := L)), rfl, lv_sub hl [3, 4, 5, 2, 1, 0] rfl⟩
              · skip
                have hsti : st0 (i - 1) = false := bf0 (hstm0 (i - 1) (by omega)) c8
                refine lv_goto (tgt := 177) S.1 S.2.1 d_Mo_avoids_167 (by decide) ?_
                refine lv_iinc (v := (nI (i - 1) - (1 : Int32))) (lv' := [(6, .int (nI (i - 1) - (1 : Int32))), (0, .ref (G.2.1 0)), (1, .int (nI z)), (2, .int a1), (4, .int (nI a)), (5, .int L)]) S.1 S.2.1 d_Mo_avoids_177 hl (k := 5) rfl (down2 hi0) (by decide) rfl (fun ls hl => ?_)
                refine lv_goto (tgt := 152) S.1 S.2.1 d_Mo_avoids_180 (by decide) ?_
                exact ih152 (i - 1, a, L) _ H locs ls (by omega) hw ⟨(by show i - 1 ≤ q.1; omega), (by show a + cnt st0 (i - 1) = cnt st0 q.1; have y := cnt_f hsti; rw [show i - 1 + 1 = i by omega] at y; omega), (leastF_f hsti (by rw [show i - 1 + 1 = i by omega]; exact hL)), rfl, lv_sub hl [1, 2, 3, 4, 5, 0] rfl⟩
          · skip
            have hm2 : m0 = 1 := by have y : ¬ m0 = 0 := (fun y => c5 (by rw [y]; rfl)); omega
            refine lv_iconst (v := (0 : Int32)) S.1 S.2.1 d_Mo_avoids_82 (by decide) ?_
            refine lv_istore_n (lv' := [(3, .int (0 : Int32)), (0, .ref (G.2.1 0)), (1, .int (nI z)), (2, .int a1)]) S.1 S.2.1 d_Mo_avoids_83 rfl hl (by decide) rfl (fun ls hl => ?_)
            refine lv_iconst (v := (0 : Int32)) S.1 S.2.1 d_Mo_avoids_84 (by decide) ?_
            refine lv_istore (lv' := [(4, .int (0 : Int32)), (3, .int (0 : Int32)), (0, .ref (G.2.1 0)), (1, .int (nI z)), (2, .int a1)]) S.1 S.2.1 d_Mo_avoids_85 hl (by decide) rfl (fun ls hl => ?_)
            refine u_loop (σ := Nat × Nat × (Nat → Bool)) (fun (x : Nat × Nat × (Nat → Bool)) (mem_ : um_M) (ls : Array Slot) => match x with | (i, m, st) => (i ≤ q.1) ∧ (m ≤ 1) ∧ (fMA mem mem_) ∧ (∀ s, s < q.1 → mem_ 12 s = if st s = true then 1 else 0) ∧ (∀ s, s < q.1 → st s = true → st0 s = true) ∧ (∀ s, s < q.1 → st s = false → Out q.1 (nxq n tr q) (flG (cm z) q) s) ∧ (∀ s, s < q.1 → st s = true → (flG (cm z) q) s = false) ∧ (cnt st q.1 ≤ cnt st0 q.1) ∧ (m = 0 → (∀ s, s < q.1 → st s = st0 s) ∧ ∀ s, s < i → st0 s = true → gOn q.1 (nxq n tr q) st0 s) ∧ (m = 1 → cnt st q.1 < cnt st0 q.1) ∧ lv_has ls 7 [(0, .ref (G.2.1 0)), (1, .int (nI z)), (2, .int a1), (3, .int (nI m)), (4, .int (nI i))]) (fun x => match x with | (i, m, st) => 301 - i) ?_ (0, 0, st0) hw ⟨Nat.zero_le _, Nat.zero_le _, hF2, hstm0, fun _ _ h => h, hsnd0, hnf0, Nat.le_refl _, fun _ => ⟨fun _ _ => rfl, lt_zero⟩, fun h => absurd (show 0 = 1 from h) (by decide), lv_sub hl [2, 3, 4, 1, 0] rfl⟩
            intro x memj H locs ls hw hI ih87
            obtain ⟨i, m, st⟩ := x
            obtain ⟨hik, hm1, hF3, hstm, hsub, hsnd, hnf, hcn, hm0, hm11, hl⟩ := hI
            dsimp only at ih87
            refine lv_iload S.1 S.2.1 d_Mo_avoids_87 (lv_at hl 4 rfl) ?_
            refine lv_aload_n S.1 S.2.1 d_Mo_avoids_89 rfl (lv_at hl 0 rfl) ?_
            refine u_get (v := .int (memj 0 17)) S hw 0 (by decide) rfl rfl in_Mo 17 (by decide) lf_Mo_106 rfl d_Mo_avoids_90 ?_
            refine u_top (y := (nI q.1)) (RMq_a hR hF3).1 ?_
            refine lv_icmp_ge (tgt := 134) S.1 S.2.1 d_Mo_avoids_93 (by decide) (fun c9 => ?_) (fun c9 => ?_)
            · skip
              have hi2 : i = q.1 := by have y := nle c9 (by omega) (by omega); omega
              refine lv_goto (tgt := 78) S.1 S.2.1 d_Mo_avoids_134 (by decide) ?_
              exact ih78 (m, st) _ H locs ls (by show 2 * cnt st q.1 + m < 2 * cnt st0 q.1 + m0; rcases (show m = 0 ∨ m = 1 by omega) with y | y; omega; have := hm11 y; omega) hw ⟨hm1, hF3, hstm, hsnd, hnf, (fun h s hs y => gOn_congr (fun v hv => ((hm0 h).1 v hv).symm) ((hm0 h).2 s (by omega) (by rw [← (hm0 h).1 s hs]; exact y))), lv_sub hl [0, 1, 2, 3] rfl⟩
            · skip
              have hi2 : i < q.1 := nlt c9 (by omega) (by omega)
              refine lv_aload_n S.1 S.2.1 d_Mo_avoids_96 rfl (lv_at hl 0 rfl) ?_
              refine u_get (v := .ref (G.2.1 12)) S hw 0 (by decide) rfl rfl in_Mo 16 (by decide) lf_Mo_43 rfl d_Mo_avoids_97 ?_
              refine lv_iload S.1 S.2.1 d_Mo_avoids_100 (lv_at hl 4 rfl) ?_
              refine u_zaN S hw 12 1 (by decide) rfl rfl (j := i) rfl (by omega) (by decide) d_Mo_avoids_102 ?_
              refine lv_if_eq (tgt := 128) S.1 S.2.1 d_Mo_avoids_103 (by decide) (fun c10 => ?_) (fun c10 => ?_)
              · skip
                have hsti : st i = false := bf0 (hstm i hi2) c10
                have hgi : m = 0 → st0 i = true → gOn q.1 (nxq n tr q) st0 i := fun h y => by rw [← (hm0 h).1 i hi2, hsti] at y; exact absurd y (by decide)
                refine lv_iinc (v := (nI (i + 1))) (lv' := [(4, .int (nI (i + 1))), (0, .ref (G.2.1 0)), (1, .int (nI z)), (2, .int a1), (3, .int (nI m))]) S.1 S.2.1 d_Mo_avoids_128 hl (k := 4) rfl (nI_1 _) (by decide) rfl (fun ls hl => ?_)
                refine lv_goto (tgt := 87) S.1 S.2.1 d_Mo_avoids_131 (by decide) ?_
                exact ih87 (i + 1, m, st) _ H locs ls (by omega) hw ⟨(by show i + 1 ≤ q.1; omega), hm1, hF3, hstm, hsub, hsnd, hnf, hcn, (fun h => ⟨(hm0 h).1, lt_step (hm0 h).2 (hgi h)⟩), hm11, lv_sub hl [1, 2, 3, 4, 0] rfl⟩
              · skip
                have hsti : st i = true := bt1 (hstm i hi2) c10
                refine lv_aload_n S.1 S.2.1 d_Mo_avoids_106 rfl (lv_at hl 0 rfl) ?_
                refine lv_iload S.1 S.2.1 d_Mo_avoids_107 (lv_at hl 4 rfl) ?_
                refine u_calli hw (va_runV (As := [.int (nI i)]) (rest := []) S (c_Mo_goesOn l G memj n i tr q st (RMt_a hT hF3) (RMq_a hR hF3) hw0 hok hi2 hstm) ⟨u_cB S.2.2.2.2 t_Mo_goesOn ln_Mo lm_Mo_125 hd_Mo_goesOn rfl rfl ⟨Nat.le_of_ble_eq_true rfl, Nat.le_of_ble_eq_true rfl⟩, S.2.2.2.2 _ li_Mo_goesOn, S.2.2.2.2 _ ls_Mo_goesOn⟩ (u_preV hw 0 (by decide) rfl rfl) rfl rfl hl.1 rfl (lv_room (Nat.le_of_ble_eq_true rfl)) d_Mo_avoids_109 ⟨Nat.zero_le _, Nat.zero_le _⟩) (fun r12 mem11 H locs hp hw => ?_)
                have hp109 := hp
                refine lv_if_eq (tgt := 118) S.1 S.2.1 d_Mo_avoids_112 (by decide) (fun c13 => ?_) (fun c13 => ?_)
                · skip
                  have hg9 := (hp109.1.resolve_left (fun y => by rw [y.1] at c13; exact absurd c13 (by decide))).2
                  have hOi := gNo_out hsnd hg9
                  obtain ⟨_, rfl⟩ := hp109
                  refine lv_aload_n S.1 S.2.1 d_Mo_avoids_118 rfl (lv_at hl 0 rfl) ?_
                  refine u_get (v := .ref (G.2.1 12)) S hw 0 (by decide) rfl rfl in_Mo 16 (by decide) lf_Mo_43 rfl d_Mo_avoids_119 ?_
                  refine lv_iload S.1 S.2.1 d_Mo_avoids_122 (lv_at hl 4 rfl) ?_
                  refine lv_iconst (v := (0 : Int32)) S.1 S.2.1 d_Mo_avoids_124 (by decide) ?_
                  refine u_zsN S hw 12 1 (by decide) (fun _ => rfl) rfl (j := i) rfl (by omega) (by decide) (by decide) d_Mo_avoids_125 (fun H locs hw => ?_)
                  refine lv_iconst (v := (1 : Int32)) S.1 S.2.1 d_Mo_avoids_126 (by decide) ?_
                  refine lv_istore_n (lv' := [(3, .int (1 : Int32)), (0, .ref (G.2.1 0)), (1, .int (nI z)), (2, .int a1), (4, .int (nI i))]) S.1 S.2.1 d_Mo_avoids_127 rfl hl (by decide) rfl (fun ls hl => ?_)
                  refine lv_iinc (v := (nI (i + 1))) (lv' := [(4, .int (nI (i + 1))), (3, .int (1 : Int32)), (0, .ref (G.2.1 0)), (1, .int (nI z)), (2, .int a1)]) S.1 S.2.1 d_Mo_avoids_128 hl (k := 4) rfl (nI_1 _) (by decide) rfl (fun ls hl => ?_)
                  refine lv_goto (tgt := 87) S.1 S.2.1 d_Mo_avoids_131 (by decide) ?_
                  exact ih87 (i + 1, 1, va_up st i false) _ H locs ls (by omega) hw ⟨(by show i + 1 ≤ q.1; omega), (Nat.le_refl 1), (fMA_s hF3), (va_st hstm), (fun s hs h => hsub s hs (va_sub h)), (va_snd hsnd hOi), (fun s hs h => hnf s hs (va_sub h)), (by show cnt (va_up st i false) q.1 ≤ cnt st0 q.1; have := va_cnt hi2 hsti; omega), (fun h => absurd (show 1 = 0 from h) (by decide)), (fun _ => by show cnt (va_up st i false) q.1 < cnt st0 q.1; have := va_cnt hi2 hsti; omega), lv_sub hl [2, 3, 4, 1, 0] rfl⟩
                · skip
                  have hg9 := (hp109.1.resolve_right (fun y => c13 y.1)).2
                  have hgi : m = 0 → st0 i = true → gOn q.1 (nxq n tr q) st0 i := fun h _ => gOn_congr (hm0 h).1 hg9
                  obtain ⟨_, rfl⟩ := hp109
                  refine lv_goto (tgt := 128) S.1 S.2.1 d_Mo_avoids_115 (by decide) ?_
                  refine lv_iinc (v := (nI (i + 1))) (lv' := [(4, .int (nI (i + 1))), (0, .ref (G.2.1 0)), (1, .int (nI z)), (2, .int a1), (3, .int (nI m))]) S.1 S.2.1 d_Mo_avoids_128 hl (k := 4) rfl (nI_1 _) (by decide) rfl (fun ls hl => ?_)
                  refine lv_goto (tgt := 87) S.1 S.2.1 d_Mo_avoids_131 (by decide) ?_
                  exact ih87 (i + 1, m, st) _ H locs ls (by omega) hw ⟨(by show i + 1 ≤ q.1; omega), hm1, hF3, hstm, hsub, hsnd, hnf, hcn, (fun h => ⟨(hm0 h).1, lt_step (hm0 h).2 (hgi h)⟩), hm11, lv_sub hl [1, 2, 3, 4, 0] rfl⟩
        · skip
          have hi2 : i < q.1 := nlt c4 (by omega) (by omega)
          have hfe : s_Mo_failsIn (memi 5 z) (memi 6 z) (memi 7 z) (memi 8 i) = s_Cm_failsIn (cm z) (q.2.1 i) := by obtain ⟨k1, k2, k3, k4⟩ := (RMc_a hC hF1).2.2 z hz; rw [k2, k3, k4, ((RMq_a hR hF1).2.1 i hi2).1]; exact S_fails k1 (hw0.2.2.1 i hi2)
          refine lv_aload_n S.1 S.2.1 d_Mo_avoids_45 rfl (lv_at hl 0 rfl) ?_
          refine u_get (v := .ref (G.2.1 12)) S hw 0 (by decide) rfl rfl in_Mo 16 (by decide) lf_Mo_43 rfl d_Mo_avoids_46 ?_
          refine lv_iload_n S.1 S.2.1 d_Mo_avoids_49 rfl (lv_at hl 3 rfl) ?_
          refine lv_aload_n S.1 S.2.1 d_Mo_avoids_50 rfl (lv_at hl 0 rfl) ?_
          refine lv_iload_n S.1 S.2.1 d_Mo_avoids_51 rfl (lv_at hl 1 rfl) ?_
          refine lv_aload_n S.1 S.2.1 d_Mo_avoids_52 rfl (lv_at hl 0 rfl) ?_
          refine u_get (v := .ref (G.2.1 8)) S hw 0 (by decide) rfl rfl in_Mo 12 (by decide) lf_Mo_31 rfl d_Mo_avoids_53 ?_
          refine lv_iload_n S.1 S.2.1 d_Mo_avoids_56 rfl (lv_at hl 3 rfl) ?_
          refine u_iaN S hw 8 0 (by decide) rfl rfl (j := i) rfl (by omega) (by decide) d_Mo_avoids_57 ?_
          refine u_calli hw (va_runV (As := [.int (nI z), .int (memi 8 i)]) (rest := [.int (nI i), .ref (G.2.1 12)]) S (c_Mo_failsIn l G memi z (memi 8 i) (by omega)) ⟨u_cB S.2.2.2.2 t_Mo_failsIn ln_Mo lm_Mo_115 hd_Mo_failsIn rfl rfl ⟨Nat.le_of_ble_eq_true rfl, Nat.le_of_ble_eq_true rfl⟩, S.2.2.2.2 _ li_Mo_failsIn, S.2.2.2.2 _ ls_Mo_failsIn⟩ (u_preV hw 0 (by decide) rfl rfl) rfl rfl hl.1 rfl (lv_room (Nat.le_of_ble_eq_true rfl)) d_Mo_avoids_58 ⟨Nat.zero_le _, Nat.zero_le _⟩) (fun r15 mem14 H locs hp hw => ?_)
          obtain ⟨hp, rfl⟩ := hp
          refine u_top (y := (s_Mo_failsIn (memi 5 z) (memi 6 z) (memi 7 z) (memi 8 i))) hp ?_
          refine u_top (y := (s_Cm_failsIn (cm z) (q.2.1 i))) hfe ?_
          refine lv_if_ne (tgt := 68) S.1 S.2.1 d_Mo_avoids_61 (by decide) (fun c16 => ?_) (fun c16 => ?_)
          · skip
            have hfi : (flG (cm z) q) i = true := dt c16
            refine lv_iconst (v := (0 : Int32)) S.1 S.2.1 d_Mo_avoids_68 (by decide) ?_
            refine u_zsN S hw 12 1 (by decide) (fun _ => rfl) rfl (j := i) rfl (by omega) (by decide) (by decide) d_Mo_avoids_69 (fun H locs hw => ?_)
            refine lv_iinc (v := (nI (i + 1))) (lv' := [(3, .int (nI (i + 1))), (0, .ref (G.2.1 0)), (1, .int (nI z)), (2, .int a1)]) S.1 S.2.1 d_Mo_avoids_70 hl (k := 3) rfl (nI_1 _) (by decide) rfl (fun ls hl => ?_)
            refine lv_goto (tgt := 37) S.1 S.2.1 d_Mo_avoids_73 (by decide) ?_
            exact ih37 (i + 1) _ H locs ls (by omega) hw ⟨hi2, (fMA_s hF1), (lt_step (fun s hs => by rw [um_j (by omega)]; exact hst1 s hs) (by rw [um_self, hfi]; rfl)), lv_sub hl [1, 2, 3, 0] rfl⟩
          · skip
            have hfi : (flG (cm z) q) i = false := df (fun h => h c16)
            refine lv_iconst (v := (1 : Int32)) S.1 S.2.1 d_Mo_avoids_64 (by decide) ?_
            refine lv_goto (tgt := 69) S.1 S.2.1 d_Mo_avoids_65 (by decide) ?_
            refine u_zsN S hw 12 1 (by decide) (fun _ => rfl) rfl (j := i) rfl (by omega) (by decide) (by decide) d_Mo_avoids_69 (fun H locs hw => ?_)
            refine lv_iinc (v := (nI (i + 1))) (lv' := [(3, .int (nI (i + 1))), (0, .ref (G.2.1 0)), (1, .int (nI z)), (2, .int a1)]) S.1 S.2.1 d_Mo_avoids_70 hl (k := 3) rfl (nI_1 _) (by decide) rfl (fun ls hl => ?_)
            refine lv_goto (tgt := 37) S.1 S.2.1 d_Mo_avoids_73 (by decide) ?_
            exact ih37 (i + 1) _ H locs ls (by omega) hw ⟨hi2, (fMA_s hF1), (lt_step (fun s hs => by rw [um_j (by omega)]; exact hst1 s hs) (by rw [um_self, hfi]; rfl)), lv_sub hl [1, 2, 3, 0] rfl⟩
      · skip
        have hn0 := c3
        refine lv_bipush (v := (-2 : Int32)) S.1 S.2.1 d_Mo_avoids_32 (by decide) ?_
        exact u_iret S hr hlk hw ⟨fMA_rf mem, fun h => absurd h hin, fun _ _ => rfl, fun _ _ i hi h => absurd h (mi_f (by have := hC.2.1; omega) hn0 i hi)⟩ d_Mo_avoids_34
  · skip
    have hin := c1
    refine lv_iconst (v := (-1 : Int32)) S.1 S.2.1 d_Mo_avoids_9 (by decide) ?_
    exact u_iret S hr hlk hw ⟨fMA_rf mem, fun _ => rfl, fun h => absurd hin h, fun h => absurd hin h⟩ d_Mo_avoids_10
