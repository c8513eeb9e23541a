theorem fXE_tr {X Y Z : um_M} (h : fXE X Y) (h2 : fXE Y Z) : fXE X Z := fun k hk => (h2 k hk).trans (h k hk)
theorem fill_12 {mem : um_M} {j : Nat} (hj : j < 1024) : n_fillTo mem 0 1024 12 j = 0 := by
  unfold n_fillTo va_up
  rw [if_pos rfl, if_pos hj]
def q00 (x : Int32) : Bq := (1, fun _ => x, fun _ => 0, fun _ => 0, fun _ => 0)
def zq : Bq := (0, fun _ => 0, fun _ => 0, fun _ => 0, fun _ => 0)
theorem mk_0 {mem : um_M} {x : Int32} : RXs (n_Sp_append (um_set (n_fillTo mem 0 1024) 3 9 0) 0 x 0 (-2) 0) (q00 x) ∧ (∃ nn, RXh (n_Sp_append (um_set (n_fillTo mem 0 1024) 3 9 0) 0 x 0 (-2) 0 12) (q00 x) nn) ∧ ∀ n tr, RXp (n_Sp_append (um_set (n_fillTo mem 0 1024) 3 9 0) 0 x 0 (-2) 0) n tr (q00 x) 0 := by
  refine ⟨⟨app_sz, fun s hs => ?_, fun s h0 hs => ?_⟩, ?_, fun n tr => ⟨fun p hp => absurd hp (Nat.not_lt_zero _), fun p hp => absurd hp (Nat.not_lt_zero _), fun s hs => ?_, fun i hi => ?_, fun p hp => absurd hp (Nat.not_lt_zero _)⟩⟩
  · have hs : s < 1 := hs
    have e : s = 0 := by omega
    subst e
    rw [app_at (by decide), app_at (by decide)]
    exact ⟨rfl, rfl⟩
  · have hs : s < 1 := hs
    omega
  · have h0 : RXh (um_set (n_fillTo mem 0 1024) 3 9 0 12) zq (fun _ => 0) := by
      refine ⟨fun j hj => ⟨?_, Nat.zero_le _⟩, fun i hi => absurd hi (Nat.not_lt_zero _), Nat.le_of_eq (cnt_none (fun j _ => rfl))⟩
      rw [um_k (by decide), fill_12 hj]; rfl
    obtain ⟨nn, h1⟩ := RXh_app (x := x) (a1 := 0) (a2 := -2) (a3 := 0) (s := 0) (t := 0) h0 (by decide)
    have h1 : RXh (n_Sp_append (um_set (n_fillTo mem 0 1024) 3 9 0) 0 x 0 (-2) 0 12) (bnew zq x 0 0) nn := h1
    refine ⟨nn, h1.1, fun i hi => ?_, h1.2.2⟩
    have hi : i < 1 := hi
    have e : i = 0 := by omega
    subst e
    exact h1.2.1 0 (Nat.lt_succ_self 0)
  · have hs : s < 1 := hs
    have e : s = 0 := by omega
    subst e
    rw [app_at (by decide)]
    have : ocn n tr (q00 x) 0 0 = 0 := cnt_none (fun j _ => by rw [df (by omega : ¬ 0 * 24 + j < 0)]; rfl)
    rw [this]; rfl
  · have hi : i < 1 := hi
    have e : i = 0 := by omega
    subst e
    rw [app_at (by decide)]
    rfl
set_option maxHeartbeats 4000000 in
set_option maxRecDepth 100000 in
theorem c_Sp_make (l : Launch) (G : UG) (mem : um_M) (n v : Nat) (tr : Nat → Nat → Nat) (hT : RXt mem n tr) (hvl : v < 256) : MetX l G y_Sp_make b_Sp_make 5 (some .boolean) ({ frames := 5, cells := 0, slots := 0, locals := 118 }) [.ref (G.2.1 3), .int (nI v), .ref (G.2.1 1), .int (nI n)] mem (fun r mem' => fXE mem mem' ∧ ((∃ q, spc n tr (nI v) = some q ∧ r = 1 ∧ RXs mem' q ∧ (∃ nn, RXh (mem' 12) q nn) ∧ RXp mem' n tr q (q.1 * 24)) ∨ (spc n tr (nI v) = none ∧ r = 0 ∧ mem' 3 9 = 0 ∧ ∃ nn : Nat → Nat, ∀ j, j < 1024 → mem' 12 j = nI (nn j) ∧ nn j ≤ 300))) := by
  refine u_start [.ref (G.2.1 3), .int (nI v), .ref (G.2.1 1), .int (nI n)] (by decide) (Nat.le_of_ble_eq_true rfl) ?_
  intro p_ e_ s_ m_ bl_ me_ c_ ls S hr hlk hin hl hB
  have hw := uH_start hB
  have hl : lv_has ls 5 [(0, .ref (G.2.1 3)), (1, .int (nI v)), (2, .ref (G.2.1 1)), (3, .int (nI n))] := hl
  refine lv_aload_n S.1 S.2.1 d_Sp_make_0 rfl (lv_at hl 0 rfl) ?_
  refine u_get (v := .ref (G.2.1 12)) S hw 3 (by decide) rfl rfl in_Sp 8 (by decide) lf_Sp_36 rfl d_Sp_make_1 ?_
  refine lv_iconst (v := (0 : Int32)) S.1 S.2.1 d_Sp_make_4 (by decide) ?_
  refine u_callv hw (va_runS (As := [.ref (G.2.1 12), .int (0 : Int32)]) (rest := []) S (c_Ar_fill l G mem (0 : Int32)) ⟨u_cB S.2.2.2.2 t_Ar_fill ln_Ar lm_Sp_47 hd_Ar_fill rfl rfl ⟨Nat.le_of_ble_eq_true rfl, Nat.le_of_ble_eq_true rfl⟩, S.2.2.2.2 _ lt_Ar_fill⟩ (u_preS hw) rfl rfl hl.1 rfl (lv_room (Nat.le_of_ble_eq_true rfl)) d_Sp_make_5 ⟨Nat.zero_le _, Nat.zero_le _⟩) (fun mem1 H locs hp hw => ?_)
  subst hp
  refine lv_aload_n S.1 S.2.1 d_Sp_make_8 rfl (lv_at hl 0 rfl) ?_
  refine lv_iconst (v := (0 : Int32)) S.1 S.2.1 d_Sp_make_9 (by decide) ?_
  refine u_put S hw 3 (by decide) rfl rfl in_Sp ty_Sp tk_Sp nm_Sp 9 (by decide) lf_Sp_39 rfl rfl rfl rfl (Nat.le_of_ble_eq_true rfl) rfl d_Sp_make_10 (fun H locs hw => ?_)
  refine lv_aload_n S.1 S.2.1 d_Sp_make_13 rfl (lv_at hl 0 rfl) ?_
  refine lv_iload_n S.1 S.2.1 d_Sp_make_14 rfl (lv_at hl 1 rfl) ?_
  refine lv_iconst (v := (0 : Int32)) S.1 S.2.1 d_Sp_make_15 (by decide) ?_
  refine lv_bipush (v := (-2 : Int32)) S.1 S.2.1 d_Sp_make_16 (by decide) ?_
  refine lv_iconst (v := (0 : Int32)) S.1 S.2.1 d_Sp_make_18 (by decide) ?_
  refine u_callv hw (va_runV (As := [.int (nI v), .int (0 : Int32), .int (-2 : Int32), .int (0 : Int32)]) (rest := []) S (c_Sp_append l G (um_set (n_fillTo mem (0 : Int32) 1024) 3 9 (0 : Int32)) 0 (nI v) (0 : Int32) (-2 : Int32) (0 : Int32) (by decide) rfl) ⟨u_cB S.2.2.2.2 t_Sp_append ln_Sp lm_Sp_53 hd_Sp_append rfl rfl ⟨Nat.le_of_ble_eq_true rfl, Nat.le_of_ble_eq_true rfl⟩, S.2.2.2.2 _ li_Sp_append, S.2.2.2.2 _ ls_Sp_append⟩ (u_preV hw 3 (by decide) rfl rfl) rfl rfl hl.1 rfl (lv_room (Nat.le_of_ble_eq_true rfl)) d_Sp_make_19 ⟨Nat.zero_le _, Nat.zero_le _⟩) (fun mem2 H locs hp hw => ?_)
  subst hp
  refine lv_iconst (v := (0 : Int32)) S.1 S.2.1 d_Sp_make_22 (by decide) ?_
  refine lv_istore (lv' := [(4, .int (0 : Int32)), (0, .ref (G.2.1 3)), (1, .int (nI v)), (2, .ref (G.2.1 1)), (3, .int (nI n))]) S.1 S.2.1 d_Sp_make_23 hl (by decide) rfl (fun ls hl => ?_)
  refine u_loop (σ := Nat × Bq) (fun (x : Nat × Bq) (mem_ : um_M) (ls : Array Slot) => match x with | (s, q) => (s ≤ q.1) ∧ (bfs n tr (nI v) s = some q) ∧ (RXs mem_ q) ∧ (∃ nn, RXh (mem_ 12) q nn) ∧ (RXp mem_ n tr q (s * 24)) ∧ (fXE mem mem_) ∧ lv_has ls 5 [(0, .ref (G.2.1 3)), (1, .int (nI v)), (2, .ref (G.2.1 1)), (3, .int (nI n)), (4, .int (nI s))]) (fun x => match x with | (s, q) => 301 - s) ?_ (0, q00 (nI v)) hw ⟨Nat.zero_le _, rfl, mk_0.1, mk_0.2.1, mk_0.2.2 n tr, fXE_app (fXE_s (fXE_fill (fXE_rf mem)) (by decide)), lv_sub hl [1, 2, 3, 4, 0] rfl⟩
  intro x memi H locs ls hw hI ih25
  obtain ⟨s, q⟩ := x
  obtain ⟨hsk, hb, hSi, hHi, hPi, hFi, hl⟩ := hI
  dsimp only at ih25
  have hwi := bfs_wf (S_led (fun t ht => (hT.2 t ht).1)) (S_first hvl).2 s q hb
  have hk1 := hwi.2.1
  have hTi := RXt_f hT hFi
  obtain ⟨nn1, hH1⟩ := hHi
  refine lv_iload S.1 S.2.1 d_Sp_make_25 (lv_at hl 4 rfl) ?_
  refine lv_aload_n S.1 S.2.1 d_Sp_make_27 rfl (lv_at hl 0 rfl) ?_
  refine u_get (v := .int (memi 3 9)) S hw 3 (by decide) rfl rfl in_Sp 9 (by decide) lf_Sp_39 rfl d_Sp_make_28 ?_
  refine u_top (y := (nI q.1)) hSi.1 ?_
  refine lv_icmp_ge (tgt := 65) S.1 S.2.1 d_Sp_make_31 (by decide) (fun c3 => ?_) (fun c3 => ?_)
  · skip
    have hs2 : q.1 ≤ s := nle c3 (by omega) (by omega)
    refine lv_iconst (v := (1 : Int32)) S.1 S.2.1 d_Sp_make_65 (by decide) ?_
    exact u_zret S hr hlk hw (by first | rfl | assumption | exact nb01 (z_Ds_isBelow _ _)) ⟨hFi, Or.inl ⟨q, spc_some hb hs2 (by omega), rfl, hSi, ⟨nn1, hH1⟩, by rw [show q.1 = s by omega]; exact hPi⟩⟩ d_Sp_make_66
  · skip
    have hs2 : s < q.1 := nlt c3 (by omega) (by omega)
    refine lv_iload S.1 S.2.1 d_Sp_make_34 (lv_at hl 4 rfl) ?_
    refine lv_sipush (v := (300 : Int32)) S.1 S.2.1 d_Sp_make_36 (by decide) ?_
    refine lv_icmp_ge (tgt := 65) S.1 S.2.1 d_Sp_make_39 (by decide) (fun c4 => ?_) (fun c4 => ?_)
    · skip
      exact absurd (nle (a := 300) c4 (by omega) (by omega)) (by omega)
    · skip
      refine lv_aload_n S.1 S.2.1 d_Sp_make_42 rfl (lv_at hl 0 rfl) ?_
      refine lv_iload S.1 S.2.1 d_Sp_make_43 (lv_at hl 4 rfl) ?_
      refine lv_aload_n S.1 S.2.1 d_Sp_make_45 rfl (lv_at hl 2 rfl) ?_
      refine lv_iload_n S.1 S.2.1 d_Sp_make_46 rfl (lv_at hl 3 rfl) ?_
      refine u_calli hw (va_runV (As := [.int (nI s), .ref (G.2.1 1), .int (nI n)]) (rest := []) S (c_Sp_goOnFrom l G memi n s tr q nn1 hTi hSi hH1 hPi hwi hs2) ⟨u_cB S.2.2.2.2 t_Sp_goOnFrom ln_Sp lm_Sp_57 hd_Sp_goOnFrom rfl rfl ⟨Nat.le_of_ble_eq_true rfl, Nat.le_of_ble_eq_true rfl⟩, S.2.2.2.2 _ li_Sp_goOnFrom, S.2.2.2.2 _ ls_Sp_goOnFrom⟩ (u_preV hw 3 (by decide) rfl rfl) rfl rfl hl.1 rfl (lv_room (Nat.le_of_ble_eq_true rfl)) d_Sp_make_47 ⟨Nat.zero_le _, Nat.zero_le _⟩) (fun r6 mem5 H locs hp hw => ?_)
      have hp47 := hp
      refine lv_if_ne (tgt := 59) S.1 S.2.1 d_Sp_make_50 (by decide) (fun c7 => ?_) (fun c7 => ?_)
      · skip
        obtain ⟨hF2, hd⟩ := hp47
        obtain ⟨q2, hbr, hr1, hS2, hH2, hP2⟩ := hd.resolve_right (fun z => c7 z.2.1)
        refine lv_iinc (v := (nI (s + 1))) (lv' := [(4, .int (nI (s + 1))), (0, .ref (G.2.1 3)), (1, .int (nI v)), (2, .ref (G.2.1 1)), (3, .int (nI n))]) S.1 S.2.1 d_Sp_make_59 hl (k := 4) rfl (nI_1 _) (by decide) rfl (fun ls hl => ?_)
        refine lv_goto (tgt := 25) S.1 S.2.1 d_Sp_make_62 (by decide) ?_
        exact ih25 (s + 1, q2) _ H locs ls (by omega) hw ⟨(by show s + 1 ≤ q2.1; have := (brow_wf (S_led (fun t ht => (hT.2 t ht).1)) hwi hs2 n q2 (Nat.le_refl n) hbr).2; omega), (bfs_next hb hs2 hbr), hS2, hH2, hP2, (fXE_tr hFi hF2), lv_sub hl [1, 2, 3, 4, 0] rfl⟩
      · skip
        obtain ⟨hF2, hd⟩ := hp47
        obtain ⟨hbr, hr0, hn2⟩ := hd.resolve_left (fun z => by obtain ⟨_, _, e, _⟩ := z; rw [e] at c7; exact absurd c7 (by decide))
        refine lv_aload_n S.1 S.2.1 d_Sp_make_53 rfl (lv_at hl 0 rfl) ?_
        refine u_callv hw (va_runV (As := []) (rest := []) S (c_Sp_forget l G mem5 ) ⟨u_cB S.2.2.2.2 t_Sp_forget ln_Sp lm_Sp_61 hd_Sp_forget rfl rfl ⟨Nat.le_of_ble_eq_true rfl, Nat.le_of_ble_eq_true rfl⟩, S.2.2.2.2 _ li_Sp_forget, S.2.2.2.2 _ ls_Sp_forget⟩ (u_preV hw 3 (by decide) rfl rfl) rfl rfl hl.1 rfl (lv_room (Nat.le_of_ble_eq_true rfl)) d_Sp_make_54 ⟨Nat.zero_le _, Nat.zero_le _⟩) (fun mem8 H locs hp hw => ?_)
        subst hp
        refine lv_iconst (v := (0 : Int32)) S.1 S.2.1 d_Sp_make_57 (by decide) ?_
        exact u_zret S hr hlk hw (by first | rfl | assumption | exact nb01 (z_Ds_isBelow _ _)) ⟨fXE_s (fXE_tr hFi hF2) (by decide), Or.inr ⟨spc_none hb hs2 (by omega) (Nat.le_refl n) hbr, rfl, rfl, hn2⟩⟩ d_Sp_make_58
set_option maxHeartbeats 4000000 in
set_option maxRecDepth 100000 in
theorem c_Ds_explore (l : Launch) (G : UG) (mem : um_M) (n v : Nat) (tr : Nat → Nat → Nat) (hT : RXt mem n tr) (hvl : v < 256) (hv : mem 0 6 = nI v) (hn : mem 0 4 = nI n) : MetX l G y_Ds_explore b_Ds_explore 1 (some .int) ({ frames := 6, cells := 0, slots := 0, locals := 142 }) [.ref (G.2.1 0)] mem (fun r mem' => fXE mem mem' ∧ ((∃ q, spc n tr (nI v) = some q ∧ r = nI q.1 ∧ RXs mem' q ∧ (∃ nn, RXh (mem' 12) q nn) ∧ RXp mem' n tr q (q.1 * 24)) ∨ (spc n tr (nI v) = none ∧ r = -4 ∧ mem' 3 9 = 0 ∧ ∃ nn : Nat → Nat, ∀ j, j < 1024 → mem' 12 j = nI (nn j) ∧ nn j ≤ 300))) := by
  refine u_start [.ref (G.2.1 0)] (by decide) (Nat.le_of_ble_eq_true rfl) ?_
  intro p_ e_ s_ m_ bl_ me_ c_ ls S hr hlk hin hl hB
  have hw := uH_start hB
  have hl : lv_has ls 1 [(0, .ref (G.2.1 0))] := hl
  refine lv_aload_n S.1 S.2.1 d_Ds_explore_0 rfl (lv_at hl 0 rfl) ?_
  refine u_get (v := .ref (G.2.1 3)) S hw 0 (by decide) rfl rfl in_Ds 2 (by decide) lf_Ds_26 rfl d_Ds_explore_1 ?_
  refine lv_aload_n S.1 S.2.1 d_Ds_explore_4 rfl (lv_at hl 0 rfl) ?_
  refine u_get (v := .int (mem 0 6)) S hw 0 (by decide) rfl rfl in_Ds 6 (by decide) lf_Ds_47 rfl d_Ds_explore_5 ?_
  refine u_top (y := (nI v)) hv ?_
  refine lv_aload_n S.1 S.2.1 d_Ds_explore_8 rfl (lv_at hl 0 rfl) ?_
  refine u_get (v := .ref (G.2.1 1)) S hw 0 (by decide) rfl rfl in_Ds 0 (by decide) lf_Ds_11 rfl d_Ds_explore_9 ?_
  refine lv_aload_n S.1 S.2.1 d_Ds_explore_12 rfl (lv_at hl 0 rfl) ?_
  refine u_get (v := .int (mem 0 4)) S hw 0 (by decide) rfl rfl in_Ds 4 (by decide) lf_Ds_61 rfl d_Ds_explore_13 ?_
  refine u_top (y := (nI n)) hn ?_
  refine u_calli hw (va_runV (As := [.int (nI v), .ref (G.2.1 1), .int (nI n)]) (rest := []) S (c_Sp_make l G mem n v tr hT hvl) ⟨u_cB S.2.2.2.2 t_Sp_make ln_Sp lm_Ds_77 hd_Sp_make rfl rfl ⟨Nat.le_of_ble_eq_true rfl, Nat.le_of_ble_eq_true rfl⟩, S.2.2.2.2 _ li_Sp_make, S.2.2.2.2 _ ls_Sp_make⟩ (u_preV hw 3 (by decide) rfl rfl) rfl rfl hl.1 rfl (lv_room (Nat.le_of_ble_eq_true rfl)) d_Ds_explore_16 ⟨Nat.zero_le _, Nat.zero_le _⟩) (fun r2 mem1 H locs hp hw => ?_)
  have hp16 := hp
  refine lv_if_eq (tgt := 32) S.1 S.2.1 d_Ds_explore_19 (by decide) (fun c3 => ?_) (fun c3 => ?_)
  · skip
    obtain ⟨hF2, hd⟩ := hp16
    obtain ⟨h1, h2, h3, h4⟩ := hd.resolve_left (fun z => by obtain ⟨_, _, e, _⟩ := z; rw [e] at c3; exact absurd c3 (by decide))
    refine lv_bipush (v := (-4 : Int32)) S.1 S.2.1 d_Ds_explore_32 (by decide) ?_
    exact u_iret S hr hlk hw ⟨hF2, Or.inr ⟨h1, rfl, h3, h4⟩⟩ d_Ds_explore_34
  · skip
    obtain ⟨hF2, hd⟩ := hp16
    obtain ⟨q, h1, h2, h3, h4⟩ := hd.resolve_right (fun z => c3 z.2.1)
    refine lv_aload_n S.1 S.2.1 d_Ds_explore_22 rfl (lv_at hl 0 rfl) ?_
    refine u_get (v := .ref (G.2.1 3)) S hw 0 (by decide) rfl rfl in_Ds 2 (by decide) lf_Ds_26 rfl d_Ds_explore_23 ?_
    refine u_calli hw (va_runV (As := []) (rest := []) S (c_Sp_size l G mem1 ) ⟨u_cB S.2.2.2.2 t_Sp_size ln_Sp lm_Ds_81 hd_Sp_size rfl rfl ⟨Nat.le_of_ble_eq_true rfl, Nat.le_of_ble_eq_true rfl⟩, S.2.2.2.2 _ li_Sp_size, S.2.2.2.2 _ ls_Sp_size⟩ (u_preV hw 3 (by decide) rfl rfl) rfl rfl hl.1 rfl (lv_room (Nat.le_of_ble_eq_true rfl)) d_Ds_explore_26 ⟨Nat.zero_le _, Nat.zero_le _⟩) (fun r5 mem4 H locs hp hw => ?_)
    obtain ⟨hp, rfl⟩ := hp
    refine u_top (y := (s_Sp_size (mem1 3 9))) hp ?_
    refine lv_goto (tgt := 34) S.1 S.2.1 d_Ds_explore_29 (by decide) ?_
    exact u_iret S hr hlk hw ⟨hF2, Or.inl ⟨q, h1, h3.1, h3, h4⟩⟩ d_Ds_explore_34
