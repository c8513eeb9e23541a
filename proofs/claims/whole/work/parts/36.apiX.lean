set_option maxHeartbeats 4000000 in
set_option maxRecDepth 100000 in
theorem c_Ds_fails (l : Launch) (G : UG) (mem : um_M) (a0 : Int32) (c : Nat) (hc : c ≤ 6) (hcc : mem 0 5 = nI c) (k : Nat) (hk : k ≤ 300) (hsz : mem 3 9 = nI k) : MetX l G y_Ds_fails b_Ds_fails 2 (some .int) ({ frames := 3, cells := 0, slots := 0, locals := 64 }) [.ref (G.2.1 0), .int a0] mem (fun r mem' => ((∀ i, i < c → a0 ≠ nI i) → r = -2) ∧ (∀ i, i < c → a0 = nI i → r = (if lst (fun s => decide (¬ s_Cm_failsIn (mem (41 + i)) (mem 4 s) = 0)) k < k then nI (lst (fun s => decide (¬ s_Cm_failsIn (mem (41 + i)) (mem 4 s) = 0)) k) else (-2 : Int32))) ∧ mem = mem') := by
  refine u_start [.ref (G.2.1 0), .int a0] (by decide) (Nat.le_of_ble_eq_true rfl) ?_
  intro p_ e_ s_ m_ bl_ me_ c_ ls S hr hlk hin hl hB
  have hw := uH_start hB
  have hl : lv_has ls 2 [(0, .ref (G.2.1 0)), (1, .int a0)] := hl
  refine lv_iload_n S.1 S.2.1 d_Ds_fails_0 rfl (lv_at hl 1 rfl) ?_
  refine lv_aload_n S.1 S.2.1 d_Ds_fails_1 rfl (lv_at hl 0 rfl) ?_
  refine u_get (v := .int (mem 0 5)) S hw 0 (by decide) rfl rfl in_Ds 5 (by decide) lf_Ds_68 rfl d_Ds_fails_2 ?_
  refine u_top (y := (nI c)) hcc ?_
  refine u_callp hw (va_runS (As := [.int a0, .int (nI c)]) (rest := []) S (c_Ds_isBelow l a0 (nI c)) ⟨u_cB S.2.2.2.2 t_Ds_isBelow ln_Ds lm_Ds_37 hd_Ds_isBelow rfl rfl ⟨Nat.le_of_ble_eq_true rfl, Nat.le_of_ble_eq_true rfl⟩, S.2.2.2.2 _ lt_Ds_isBelow⟩ (u_preP hw.1.2) rfl rfl hl.1 rfl (lv_room (Nat.le_of_ble_eq_true rfl)) d_Ds_fails_5 ⟨Nat.zero_le _, Nat.zero_le _⟩) (fun r H locs hp hw => ?_)
  refine u_top (y := (s_Ds_isBelow a0 (nI c))) hp ?_
  refine lv_if_eq (tgt := 27) S.1 S.2.1 d_Ds_fails_8 (by decide) (fun c1 => ?_) (fun c1 => ?_)
  · skip
    have hno := ib_f (by omega) c1
    refine lv_bipush (v := (-2 : Int32)) S.1 S.2.1 d_Ds_fails_27 (by decide) ?_
    exact u_iret S hr hlk hw ⟨fun _ => rfl, fun i hi h => absurd h (hno i hi), rfl⟩ d_Ds_fails_29
  · skip
    obtain ⟨z, hz, rfl⟩ := ib_t (by omega) c1
    refine lv_aload_n S.1 S.2.1 d_Ds_fails_11 rfl (lv_at hl 0 rfl) ?_
    refine u_get (v := .ref (G.2.1 3)) S hw 0 (by decide) rfl rfl in_Ds 2 (by decide) lf_Ds_26 rfl d_Ds_fails_12 ?_
    refine lv_aload_n S.1 S.2.1 d_Ds_fails_15 rfl (lv_at hl 0 rfl) ?_
    refine u_get (v := .ref (G.2.1 2)) S hw 0 (by decide) rfl rfl in_Ds 1 (by decide) lf_Ds_18 rfl d_Ds_fails_16 ?_
    refine lv_iload_n S.1 S.2.1 d_Ds_fails_19 rfl (lv_at hl 1 rfl) ?_
    refine u_aaN S hw 2 3 (by decide) rfl rfl (j := z) rfl (by omega) (by decide) (v := .ref (G.2.1 (41 + z))) rfl d_Ds_fails_20 ?_
    refine u_calli hw (va_runV (As := [.ref (G.2.1 (41 + z))]) (rest := []) S (c_Sp_leastFailing l G mem z (by omega) k hk hsz) ⟨u_cB S.2.2.2.2 t_Sp_leastFailing ln_Sp lm_Ds_85 hd_Sp_leastFailing rfl rfl ⟨Nat.le_of_ble_eq_true rfl, Nat.le_of_ble_eq_true rfl⟩, S.2.2.2.2 _ li_Sp_leastFailing, S.2.2.2.2 _ ls_Sp_leastFailing⟩ (u_preV hw 3 (by decide) rfl rfl) rfl rfl hl.1 rfl (lv_room (Nat.le_of_ble_eq_true rfl)) d_Ds_fails_21 ⟨Nat.zero_le _, Nat.zero_le _⟩) (fun r3 mem2 H locs hp hw => ?_)
    obtain ⟨hp, rfl⟩ := hp
    refine u_top (y := (if lst (fun i => decide (¬ s_Cm_failsIn (mem (41 + z)) (mem 4 i) = 0)) k < k then nI (lst (fun i => decide (¬ s_Cm_failsIn (mem (41 + z)) (mem 4 i) = 0)) k) else (-2 : Int32))) hp ?_
    refine lv_goto (tgt := 29) S.1 S.2.1 d_Ds_fails_24 (by decide) ?_
    exact u_iret S hr hlk hw ⟨fun h => absurd rfl (h z hz), fun i hi h => by have e := (nI_eq (by omega) (by omega)).mp h; subst e; rfl, rfl⟩ d_Ds_fails_29
set_option maxHeartbeats 4000000 in
set_option maxRecDepth 100000 in
theorem c_Ds_stuck (l : Launch) (G : UG) (mem : um_M) (a0 : Int32) (k : Nat) (hk : k ≤ 300) (hsz : mem 3 9 = nI k) : MetX l G y_Ds_stuck b_Ds_stuck 2 (some .int) ({ frames := 3, cells := 0, slots := 0, locals := 65 }) [.ref (G.2.1 0), .int a0] mem (fun r mem' => r = (if lst (fun i => decide (mem 8 i = 0 ∧ s_Pk_allAtLastPlace (mem 4 i) = a0)) k < k then nI (lst (fun i => decide (mem 8 i = 0 ∧ s_Pk_allAtLastPlace (mem 4 i) = a0)) k) else (-2 : Int32)) ∧ mem = mem') := by
  refine u_start [.ref (G.2.1 0), .int a0] (by decide) (Nat.le_of_ble_eq_true rfl) ?_
  intro p_ e_ s_ m_ bl_ me_ c_ ls S hr hlk hin hl hB
  have hw := uH_start hB
  have hl : lv_has ls 2 [(0, .ref (G.2.1 0)), (1, .int a0)] := hl
  refine lv_aload_n S.1 S.2.1 d_Ds_stuck_0 rfl (lv_at hl 0 rfl) ?_
  refine u_get (v := .ref (G.2.1 3)) S hw 0 (by decide) rfl rfl in_Ds 2 (by decide) lf_Ds_26 rfl d_Ds_stuck_1 ?_
  refine lv_iload_n S.1 S.2.1 d_Ds_stuck_4 rfl (lv_at hl 1 rfl) ?_
  refine u_calli hw (va_runV (As := [.int a0]) (rest := []) S (c_Sp_leastStuck l G mem a0 k hk hsz) ⟨u_cB S.2.2.2.2 t_Sp_leastStuck ln_Sp lm_Ds_89 hd_Sp_leastStuck rfl rfl ⟨Nat.le_of_ble_eq_true rfl, Nat.le_of_ble_eq_true rfl⟩, S.2.2.2.2 _ li_Sp_leastStuck, S.2.2.2.2 _ ls_Sp_leastStuck⟩ (u_preV hw 3 (by decide) rfl rfl) rfl rfl hl.1 rfl (lv_room (Nat.le_of_ble_eq_true rfl)) d_Ds_stuck_5 ⟨Nat.zero_le _, Nat.zero_le _⟩) (fun r2 mem1 H locs hp hw => ?_)
  obtain ⟨hp, rfl⟩ := hp
  refine u_top (y := (if lst (fun i => decide (mem 8 i = 0 ∧ s_Pk_allAtLastPlace (mem 4 i) = a0)) k < k then nI (lst (fun i => decide (mem 8 i = 0 ∧ s_Pk_allAtLastPlace (mem 4 i) = a0)) k) else (-2 : Int32))) hp ?_
  exact u_iret S hr hlk hw ⟨rfl, rfl⟩ d_Ds_stuck_8
set_option maxHeartbeats 4000000 in
set_option maxRecDepth 100000 in
theorem c_Ds_way (l : Launch) (G : UG) (mem : um_M) (a0 a1 : Int32) (E F : Nat → Nat) (k : Nat) (hk : k ≤ 300) (hsz : mem 3 9 = nI k) (hE : ∀ s, s < k → mem 7 s = nI (E s) ∧ E s < 1000) (hF : ∀ s, s < k → ∀ j, j < E s → itr F j s < 300 ∧ mem 5 (itr F j s) = nI (F (itr F j s))) : MetX l G y_Ds_way b_Ds_way 3 (some .int) ({ frames := 2, cells := 0, slots := 0, locals := 45 }) [.ref (G.2.1 0), .int a0, .int a1] mem (fun r mem' => ((∀ s, s < k → a0 ≠ nI s) → r = -2) ∧ (∀ s, s < k → a0 = nI s → (a1 = -1 → r = nI (E s)) ∧ (¬ a1 = -1 → ((∀ i, i < E s → a1 ≠ nI i) → r = -2) ∧ ∀ i, i < E s → a1 = nI i → r = mem 6 (itr F (E s - 1 - i) s))) ∧ mem = mem') := by
  refine u_start [.ref (G.2.1 0), .int a0, .int a1] (by decide) (Nat.le_of_ble_eq_true rfl) ?_
  intro p_ e_ s_ m_ bl_ me_ c_ ls S hr hlk hin hl hB
  have hw := uH_start hB
  have hl : lv_has ls 3 [(0, .ref (G.2.1 0)), (1, .int a0), (2, .int a1)] := hl
  refine lv_aload_n S.1 S.2.1 d_Ds_way_0 rfl (lv_at hl 0 rfl) ?_
  refine u_get (v := .ref (G.2.1 3)) S hw 0 (by decide) rfl rfl in_Ds 2 (by decide) lf_Ds_26 rfl d_Ds_way_1 ?_
  refine lv_iload_n S.1 S.2.1 d_Ds_way_4 rfl (lv_at hl 1 rfl) ?_
  refine u_calli hw (va_runV (As := [.int a0]) (rest := []) S (c_Sp_has l G mem a0) ⟨u_cB S.2.2.2.2 t_Sp_has ln_Sp lm_Ds_108 hd_Sp_has rfl rfl ⟨Nat.le_of_ble_eq_true rfl, Nat.le_of_ble_eq_true rfl⟩, S.2.2.2.2 _ li_Sp_has, S.2.2.2.2 _ ls_Sp_has⟩ (u_preV hw 3 (by decide) rfl rfl) rfl rfl hl.1 rfl (lv_room (Nat.le_of_ble_eq_true rfl)) d_Ds_way_5 ⟨Nat.zero_le _, Nat.zero_le _⟩) (fun r2 mem1 H locs hp hw => ?_)
  obtain ⟨hp, rfl⟩ := hp
  refine u_top (y := (s_Sp_has (mem 3 9) a0)) hp ?_
  refine u_top (y := (s_Ds_isBelow a0 (nI k))) (by rw [hsz]; rfl) ?_
  refine lv_if_ne (tgt := 14) S.1 S.2.1 d_Ds_way_8 (by decide) (fun c3 => ?_) (fun c3 => ?_)
  · skip
    obtain ⟨z, hz, rfl⟩ := ib_t (by omega) c3
    refine lv_iload_n S.1 S.2.1 d_Ds_way_14 rfl (lv_at hl 2 rfl) ?_
    refine lv_iconst (v := (-1 : Int32)) S.1 S.2.1 d_Ds_way_15 (by decide) ?_
    refine lv_icmp_ne (tgt := 30) S.1 S.2.1 d_Ds_way_16 (by decide) (fun c4 => ?_) (fun c4 => ?_)
    · skip
      have h1 := c4
      refine lv_aload_n S.1 S.2.1 d_Ds_way_30 rfl (lv_at hl 0 rfl) ?_
      refine u_get (v := .ref (G.2.1 3)) S hw 0 (by decide) rfl rfl in_Ds 2 (by decide) lf_Ds_26 rfl d_Ds_way_31 ?_
      refine lv_iload_n S.1 S.2.1 d_Ds_way_34 rfl (lv_at hl 1 rfl) ?_
      refine lv_iload_n S.1 S.2.1 d_Ds_way_35 rfl (lv_at hl 2 rfl) ?_
      refine u_calli hw (va_runV (As := [.int (nI z), .int a1]) (rest := []) S (c_Sp_wayStep l G mem F (E z) z a1 (by omega) (hE z hz).2 (hE z hz).1 (hF z hz)) ⟨u_cB S.2.2.2.2 t_Sp_wayStep ln_Sp lm_Ds_115 hd_Sp_wayStep rfl rfl ⟨Nat.le_of_ble_eq_true rfl, Nat.le_of_ble_eq_true rfl⟩, S.2.2.2.2 _ li_Sp_wayStep, S.2.2.2.2 _ ls_Sp_wayStep⟩ (u_preV hw 3 (by decide) rfl rfl) rfl rfl hl.1 rfl (lv_room (Nat.le_of_ble_eq_true rfl)) d_Ds_way_36 ⟨Nat.zero_le _, Nat.zero_le _⟩) (fun r6 mem5 H locs hp hw => ?_)
      have hp36 := hp
      exact u_iret S hr hlk hw ⟨fun h => absurd rfl (h z hz), fun i hi h => by have e := (nI_eq (by omega) (by omega)).mp h; subst e; exact ⟨fun y => absurd y h1, fun _ => ⟨hp36.1, hp36.2.1⟩⟩, hp36.2.2⟩ d_Ds_way_39
    · skip
      have h1 := c4
      refine lv_aload_n S.1 S.2.1 d_Ds_way_19 rfl (lv_at hl 0 rfl) ?_
      refine u_get (v := .ref (G.2.1 3)) S hw 0 (by decide) rfl rfl in_Ds 2 (by decide) lf_Ds_26 rfl d_Ds_way_20 ?_
      refine lv_iload_n S.1 S.2.1 d_Ds_way_23 rfl (lv_at hl 1 rfl) ?_
      refine u_calli hw (va_runV (As := [.int (nI z)]) (rest := []) S (c_Sp_wayLength l G mem z (by omega)) ⟨u_cB S.2.2.2.2 t_Sp_wayLength ln_Sp lm_Ds_112 hd_Sp_wayLength rfl rfl ⟨Nat.le_of_ble_eq_true rfl, Nat.le_of_ble_eq_true rfl⟩, S.2.2.2.2 _ li_Sp_wayLength, S.2.2.2.2 _ ls_Sp_wayLength⟩ (u_preV hw 3 (by decide) rfl rfl) rfl rfl hl.1 rfl (lv_room (Nat.le_of_ble_eq_true rfl)) d_Ds_way_24 ⟨Nat.zero_le _, Nat.zero_le _⟩) (fun r8 mem7 H locs hp hw => ?_)
      obtain ⟨hp, rfl⟩ := hp
      refine u_top (y := (s_Sp_wayLength (mem 7 z))) hp ?_
      refine u_top (y := (nI (E z))) (hE z hz).1 ?_
      refine lv_goto (tgt := 39) S.1 S.2.1 d_Ds_way_27 (by decide) ?_
      exact u_iret S hr hlk hw ⟨fun h => absurd rfl (h z hz), fun i hi h => by have e := (nI_eq (by omega) (by omega)).mp h; subst e; exact ⟨fun _ => rfl, fun y => absurd h1 y⟩, rfl⟩ d_Ds_way_39
  · skip
    have hno := ib_f (by omega) c3
    refine lv_bipush (v := (-2 : Int32)) S.1 S.2.1 d_Ds_way_11 (by decide) ?_
    exact u_iret S hr hlk hw ⟨fun _ => rfl, fun i hi h => absurd h (hno i hi), rfl⟩ d_Ds_way_13
set_option maxHeartbeats 4000000 in
set_option maxRecDepth 100000 in
theorem c_Ds_state (l : Launch) (G : UG) (mem : um_M) (a0 a1 : Int32) (k : Nat) (hk : k ≤ 300) (hsz : mem 3 9 = nI k) : MetX l G y_Ds_state b_Ds_state 3 (some .int) ({ frames := 3, cells := 0, slots := 0, locals := 62 }) [.ref (G.2.1 0), .int a0, .int a1] mem (fun r mem' => (s_Ds_isBelow a1 13 = 0 → r = -1) ∧ (¬ s_Ds_isBelow a1 13 = 0 → (∀ s, s < k → a0 ≠ nI s) → r = -2) ∧ (¬ s_Ds_isBelow a1 13 = 0 → ∀ s, s < k → a0 = nI s → (a1 = 10 → r = mem 8 s) ∧ (a1 = 11 → r = (nI (cnt (fun i => decide (¬ s_Sp_isNewNext (mem 9) s i = 0)) 24))) ∧ (a1 = 12 → r = (if lst (fun i => decide (¬ mem 9 (s * 24 + i) = (-2 : Int32))) 24 < 24 then mem 9 (s * 24 + lst (fun i => decide (¬ mem 9 (s * 24 + i) = (-2 : Int32))) 24) else (-2 : Int32))) ∧ (¬ a1 = 10 → ¬ a1 = 11 → ¬ a1 = 12 → r = s_Pk_part (mem 4 s) a1)) ∧ mem = mem') := by
  refine u_start [.ref (G.2.1 0), .int a0, .int a1] (by decide) (Nat.le_of_ble_eq_true rfl) ?_
  intro p_ e_ s_ m_ bl_ me_ c_ ls S hr hlk hin hl hB
  have hw := uH_start hB
  have hl : lv_has ls 3 [(0, .ref (G.2.1 0)), (1, .int a0), (2, .int a1)] := hl
  refine lv_iload_n S.1 S.2.1 d_Ds_state_0 rfl (lv_at hl 2 rfl) ?_
  refine lv_bipush (v := (13 : Int32)) S.1 S.2.1 d_Ds_state_1 (by decide) ?_
  refine u_callp hw (va_runS (As := [.int a1, .int (13 : Int32)]) (rest := []) S (c_Ds_isBelow l a1 (13 : Int32)) ⟨u_cB S.2.2.2.2 t_Ds_isBelow ln_Ds lm_Ds_37 hd_Ds_isBelow rfl rfl ⟨Nat.le_of_ble_eq_true rfl, Nat.le_of_ble_eq_true rfl⟩, S.2.2.2.2 _ lt_Ds_isBelow⟩ (u_preP hw.1.2) rfl rfl hl.1 rfl (lv_room (Nat.le_of_ble_eq_true rfl)) d_Ds_state_3 ⟨Nat.zero_le _, Nat.zero_le _⟩) (fun r H locs hp hw => ?_)
  refine u_top (y := (s_Ds_isBelow a1 (13 : Int32))) hp ?_
  refine lv_if_ne (tgt := 11) S.1 S.2.1 d_Ds_state_6 (by decide) (fun c1 => ?_) (fun c1 => ?_)
  · skip
    have h13 := c1
    refine lv_aload_n S.1 S.2.1 d_Ds_state_11 rfl (lv_at hl 0 rfl) ?_
    refine u_get (v := .ref (G.2.1 3)) S hw 0 (by decide) rfl rfl in_Ds 2 (by decide) lf_Ds_26 rfl d_Ds_state_12 ?_
    refine lv_iload_n S.1 S.2.1 d_Ds_state_15 rfl (lv_at hl 1 rfl) ?_
    refine u_calli hw (va_runV (As := [.int a0]) (rest := []) S (c_Sp_has l G mem a0) ⟨u_cB S.2.2.2.2 t_Sp_has ln_Sp lm_Ds_108 hd_Sp_has rfl rfl ⟨Nat.le_of_ble_eq_true rfl, Nat.le_of_ble_eq_true rfl⟩, S.2.2.2.2 _ li_Sp_has, S.2.2.2.2 _ ls_Sp_has⟩ (u_preV hw 3 (by decide) rfl rfl) rfl rfl hl.1 rfl (lv_room (Nat.le_of_ble_eq_true rfl)) d_Ds_state_16 ⟨Nat.zero_le _, Nat.zero_le _⟩) (fun r3 mem2 H locs hp hw => ?_)
    obtain ⟨hp, rfl⟩ := hp
    refine u_top (y := (s_Sp_has (mem 3 9) a0)) hp ?_
    refine u_top (y := (s_Ds_isBelow a0 (nI k))) (by rw [hsz]; rfl) ?_
    refine lv_if_ne (tgt := 25) S.1 S.2.1 d_Ds_state_19 (by decide) (fun c4 => ?_) (fun c4 => ?_)
    · skip
      obtain ⟨z, hz, rfl⟩ := ib_t (by omega) c4
      refine lv_iload_n S.1 S.2.1 d_Ds_state_25 rfl (lv_at hl 2 rfl) ?_
      by_cases c6 : a1 = (10 : Int32)
      · skip
        refine u_tab S (k := (10 : Int32)) (off := 26) (tgt := 52) c6 d_Ds_state_26 (by decide) (by decide) (by decide) (by decide) ?_
        refine lv_aload_n S.1 S.2.1 d_Ds_state_52 rfl (lv_at hl 0 rfl) ?_
        refine u_get (v := .ref (G.2.1 3)) S hw 0 (by decide) rfl rfl in_Ds 2 (by decide) lf_Ds_26 rfl d_Ds_state_53 ?_
        refine lv_iload_n S.1 S.2.1 d_Ds_state_56 rfl (lv_at hl 1 rfl) ?_
        refine u_calli hw (va_runV (As := [.int (nI z)]) (rest := []) S (c_Sp_openIn l G mem z (by omega)) ⟨u_cB S.2.2.2.2 t_Sp_openIn ln_Sp lm_Ds_119 hd_Sp_openIn rfl rfl ⟨Nat.le_of_ble_eq_true rfl, Nat.le_of_ble_eq_true rfl⟩, S.2.2.2.2 _ li_Sp_openIn, S.2.2.2.2 _ ls_Sp_openIn⟩ (u_preV hw 3 (by decide) rfl rfl) rfl rfl hl.1 rfl (lv_room (Nat.le_of_ble_eq_true rfl)) d_Ds_state_57 ⟨Nat.zero_le _, Nat.zero_le _⟩) (fun r8 mem7 H locs hp hw => ?_)
        obtain ⟨hp, rfl⟩ := hp
        refine u_top (y := (s_Sp_openIn (mem 8 z))) hp ?_
        exact u_iret S hr hlk hw ⟨fun h => absurd h h13, fun _ h => absurd rfl (h z hz), fun _ i hi h => by have e := (nI_eq (by omega) (by omega)).mp h; subst e; exact ⟨fun _ => rfl, fun y => absurd (c6.symm.trans y) (by decide), fun y => absurd (c6.symm.trans y) (by decide), fun y => absurd c6 y⟩, rfl⟩ d_Ds_state_60
      · skip
        by_cases c9 : a1 = (11 : Int32)
        · skip
          refine u_tab S (k := (11 : Int32)) (off := 35) (tgt := 61) c9 d_Ds_state_26 (by decide) (by decide) (by decide) (by decide) ?_
          refine lv_aload_n S.1 S.2.1 d_Ds_state_61 rfl (lv_at hl 0 rfl) ?_
          refine u_get (v := .ref (G.2.1 3)) S hw 0 (by decide) rfl rfl in_Ds 2 (by decide) lf_Ds_26 rfl d_Ds_state_62 ?_
          refine lv_iload_n S.1 S.2.1 d_Ds_state_65 rfl (lv_at hl 1 rfl) ?_
          refine u_calli hw (va_runV (As := [.int (nI z)]) (rest := []) S (c_Sp_differentNext l G mem z (by omega)) ⟨u_cB S.2.2.2.2 t_Sp_differentNext ln_Sp lm_Ds_122 hd_Sp_differentNext rfl rfl ⟨Nat.le_of_ble_eq_true rfl, Nat.le_of_ble_eq_true rfl⟩, S.2.2.2.2 _ li_Sp_differentNext, S.2.2.2.2 _ ls_Sp_differentNext⟩ (u_preV hw 3 (by decide) rfl rfl) rfl rfl hl.1 rfl (lv_room (Nat.le_of_ble_eq_true rfl)) d_Ds_state_66 ⟨Nat.zero_le _, Nat.zero_le _⟩) (fun r11 mem10 H locs hp hw => ?_)
          obtain ⟨hp, rfl⟩ := hp
          refine u_top (y := (nI (cnt (fun i => decide (¬ s_Sp_isNewNext (mem 9) z i = 0)) 24))) hp ?_
          exact u_iret S hr hlk hw ⟨fun h => absurd h h13, fun _ h => absurd rfl (h z hz), fun _ i hi h => by have e := (nI_eq (by omega) (by omega)).mp h; subst e; exact ⟨fun y => absurd y c6, fun _ => rfl, fun y => absurd (c9.symm.trans y) (by decide), fun _ y => absurd c9 y⟩, rfl⟩ d_Ds_state_69
        · skip
          by_cases c12 : a1 = (12 : Int32)
          · skip
            refine u_tab S (k := (12 : Int32)) (off := 44) (tgt := 70) c12 d_Ds_state_26 (by decide) (by decide) (by decide) (by decide) ?_
            refine lv_aload_n S.1 S.2.1 d_Ds_state_70 rfl (lv_at hl 0 rfl) ?_
            refine u_get (v := .ref (G.2.1 3)) S hw 0 (by decide) rfl rfl in_Ds 2 (by decide) lf_Ds_26 rfl d_Ds_state_71 ?_
            refine lv_iload_n S.1 S.2.1 d_Ds_state_74 rfl (lv_at hl 1 rfl) ?_
            refine u_calli hw (va_runV (As := [.int (nI z)]) (rest := []) S (c_Sp_firstNext l G mem z (by omega)) ⟨u_cB S.2.2.2.2 t_Sp_firstNext ln_Sp lm_Ds_125 hd_Sp_firstNext rfl rfl ⟨Nat.le_of_ble_eq_true rfl, Nat.le_of_ble_eq_true rfl⟩, S.2.2.2.2 _ li_Sp_firstNext, S.2.2.2.2 _ ls_Sp_firstNext⟩ (u_preV hw 3 (by decide) rfl rfl) rfl rfl hl.1 rfl (lv_room (Nat.le_of_ble_eq_true rfl)) d_Ds_state_75 ⟨Nat.zero_le _, Nat.zero_le _⟩) (fun r14 mem13 H locs hp hw => ?_)
            obtain ⟨hp, rfl⟩ := hp
            refine u_top (y := (if lst (fun i => decide (¬ mem 9 (z * 24 + i) = (-2 : Int32))) 24 < 24 then mem 9 (z * 24 + lst (fun i => decide (¬ mem 9 (z * 24 + i) = (-2 : Int32))) 24) else (-2 : Int32))) hp ?_
            exact u_iret S hr hlk hw ⟨fun h => absurd h h13, fun _ h => absurd rfl (h z hz), fun _ i hi h => by have e := (nI_eq (by omega) (by omega)).mp h; subst e; exact ⟨fun y => absurd y c6, fun y => absurd y c9, fun _ => rfl, fun _ _ y => absurd c12 y⟩, rfl⟩ d_Ds_state_78
          · skip
            refine lv_tableOut (tgt := 79) S.1 S.2.1 d_Ds_state_26 (by have q0 := lv_neT c6 (a := 10) (by decide); have q1 := lv_neT c9 (a := 11) (by decide); have q2 := lv_neT c12 (a := 12) (by decide); omega) (by decide) ?_
            refine lv_aload_n S.1 S.2.1 d_Ds_state_79 rfl (lv_at hl 0 rfl) ?_
            refine u_get (v := .ref (G.2.1 3)) S hw 0 (by decide) rfl rfl in_Ds 2 (by decide) lf_Ds_26 rfl d_Ds_state_80 ?_
            refine lv_iload_n S.1 S.2.1 d_Ds_state_83 rfl (lv_at hl 1 rfl) ?_
            refine u_calli hw (va_runV (As := [.int (nI z)]) (rest := []) S (c_Sp_packed l G mem z (by omega)) ⟨u_cB S.2.2.2.2 t_Sp_packed ln_Sp lm_Ds_128 hd_Sp_packed rfl rfl ⟨Nat.le_of_ble_eq_true rfl, Nat.le_of_ble_eq_true rfl⟩, S.2.2.2.2 _ li_Sp_packed, S.2.2.2.2 _ ls_Sp_packed⟩ (u_preV hw 3 (by decide) rfl rfl) rfl rfl hl.1 rfl (lv_room (Nat.le_of_ble_eq_true rfl)) d_Ds_state_84 ⟨Nat.zero_le _, Nat.zero_le _⟩) (fun r16 mem15 H locs hp hw => ?_)
            obtain ⟨hp, rfl⟩ := hp
            refine u_top (y := (s_Sp_packed (mem 4 z))) hp ?_
            refine lv_iload_n S.1 S.2.1 d_Ds_state_87 rfl (lv_at hl 2 rfl) ?_
            refine u_callp hw (va_runS (As := [.int (s_Sp_packed (mem 4 z)), .int a1]) (rest := []) S (c_Pk_part l (s_Sp_packed (mem 4 z)) a1) ⟨u_cB S.2.2.2.2 t_Pk_part ln_Pk lm_Ds_131 hd_Pk_part rfl rfl ⟨Nat.le_of_ble_eq_true rfl, Nat.le_of_ble_eq_true rfl⟩, S.2.2.2.2 _ lt_Pk_part⟩ (u_preP hw.1.2) rfl rfl hl.1 rfl (lv_room (Nat.le_of_ble_eq_true rfl)) d_Ds_state_88 ⟨Nat.zero_le _, Nat.zero_le _⟩) (fun r H locs hp hw => ?_)
            refine u_top (y := (s_Pk_part (s_Sp_packed (mem 4 z)) a1)) hp ?_
            exact u_iret S hr hlk hw ⟨fun h => absurd h h13, fun _ h => absurd rfl (h z hz), fun _ i hi h => by have e := (nI_eq (by omega) (by omega)).mp h; subst e; exact ⟨fun y => absurd y c6, fun y => absurd y c9, fun y => absurd y c12, fun _ _ _ => rfl⟩, rfl⟩ d_Ds_state_91
    · skip
      have hno := ib_f (by omega) c4
      refine lv_bipush (v := (-2 : Int32)) S.1 S.2.1 d_Ds_state_22 (by decide) ?_
      exact u_iret S hr hlk hw ⟨fun h => absurd h h13, fun _ _ => rfl, fun _ i hi h => absurd h (hno i hi), rfl⟩ d_Ds_state_24
  · skip
    have h13 := c1
    refine lv_iconst (v := (-1 : Int32)) S.1 S.2.1 d_Ds_state_9 (by decide) ?_
    exact u_iret S hr hlk hw ⟨fun _ => rfl, fun h => absurd h13 h, fun h => absurd h13 h, rfl⟩ d_Ds_state_10
set_option maxHeartbeats 4000000 in
set_option maxRecDepth 100000 in
theorem c_Ds_walk (l : Launch) (G : UG) (mem : um_M) (a0 : Int32) (n : Nat) (hn : n ≤ 24) (hnn : mem 0 4 = nI n) : MetX l G y_Ds_walk b_Ds_walk 2 (some .boolean) ({ frames := 4, cells := 0, slots := 0, locals := 86 }) [.ref (G.2.1 0), .int a0] mem (fun r mem' => ((∀ t, t < n → a0 ≠ nI t) → r = 0 ∧ mem = mem') ∧ ∀ t, t < n → a0 = nI t → (s_Tr_isOpenIn (mem (17 + t)) (mem 0 7) = 0 → r = 0 ∧ mem = mem') ∧ (¬ s_Tr_isOpenIn (mem (17 + t)) (mem 0 7) = 0 → r = 1 ∧ um_set (um_set mem 0 7 (s_Tr_leadsFrom (mem (17 + t)) (mem 0 7))) 0 8 (mem 0 8 + 1) = mem')) := by
  refine u_start [.ref (G.2.1 0), .int a0] (by decide) (Nat.le_of_ble_eq_true rfl) ?_
  intro p_ e_ s_ m_ bl_ me_ c_ ls S hr hlk hin hl hB
  have hw := uH_start hB
  have hl : lv_has ls 2 [(0, .ref (G.2.1 0)), (1, .int a0)] := hl
  refine lv_iload_n S.1 S.2.1 d_Ds_walk_0 rfl (lv_at hl 1 rfl) ?_
  refine lv_aload_n S.1 S.2.1 d_Ds_walk_1 rfl (lv_at hl 0 rfl) ?_
  refine u_get (v := .int (mem 0 4)) S hw 0 (by decide) rfl rfl in_Ds 4 (by decide) lf_Ds_61 rfl d_Ds_walk_2 ?_
  refine u_top (y := (nI n)) hnn ?_
  refine u_callp hw (va_runS (As := [.int a0, .int (nI n)]) (rest := []) S (c_Ds_isBelow l a0 (nI n)) ⟨u_cB S.2.2.2.2 t_Ds_isBelow ln_Ds lm_Ds_37 hd_Ds_isBelow rfl rfl ⟨Nat.le_of_ble_eq_true rfl, Nat.le_of_ble_eq_true rfl⟩, S.2.2.2.2 _ lt_Ds_isBelow⟩ (u_preP hw.1.2) rfl rfl hl.1 rfl (lv_room (Nat.le_of_ble_eq_true rfl)) d_Ds_walk_5 ⟨Nat.zero_le _, Nat.zero_le _⟩) (fun r H locs hp hw => ?_)
  refine u_top (y := (s_Ds_isBelow a0 (nI n))) hp ?_
  refine lv_if_eq (tgt := 27) S.1 S.2.1 d_Ds_walk_8 (by decide) (fun c1 => ?_) (fun c1 => ?_)
  · skip
    have hno := ib_f (by omega) c1
    refine lv_iconst (v := (0 : Int32)) S.1 S.2.1 d_Ds_walk_27 (by decide) ?_
    exact u_zret S hr hlk hw (by first | rfl | assumption | exact nb01 (z_Ds_isBelow _ _)) ⟨fun _ => ⟨rfl, rfl⟩, fun i hi h => absurd h (hno i hi)⟩ d_Ds_walk_28
  · skip
    obtain ⟨z, hz, rfl⟩ := ib_t (by omega) c1
    refine lv_aload_n S.1 S.2.1 d_Ds_walk_11 rfl (lv_at hl 0 rfl) ?_
    refine u_get (v := .ref (G.2.1 1)) S hw 0 (by decide) rfl rfl in_Ds 0 (by decide) lf_Ds_11 rfl d_Ds_walk_12 ?_
    refine lv_iload_n S.1 S.2.1 d_Ds_walk_15 rfl (lv_at hl 1 rfl) ?_
    refine u_aaN S hw 1 2 (by decide) rfl rfl (j := z) rfl (by omega) (by decide) (v := .ref (G.2.1 (17 + z))) rfl d_Ds_walk_16 ?_
    refine lv_aload_n S.1 S.2.1 d_Ds_walk_17 rfl (lv_at hl 0 rfl) ?_
    refine u_get (v := .int (mem 0 7)) S hw 0 (by decide) rfl rfl in_Ds 7 (by decide) lf_Ds_134 rfl d_Ds_walk_18 ?_
    refine u_calli hw (va_runV (As := [.int (mem 0 7)]) (rest := []) S (c_Tr_isOpenIn l G mem z (by omega) (mem 0 7)) ⟨u_cB S.2.2.2.2 t_Tr_isOpenIn ln_Tr lm_Ds_137 hd_Tr_isOpenIn rfl rfl ⟨Nat.le_of_ble_eq_true rfl, Nat.le_of_ble_eq_true rfl⟩, S.2.2.2.2 _ li_Tr_isOpenIn, S.2.2.2.2 _ ls_Tr_isOpenIn⟩ (u_preV hw (17 + z) (by omega) (sh_Tr z (by omega)) rfl) rfl rfl hl.1 rfl (lv_room (Nat.le_of_ble_eq_true rfl)) d_Ds_walk_21 ⟨Nat.zero_le _, Nat.zero_le _⟩) (fun r3 mem2 H locs hp hw => ?_)
    obtain ⟨hp, rfl⟩ := hp
    refine u_top (y := (s_Tr_isOpenIn (mem (17 + z)) (mem 0 7))) hp ?_
    refine lv_if_ne (tgt := 29) S.1 S.2.1 d_Ds_walk_24 (by decide) (fun c4 => ?_) (fun c4 => ?_)
    · skip
      have ho := c4
      refine lv_aload_n S.1 S.2.1 d_Ds_walk_29 rfl (lv_at hl 0 rfl) ?_
      refine lv_aload_n S.1 S.2.1 d_Ds_walk_30 rfl (lv_at hl 0 rfl) ?_
      refine u_get (v := .ref (G.2.1 1)) S hw 0 (by decide) rfl rfl in_Ds 0 (by decide) lf_Ds_11 rfl d_Ds_walk_31 ?_
      refine lv_iload_n S.1 S.2.1 d_Ds_walk_34 rfl (lv_at hl 1 rfl) ?_
      refine u_aaN S hw 1 2 (by decide) rfl rfl (j := z) rfl (by omega) (by decide) (v := .ref (G.2.1 (17 + z))) rfl d_Ds_walk_35 ?_
      refine lv_aload_n S.1 S.2.1 d_Ds_walk_36 rfl (lv_at hl 0 rfl) ?_
      refine u_get (v := .int (mem 0 7)) S hw 0 (by decide) rfl rfl in_Ds 7 (by decide) lf_Ds_134 rfl d_Ds_walk_37 ?_
      refine u_calli hw (va_runV (As := [.int (mem 0 7)]) (rest := [.ref (G.2.1 0)]) S (c_Tr_leadsFrom l G mem z (by omega) (mem 0 7)) ⟨u_cB S.2.2.2.2 t_Tr_leadsFrom ln_Tr lm_Ds_140 hd_Tr_leadsFrom rfl rfl ⟨Nat.le_of_ble_eq_true rfl, Nat.le_of_ble_eq_true rfl⟩, S.2.2.2.2 _ li_Tr_leadsFrom, S.2.2.2.2 _ ls_Tr_leadsFrom⟩ (u_preV hw (17 + z) (by omega) (sh_Tr z (by omega)) rfl) rfl rfl hl.1 rfl (lv_room (Nat.le_of_ble_eq_true rfl)) d_Ds_walk_40 ⟨Nat.zero_le _, Nat.zero_le _⟩) (fun r6 mem5 H locs hp hw => ?_)
      obtain ⟨hp, rfl⟩ := hp
      refine u_top (y := (s_Tr_leadsFrom (mem (17 + z)) (mem 0 7))) hp ?_
      refine u_put S hw 0 (by decide) rfl rfl in_Ds ty_Ds tk_Ds nm_Ds 7 (by decide) lf_Ds_134 rfl rfl rfl rfl (Nat.le_of_ble_eq_true rfl) rfl d_Ds_walk_43 (fun H locs hw => ?_)
      refine lv_aload_n S.1 S.2.1 d_Ds_walk_46 rfl (lv_at hl 0 rfl) ?_
      refine lv_dup S.1 S.2.1 d_Ds_walk_47 rfl ?_
      refine u_get (v := .int (mem 0 8)) S hw 0 (by decide) rfl rfl in_Ds 8 (by decide) lf_Ds_143 rfl d_Ds_walk_48 ?_
      refine lv_iconst (v := (1 : Int32)) S.1 S.2.1 d_Ds_walk_51 (by decide) ?_
      refine lv_iadd S.1 S.2.1 d_Ds_walk_52 ?_
      refine u_put S hw 0 (by decide) rfl rfl in_Ds ty_Ds tk_Ds nm_Ds 8 (by decide) lf_Ds_143 rfl rfl rfl rfl (Nat.le_of_ble_eq_true rfl) rfl d_Ds_walk_53 (fun H locs hw => ?_)
      refine lv_iconst (v := (1 : Int32)) S.1 S.2.1 d_Ds_walk_56 (by decide) ?_
      exact u_zret S hr hlk hw (by first | rfl | assumption | exact nb01 (z_Ds_isBelow _ _)) ⟨fun h => absurd rfl (h z hz), fun i hi h => by have e := (nI_eq (by omega) (by omega)).mp h; subst e; exact ⟨fun y => absurd y ho, fun _ => ⟨rfl, rfl⟩⟩⟩ d_Ds_walk_57
    · skip
      have ho := c4
      refine lv_iconst (v := (0 : Int32)) S.1 S.2.1 d_Ds_walk_27 (by decide) ?_
      exact u_zret S hr hlk hw (by first | rfl | assumption | exact nb01 (z_Ds_isBelow _ _)) ⟨fun h => absurd rfl (h z hz), fun i hi h => by have e := (nI_eq (by omega) (by omega)).mp h; subst e; exact ⟨fun _ => ⟨rfl, rfl⟩, fun y => absurd ho y⟩⟩ d_Ds_walk_28
set_option maxHeartbeats 4000000 in
set_option maxRecDepth 100000 in
theorem c_Ds_go (l : Launch) (G : UG) (mem : um_M) (a0 : Int32) (k : Nat) (hk : k ≤ 300) (hsz : mem 3 9 = nI k) : MetX l G y_Ds_go b_Ds_go 2 (some .boolean) ({ frames := 2, cells := 0, slots := 0, locals := 42 }) [.ref (G.2.1 0), .int a0] mem (fun r mem' => ((∀ s, s < k → a0 ≠ nI s) → r = 0 ∧ mem = mem') ∧ ∀ s, s < k → a0 = nI s → r = 1 ∧ um_set mem 0 7 (mem 4 s) = mem') := by
  refine u_start [.ref (G.2.1 0), .int a0] (by decide) (Nat.le_of_ble_eq_true rfl) ?_
  intro p_ e_ s_ m_ bl_ me_ c_ ls S hr hlk hin hl hB
  have hw := uH_start hB
  have hl : lv_has ls 2 [(0, .ref (G.2.1 0)), (1, .int a0)] := hl
  refine lv_aload_n S.1 S.2.1 d_Ds_go_0 rfl (lv_at hl 0 rfl) ?_
  refine u_get (v := .ref (G.2.1 3)) S hw 0 (by decide) rfl rfl in_Ds 2 (by decide) lf_Ds_26 rfl d_Ds_go_1 ?_
  refine lv_iload_n S.1 S.2.1 d_Ds_go_4 rfl (lv_at hl 1 rfl) ?_
  refine u_calli hw (va_runV (As := [.int a0]) (rest := []) S (c_Sp_has l G mem a0) ⟨u_cB S.2.2.2.2 t_Sp_has ln_Sp lm_Ds_108 hd_Sp_has rfl rfl ⟨Nat.le_of_ble_eq_true rfl, Nat.le_of_ble_eq_true rfl⟩, S.2.2.2.2 _ li_Sp_has, S.2.2.2.2 _ ls_Sp_has⟩ (u_preV hw 3 (by decide) rfl rfl) rfl rfl hl.1 rfl (lv_room (Nat.le_of_ble_eq_true rfl)) d_Ds_go_5 ⟨Nat.zero_le _, Nat.zero_le _⟩) (fun r2 mem1 H locs hp hw => ?_)
  obtain ⟨hp, rfl⟩ := hp
  refine u_top (y := (s_Sp_has (mem 3 9) a0)) hp ?_
  refine u_top (y := (s_Ds_isBelow a0 (nI k))) (by rw [hsz]; rfl) ?_
  refine lv_if_ne (tgt := 13) S.1 S.2.1 d_Ds_go_8 (by decide) (fun c3 => ?_) (fun c3 => ?_)
  · skip
    obtain ⟨z, hz, rfl⟩ := ib_t (by omega) c3
    refine lv_aload_n S.1 S.2.1 d_Ds_go_13 rfl (lv_at hl 0 rfl) ?_
    refine lv_aload_n S.1 S.2.1 d_Ds_go_14 rfl (lv_at hl 0 rfl) ?_
    refine u_get (v := .ref (G.2.1 3)) S hw 0 (by decide) rfl rfl in_Ds 2 (by decide) lf_Ds_26 rfl d_Ds_go_15 ?_
    refine lv_iload_n S.1 S.2.1 d_Ds_go_18 rfl (lv_at hl 1 rfl) ?_
    refine u_calli hw (va_runV (As := [.int (nI z)]) (rest := [.ref (G.2.1 0)]) S (c_Sp_packed l G mem z (by omega)) ⟨u_cB S.2.2.2.2 t_Sp_packed ln_Sp lm_Ds_128 hd_Sp_packed rfl rfl ⟨Nat.le_of_ble_eq_true rfl, Nat.le_of_ble_eq_true rfl⟩, S.2.2.2.2 _ li_Sp_packed, S.2.2.2.2 _ ls_Sp_packed⟩ (u_preV hw 3 (by decide) rfl rfl) rfl rfl hl.1 rfl (lv_room (Nat.le_of_ble_eq_true rfl)) d_Ds_go_19 ⟨Nat.zero_le _, Nat.zero_le _⟩) (fun r5 mem4 H locs hp hw => ?_)
    obtain ⟨hp, rfl⟩ := hp
    refine u_top (y := (s_Sp_packed (mem 4 z))) hp ?_
    refine u_put S hw 0 (by decide) rfl rfl in_Ds ty_Ds tk_Ds nm_Ds 7 (by decide) lf_Ds_134 rfl rfl rfl rfl (Nat.le_of_ble_eq_true rfl) rfl d_Ds_go_22 (fun H locs hw => ?_)
    refine lv_iconst (v := (1 : Int32)) S.1 S.2.1 d_Ds_go_25 (by decide) ?_
    exact u_zret S hr hlk hw (by first | rfl | assumption | exact nb01 (z_Ds_isBelow _ _)) ⟨fun h => absurd rfl (h z hz), fun i hi h => by have e := (nI_eq (by omega) (by omega)).mp h; subst e; exact ⟨rfl, rfl⟩⟩ d_Ds_go_26
  · skip
    have hno := ib_f (by omega) c3
    refine lv_iconst (v := (0 : Int32)) S.1 S.2.1 d_Ds_go_11 (by decide) ?_
    exact u_zret S hr hlk hw (by first | rfl | assumption | exact nb01 (z_Ds_isBelow _ _)) ⟨fun _ => ⟨rfl, rfl⟩, fun i hi h => absurd h (hno i hi)⟩ d_Ds_go_12
theorem bec_k {mem : um_M} {t k : Nat} {a0 a1 a2 a3 : Int32} (h : k ≠ 17 + t) : n_Tr_become mem t a0 a1 a2 a3 k = mem k := by
  unfold n_Tr_become
  rw [um_k h, um_k h, um_k h, um_k h, um_k h, um_k h]
theorem becC_k {mem : um_M} {t k : Nat} {a0 a1 a2 : Int32} (h : k ≠ 41 + t) : n_Cm_become mem t a0 a1 a2 k = mem k := by
  unfold n_Cm_become
  rw [um_k h, um_k h, um_k h]
set_option maxHeartbeats 4000000 in
set_option maxRecDepth 100000 in
theorem c_Ds_add (l : Launch) (G : UG) (mem : um_M) (a0 a1 a2 a3 : Int32) (n : Nat) (hn : n ≤ 24) (hnn : mem 0 4 = nI n) : MetX l G y_Ds_add b_Ds_add 5 (some .int) ({ frames := 2, cells := 0, slots := 0, locals := 44 }) [.ref (G.2.1 0), .int a0, .int a1, .int a2, .int a3] mem (fun r mem' => (s_Tr_isAsSaid a0 a1 a2 a3 = 0 → r = -1 ∧ mem = mem') ∧ (¬ s_Tr_isAsSaid a0 a1 a2 a3 = 0 → n = 24 → r = -3 ∧ mem = mem') ∧ (¬ s_Tr_isAsSaid a0 a1 a2 a3 = 0 → ¬ n = 24 → r = nI n ∧ n_Sp_forget (um_set (n_Tr_become mem n a0 a1 a2 a3) 0 4 (nI (n + 1))) = mem')) := by
  refine u_start [.ref (G.2.1 0), .int a0, .int a1, .int a2, .int a3] (by decide) (Nat.le_of_ble_eq_true rfl) ?_
  intro p_ e_ s_ m_ bl_ me_ c_ ls S hr hlk hin hl hB
  have hw := uH_start hB
  have hl : lv_has ls 5 [(0, .ref (G.2.1 0)), (1, .int a0), (2, .int a1), (3, .int a2), (4, .int a3)] := hl
  refine lv_iload_n S.1 S.2.1 d_Ds_add_0 rfl (lv_at hl 1 rfl) ?_
  refine lv_iload_n S.1 S.2.1 d_Ds_add_1 rfl (lv_at hl 2 rfl) ?_
  refine lv_iload_n S.1 S.2.1 d_Ds_add_2 rfl (lv_at hl 3 rfl) ?_
  refine lv_iload S.1 S.2.1 d_Ds_add_3 (lv_at hl 4 rfl) ?_
  refine u_callp hw (va_runS (As := [.int a0, .int a1, .int a2, .int a3]) (rest := []) S (c_Tr_isAsSaid l a0 a1 a2 a3) ⟨u_cB S.2.2.2.2 t_Tr_isAsSaid ln_Tr lm_Ds_57 hd_Tr_isAsSaid rfl rfl ⟨Nat.le_of_ble_eq_true rfl, Nat.le_of_ble_eq_true rfl⟩, S.2.2.2.2 _ lt_Tr_isAsSaid⟩ (u_preP hw.1.2) rfl rfl hl.1 rfl (lv_room (Nat.le_of_ble_eq_true rfl)) d_Ds_add_5 ⟨Nat.zero_le _, Nat.zero_le _⟩) (fun r H locs hp hw => ?_)
  refine u_top (y := (s_Tr_isAsSaid a0 a1 a2 a3)) hp ?_
  refine lv_if_ne (tgt := 13) S.1 S.2.1 d_Ds_add_8 (by decide) (fun c1 => ?_) (fun c1 => ?_)
  · skip
    have hs := c1
    refine lv_aload_n S.1 S.2.1 d_Ds_add_13 rfl (lv_at hl 0 rfl) ?_
    refine u_get (v := .int (mem 0 4)) S hw 0 (by decide) rfl rfl in_Ds 4 (by decide) lf_Ds_61 rfl d_Ds_add_14 ?_
    refine u_top (y := (nI n)) hnn ?_
    refine lv_bipush (v := (24 : Int32)) S.1 S.2.1 d_Ds_add_17 (by decide) ?_
    refine lv_icmp_ne (tgt := 25) S.1 S.2.1 d_Ds_add_19 (by decide) (fun c2 => ?_) (fun c2 => ?_)
    · skip
      have h4 : ¬ n = 24 := fun y => c2 (by rw [y]; rfl)
      refine lv_aload_n S.1 S.2.1 d_Ds_add_25 rfl (lv_at hl 0 rfl) ?_
      refine u_get (v := .ref (G.2.1 1)) S hw 0 (by decide) rfl rfl in_Ds 0 (by decide) lf_Ds_11 rfl d_Ds_add_26 ?_
      refine lv_aload_n S.1 S.2.1 d_Ds_add_29 rfl (lv_at hl 0 rfl) ?_
      refine u_get (v := .int (mem 0 4)) S hw 0 (by decide) rfl rfl in_Ds 4 (by decide) lf_Ds_61 rfl d_Ds_add_30 ?_
      refine u_top (y := (nI n)) hnn ?_
      refine u_aaN S hw 1 2 (by decide) rfl rfl (j := n) rfl (by omega) (by decide) (v := .ref (G.2.1 (17 + n))) rfl d_Ds_add_33 ?_
      refine lv_iload_n S.1 S.2.1 d_Ds_add_34 rfl (lv_at hl 1 rfl) ?_
      refine lv_iload_n S.1 S.2.1 d_Ds_add_35 rfl (lv_at hl 2 rfl) ?_
      refine lv_iload_n S.1 S.2.1 d_Ds_add_36 rfl (lv_at hl 3 rfl) ?_
      refine lv_iload S.1 S.2.1 d_Ds_add_37 (lv_at hl 4 rfl) ?_
      refine u_callv hw (va_runV (As := [.int a0, .int a1, .int a2, .int a3]) (rest := []) S (c_Tr_become l G mem n (by omega) a0 a1 a2 a3) ⟨u_cB S.2.2.2.2 t_Tr_become ln_Tr lm_Ds_64 hd_Tr_become rfl rfl ⟨Nat.le_of_ble_eq_true rfl, Nat.le_of_ble_eq_true rfl⟩, S.2.2.2.2 _ li_Tr_become, S.2.2.2.2 _ ls_Tr_become⟩ (u_preV hw (17 + n) (by omega) (sh_Tr n (by omega)) rfl) rfl rfl hl.1 rfl (lv_room (Nat.le_of_ble_eq_true rfl)) d_Ds_add_39 ⟨Nat.zero_le _, Nat.zero_le _⟩) (fun mem3 H locs hp hw => ?_)
      subst hp
      refine lv_aload_n S.1 S.2.1 d_Ds_add_42 rfl (lv_at hl 0 rfl) ?_
      refine lv_dup S.1 S.2.1 d_Ds_add_43 rfl ?_
      refine u_get (v := .int ((n_Tr_become mem n a0 a1 a2 a3) 0 4)) S hw 0 (by decide) rfl rfl in_Ds 4 (by decide) lf_Ds_61 rfl d_Ds_add_44 ?_
      refine u_top (y := (nI n)) (by rw [bec_k (by omega)]; exact hnn) ?_
      refine lv_iconst (v := (1 : Int32)) S.1 S.2.1 d_Ds_add_47 (by decide) ?_
      refine lv_iadd S.1 S.2.1 d_Ds_add_48 ?_
      refine u_top (y := (nI (n + 1))) (nI_add n 1) ?_
      refine u_put S hw 0 (by decide) rfl rfl in_Ds ty_Ds tk_Ds nm_Ds 4 (by decide) lf_Ds_61 rfl rfl rfl rfl (Nat.le_of_ble_eq_true rfl) rfl d_Ds_add_49 (fun H locs hw => ?_)
      refine lv_aload_n S.1 S.2.1 d_Ds_add_52 rfl (lv_at hl 0 rfl) ?_
      refine u_get (v := .ref (G.2.1 3)) S hw 0 (by decide) rfl rfl in_Ds 2 (by decide) lf_Ds_26 rfl d_Ds_add_53 ?_
      refine u_callv hw (va_runV (As := []) (rest := []) S (c_Sp_forget l G (um_set (n_Tr_become mem n a0 a1 a2 a3) 0 4 (nI (n + 1))) ) ⟨u_cB S.2.2.2.2 t_Sp_forget ln_Sp lm_Ds_54 hd_Sp_forget rfl rfl ⟨Nat.le_of_ble_eq_true rfl, Nat.le_of_ble_eq_true rfl⟩, S.2.2.2.2 _ li_Sp_forget, S.2.2.2.2 _ ls_Sp_forget⟩ (u_preV hw 3 (by decide) rfl rfl) rfl rfl hl.1 rfl (lv_room (Nat.le_of_ble_eq_true rfl)) d_Ds_add_56 ⟨Nat.zero_le _, Nat.zero_le _⟩) (fun mem4 H locs hp hw => ?_)
      subst hp
      refine lv_aload_n S.1 S.2.1 d_Ds_add_59 rfl (lv_at hl 0 rfl) ?_
      refine u_get (v := .int ((n_Sp_forget (um_set (n_Tr_become mem n a0 a1 a2 a3) 0 4 (nI (n + 1))) ) 0 4)) S hw 0 (by decide) rfl rfl in_Ds 4 (by decide) lf_Ds_61 rfl d_Ds_add_60 ?_
      refine u_top (y := (nI (n + 1))) rfl ?_
      refine lv_iconst (v := (1 : Int32)) S.1 S.2.1 d_Ds_add_63 (by decide) ?_
      refine lv_isub S.1 S.2.1 d_Ds_add_64 ?_
      refine u_top (y := (nI n)) (nI_pred n) ?_
      exact u_iret S hr hlk hw ⟨fun h => absurd h hs, fun _ h => absurd h h4, fun _ _ => ⟨rfl, rfl⟩⟩ d_Ds_add_65
    · skip
      have h4 : n = 24 := (nI_eq (b := 24) (by omega) (by decide)).mp c2
      refine lv_bipush (v := (-3 : Int32)) S.1 S.2.1 d_Ds_add_22 (by decide) ?_
      exact u_iret S hr hlk hw ⟨fun h => absurd h hs, fun _ _ => ⟨rfl, rfl⟩, fun _ h => absurd h4 h⟩ d_Ds_add_24
  · skip
    have hs := c1
    refine lv_iconst (v := (-1 : Int32)) S.1 S.2.1 d_Ds_add_11 (by decide) ?_
    exact u_iret S hr hlk hw ⟨fun _ => ⟨rfl, rfl⟩, fun h => absurd hs h, fun h => absurd hs h⟩ d_Ds_add_12
set_option maxHeartbeats 4000000 in
set_option maxRecDepth 100000 in
theorem c_Ds_change (l : Launch) (G : UG) (mem : um_M) (a0 a1 a2 a3 a4 : Int32) (n : Nat) (hn : n ≤ 24) (hnn : mem 0 4 = nI n) : MetX l G y_Ds_change b_Ds_change 6 (some .boolean) ({ frames := 2, cells := 0, slots := 0, locals := 44 }) [.ref (G.2.1 0), .int a0, .int a1, .int a2, .int a3, .int a4] mem (fun r mem' => ((∀ t, t < n → a0 ≠ nI t) → r = 0 ∧ mem = mem') ∧ (s_Tr_isAsSaid a1 a2 a3 a4 = 0 → r = 0 ∧ mem = mem') ∧ ∀ t, t < n → a0 = nI t → ¬ s_Tr_isAsSaid a1 a2 a3 a4 = 0 → r = 1 ∧ n_Sp_forget (n_Tr_become mem t a1 a2 a3 a4) = mem') := by
  refine u_start [.ref (G.2.1 0), .int a0, .int a1, .int a2, .int a3, .int a4] (by decide) (Nat.le_of_ble_eq_true rfl) ?_
  intro p_ e_ s_ m_ bl_ me_ c_ ls S hr hlk hin hl hB
  have hw := uH_start hB
  have hl : lv_has ls 6 [(0, .ref (G.2.1 0)), (1, .int a0), (2, .int a1), (3, .int a2), (4, .int a3), (5, .int a4)] := hl
  refine lv_iload_n S.1 S.2.1 d_Ds_change_0 rfl (lv_at hl 1 rfl) ?_
  refine lv_aload_n S.1 S.2.1 d_Ds_change_1 rfl (lv_at hl 0 rfl) ?_
  refine u_get (v := .int (mem 0 4)) S hw 0 (by decide) rfl rfl in_Ds 4 (by decide) lf_Ds_61 rfl d_Ds_change_2 ?_
  refine u_top (y := (nI n)) hnn ?_
  refine u_callp hw (va_runS (As := [.int a0, .int (nI n)]) (rest := []) S (c_Ds_isBelow l a0 (nI n)) ⟨u_cB S.2.2.2.2 t_Ds_isBelow ln_Ds lm_Ds_37 hd_Ds_isBelow rfl rfl ⟨Nat.le_of_ble_eq_true rfl, Nat.le_of_ble_eq_true rfl⟩, S.2.2.2.2 _ lt_Ds_isBelow⟩ (u_preP hw.1.2) rfl rfl hl.1 rfl (lv_room (Nat.le_of_ble_eq_true rfl)) d_Ds_change_5 ⟨Nat.zero_le _, Nat.zero_le _⟩) (fun r H locs hp hw => ?_)
  refine u_top (y := (s_Ds_isBelow a0 (nI n))) hp ?_
  refine lv_if_eq (tgt := 23) S.1 S.2.1 d_Ds_change_8 (by decide) (fun c1 => ?_) (fun c1 => ?_)
  · skip
    have hno := ib_f (by omega) c1
    refine lv_iconst (v := (0 : Int32)) S.1 S.2.1 d_Ds_change_23 (by decide) ?_
    exact u_zret S hr hlk hw (by first | rfl | assumption | exact nb01 (z_Ds_isBelow _ _)) ⟨fun _ => ⟨rfl, rfl⟩, fun _ => ⟨rfl, rfl⟩, fun t ht h => absurd h (hno t ht)⟩ d_Ds_change_24
  · skip
    obtain ⟨z, hz, rfl⟩ := ib_t (by omega) c1
    refine lv_iload_n S.1 S.2.1 d_Ds_change_11 rfl (lv_at hl 2 rfl) ?_
    refine lv_iload_n S.1 S.2.1 d_Ds_change_12 rfl (lv_at hl 3 rfl) ?_
    refine lv_iload S.1 S.2.1 d_Ds_change_13 (lv_at hl 4 rfl) ?_
    refine lv_iload S.1 S.2.1 d_Ds_change_15 (lv_at hl 5 rfl) ?_
    refine u_callp hw (va_runS (As := [.int a1, .int a2, .int a3, .int a4]) (rest := []) S (c_Tr_isAsSaid l a1 a2 a3 a4) ⟨u_cB S.2.2.2.2 t_Tr_isAsSaid ln_Tr lm_Ds_57 hd_Tr_isAsSaid rfl rfl ⟨Nat.le_of_ble_eq_true rfl, Nat.le_of_ble_eq_true rfl⟩, S.2.2.2.2 _ lt_Tr_isAsSaid⟩ (u_preP hw.1.2) rfl rfl hl.1 rfl (lv_room (Nat.le_of_ble_eq_true rfl)) d_Ds_change_17 ⟨Nat.zero_le _, Nat.zero_le _⟩) (fun r H locs hp hw => ?_)
    refine u_top (y := (s_Tr_isAsSaid a1 a2 a3 a4)) hp ?_
    refine lv_if_ne (tgt := 25) S.1 S.2.1 d_Ds_change_20 (by decide) (fun c2 => ?_) (fun c2 => ?_)
    · skip
      have hs := c2
      refine lv_aload_n S.1 S.2.1 d_Ds_change_25 rfl (lv_at hl 0 rfl) ?_
      refine u_get (v := .ref (G.2.1 1)) S hw 0 (by decide) rfl rfl in_Ds 0 (by decide) lf_Ds_11 rfl d_Ds_change_26 ?_
      refine lv_iload_n S.1 S.2.1 d_Ds_change_29 rfl (lv_at hl 1 rfl) ?_
      refine u_aaN S hw 1 2 (by decide) rfl rfl (j := z) rfl (by omega) (by decide) (v := .ref (G.2.1 (17 + z))) rfl d_Ds_change_30 ?_
      refine lv_iload_n S.1 S.2.1 d_Ds_change_31 rfl (lv_at hl 2 rfl) ?_
      refine lv_iload_n S.1 S.2.1 d_Ds_change_32 rfl (lv_at hl 3 rfl) ?_
      refine lv_iload S.1 S.2.1 d_Ds_change_33 (lv_at hl 4 rfl) ?_
      refine lv_iload S.1 S.2.1 d_Ds_change_35 (lv_at hl 5 rfl) ?_
      refine u_callv hw (va_runV (As := [.int a1, .int a2, .int a3, .int a4]) (rest := []) S (c_Tr_become l G mem z (by omega) a1 a2 a3 a4) ⟨u_cB S.2.2.2.2 t_Tr_become ln_Tr lm_Ds_64 hd_Tr_become rfl rfl ⟨Nat.le_of_ble_eq_true rfl, Nat.le_of_ble_eq_true rfl⟩, S.2.2.2.2 _ li_Tr_become, S.2.2.2.2 _ ls_Tr_become⟩ (u_preV hw (17 + z) (by omega) (sh_Tr z (by omega)) rfl) rfl rfl hl.1 rfl (lv_room (Nat.le_of_ble_eq_true rfl)) d_Ds_change_37 ⟨Nat.zero_le _, Nat.zero_le _⟩) (fun mem3 H locs hp hw => ?_)
      subst hp
      refine lv_aload_n S.1 S.2.1 d_Ds_change_40 rfl (lv_at hl 0 rfl) ?_
      refine u_get (v := .ref (G.2.1 3)) S hw 0 (by decide) rfl rfl in_Ds 2 (by decide) lf_Ds_26 rfl d_Ds_change_41 ?_
      refine u_callv hw (va_runV (As := []) (rest := []) S (c_Sp_forget l G (n_Tr_become mem z a1 a2 a3 a4) ) ⟨u_cB S.2.2.2.2 t_Sp_forget ln_Sp lm_Ds_54 hd_Sp_forget rfl rfl ⟨Nat.le_of_ble_eq_true rfl, Nat.le_of_ble_eq_true rfl⟩, S.2.2.2.2 _ li_Sp_forget, S.2.2.2.2 _ ls_Sp_forget⟩ (u_preV hw 3 (by decide) rfl rfl) rfl rfl hl.1 rfl (lv_room (Nat.le_of_ble_eq_true rfl)) d_Ds_change_44 ⟨Nat.zero_le _, Nat.zero_le _⟩) (fun mem4 H locs hp hw => ?_)
      subst hp
      refine lv_iconst (v := (1 : Int32)) S.1 S.2.1 d_Ds_change_47 (by decide) ?_
      exact u_zret S hr hlk hw (by first | rfl | assumption | exact nb01 (z_Ds_isBelow _ _)) ⟨fun h => absurd rfl (h z hz), fun h => absurd h hs, fun i hi h _ => by have e := (nI_eq (by omega) (by omega)).mp h; subst e; exact ⟨rfl, rfl⟩⟩ d_Ds_change_48
    · skip
      have hs := c2
      refine lv_iconst (v := (0 : Int32)) S.1 S.2.1 d_Ds_change_23 (by decide) ?_
      exact u_zret S hr hlk hw (by first | rfl | assumption | exact nb01 (z_Ds_isBelow _ _)) ⟨fun _ => ⟨rfl, rfl⟩, fun _ => ⟨rfl, rfl⟩, fun _ _ _ h => absurd hs h⟩ d_Ds_change_24
set_option maxHeartbeats 4000000 in
set_option maxRecDepth 100000 in
theorem c_Ds_claim (l : Launch) (G : UG) (mem : um_M) (a0 a1 a2 : Int32) (c : Nat) (hc : c ≤ 6) (hcc : mem 0 5 = nI c) : MetX l G y_Ds_claim b_Ds_claim 4 (some .int) ({ frames := 2, cells := 0, slots := 0, locals := 43 }) [.ref (G.2.1 0), .int a0, .int a1, .int a2] mem (fun r mem' => (s_Cm_isAsSaid a0 a1 a2 = 0 → r = -1 ∧ mem = mem') ∧ (¬ s_Cm_isAsSaid a0 a1 a2 = 0 → c = 6 → r = -3 ∧ mem = mem') ∧ (¬ s_Cm_isAsSaid a0 a1 a2 = 0 → ¬ c = 6 → r = nI c ∧ um_set (n_Cm_become mem c a0 a1 a2) 0 5 (nI (c + 1)) = mem')) := by
  refine u_start [.ref (G.2.1 0), .int a0, .int a1, .int a2] (by decide) (Nat.le_of_ble_eq_true rfl) ?_
  intro p_ e_ s_ m_ bl_ me_ c_ ls S hr hlk hin hl hB
  have hw := uH_start hB
  have hl : lv_has ls 4 [(0, .ref (G.2.1 0)), (1, .int a0), (2, .int a1), (3, .int a2)] := hl
  refine lv_iload_n S.1 S.2.1 d_Ds_claim_0 rfl (lv_at hl 1 rfl) ?_
  refine lv_iload_n S.1 S.2.1 d_Ds_claim_1 rfl (lv_at hl 2 rfl) ?_
  refine lv_iload_n S.1 S.2.1 d_Ds_claim_2 rfl (lv_at hl 3 rfl) ?_
  refine u_callp hw (va_runS (As := [.int a0, .int a1, .int a2]) (rest := []) S (c_Cm_isAsSaid l a0 a1 a2) ⟨u_cB S.2.2.2.2 t_Cm_isAsSaid ln_Cm lm_Ds_71 hd_Cm_isAsSaid rfl rfl ⟨Nat.le_of_ble_eq_true rfl, Nat.le_of_ble_eq_true rfl⟩, S.2.2.2.2 _ lt_Cm_isAsSaid⟩ (u_preP hw.1.2) rfl rfl hl.1 rfl (lv_room (Nat.le_of_ble_eq_true rfl)) d_Ds_claim_3 ⟨Nat.zero_le _, Nat.zero_le _⟩) (fun r H locs hp hw => ?_)
  refine u_top (y := (s_Cm_isAsSaid a0 a1 a2)) hp ?_
  refine lv_if_ne (tgt := 11) S.1 S.2.1 d_Ds_claim_6 (by decide) (fun c1 => ?_) (fun c1 => ?_)
  · skip
    have hs := c1
    refine lv_aload_n S.1 S.2.1 d_Ds_claim_11 rfl (lv_at hl 0 rfl) ?_
    refine u_get (v := .int (mem 0 5)) S hw 0 (by decide) rfl rfl in_Ds 5 (by decide) lf_Ds_68 rfl d_Ds_claim_12 ?_
    refine u_top (y := (nI c)) hcc ?_
    refine lv_bipush (v := (6 : Int32)) S.1 S.2.1 d_Ds_claim_15 (by decide) ?_
    refine lv_icmp_ne (tgt := 23) S.1 S.2.1 d_Ds_claim_17 (by decide) (fun c2 => ?_) (fun c2 => ?_)
    · skip
      have h4 : ¬ c = 6 := fun y => c2 (by rw [y]; rfl)
      refine lv_aload_n S.1 S.2.1 d_Ds_claim_23 rfl (lv_at hl 0 rfl) ?_
      refine u_get (v := .ref (G.2.1 2)) S hw 0 (by decide) rfl rfl in_Ds 1 (by decide) lf_Ds_18 rfl d_Ds_claim_24 ?_
      refine lv_aload_n S.1 S.2.1 d_Ds_claim_27 rfl (lv_at hl 0 rfl) ?_
      refine u_get (v := .int (mem 0 5)) S hw 0 (by decide) rfl rfl in_Ds 5 (by decide) lf_Ds_68 rfl d_Ds_claim_28 ?_
      refine u_top (y := (nI c)) hcc ?_
      refine u_aaN S hw 2 3 (by decide) rfl rfl (j := c) rfl (by omega) (by decide) (v := .ref (G.2.1 (41 + c))) rfl d_Ds_claim_31 ?_
      refine lv_iload_n S.1 S.2.1 d_Ds_claim_32 rfl (lv_at hl 1 rfl) ?_
      refine lv_iload_n S.1 S.2.1 d_Ds_claim_33 rfl (lv_at hl 2 rfl) ?_
      refine lv_iload_n S.1 S.2.1 d_Ds_claim_34 rfl (lv_at hl 3 rfl) ?_
      refine u_callv hw (va_runV (As := [.int a0, .int a1, .int a2]) (rest := []) S (c_Cm_become l G mem c (by omega) a0 a1 a2) ⟨u_cB S.2.2.2.2 t_Cm_become ln_Cm lm_Ds_74 hd_Cm_become rfl rfl ⟨Nat.le_of_ble_eq_true rfl, Nat.le_of_ble_eq_true rfl⟩, S.2.2.2.2 _ li_Cm_become, S.2.2.2.2 _ ls_Cm_become⟩ (u_preV hw (41 + c) (by omega) (sh_Cm c (by omega)) rfl) rfl rfl hl.1 rfl (lv_room (Nat.le_of_ble_eq_true rfl)) d_Ds_claim_35 ⟨Nat.zero_le _, Nat.zero_le _⟩) (fun mem3 H locs hp hw => ?_)
      subst hp
      refine lv_aload_n S.1 S.2.1 d_Ds_claim_38 rfl (lv_at hl 0 rfl) ?_
      refine lv_dup S.1 S.2.1 d_Ds_claim_39 rfl ?_
      refine u_get (v := .int ((n_Cm_become mem c a0 a1 a2) 0 5)) S hw 0 (by decide) rfl rfl in_Ds 5 (by decide) lf_Ds_68 rfl d_Ds_claim_40 ?_
      refine u_top (y := (nI c)) (by rw [becC_k (by omega)]; exact hcc) ?_
      refine lv_iconst (v := (1 : Int32)) S.1 S.2.1 d_Ds_claim_43 (by decide) ?_
      refine lv_iadd S.1 S.2.1 d_Ds_claim_44 ?_
      refine u_top (y := (nI (c + 1))) (nI_add c 1) ?_
      refine u_put S hw 0 (by decide) rfl rfl in_Ds ty_Ds tk_Ds nm_Ds 5 (by decide) lf_Ds_68 rfl rfl rfl rfl (Nat.le_of_ble_eq_true rfl) rfl d_Ds_claim_45 (fun H locs hw => ?_)
      refine lv_aload_n S.1 S.2.1 d_Ds_claim_48 rfl (lv_at hl 0 rfl) ?_
      refine u_get (v := .int (nI (c + 1))) S hw 0 (by decide) rfl rfl in_Ds 5 (by decide) lf_Ds_68 rfl d_Ds_claim_49 ?_
      refine lv_iconst (v := (1 : Int32)) S.1 S.2.1 d_Ds_claim_52 (by decide) ?_
      refine lv_isub S.1 S.2.1 d_Ds_claim_53 ?_
      refine u_top (y := (nI c)) (nI_pred c) ?_
      exact u_iret S hr hlk hw ⟨fun h => absurd h hs, fun _ h => absurd h h4, fun _ _ => ⟨rfl, rfl⟩⟩ d_Ds_claim_54
    · skip
      have h4 : c = 6 := (nI_eq (b := 6) (by omega) (by decide)).mp c2
      refine lv_bipush (v := (-3 : Int32)) S.1 S.2.1 d_Ds_claim_20 (by decide) ?_
      exact u_iret S hr hlk hw ⟨fun h => absurd h hs, fun _ _ => ⟨rfl, rfl⟩, fun _ h => absurd h4 h⟩ d_Ds_claim_22
  · skip
    have hs := c1
    refine lv_iconst (v := (-1 : Int32)) S.1 S.2.1 d_Ds_claim_9 (by decide) ?_
    exact u_iret S hr hlk hw ⟨fun _ => ⟨rfl, rfl⟩, fun h => absurd hs h, fun h => absurd hs h⟩ d_Ds_claim_10
