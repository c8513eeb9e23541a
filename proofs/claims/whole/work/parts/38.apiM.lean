set_option maxHeartbeats 4000000 in
set_option maxRecDepth 100000 in
theorem c_Mo_add (l : Launch) (G : UG) (mem : um_M) (a0 a1 a2 a3 : Int32) (n : Nat) (hn : n ≤ 24) (hnn : mem 0 7 = nI n) : MetM l G y_Mo_add b_Mo_add 5 (some .int) ({ frames := 2, cells := 0, slots := 0, locals := 45 }) [.ref (G.2.1 0), .int a0, .int a1, .int a2, .int a3] mem (fun r mem' => (s_Mo_isGood a0 a1 a2 a3 = 0 → r = -1 ∧ mem = mem') ∧ (¬ s_Mo_isGood a0 a1 a2 a3 = 0 → n = 24 → r = -3 ∧ mem = mem') ∧ (¬ s_Mo_isGood a0 a1 a2 a3 = 0 → ¬ n = 24 → r = nI n ∧ um_set (n_Mo_set mem n a0 a1 a2 a3) 0 7 (nI (n + 1)) = mem')) := by
  refine u_start [.ref (G.2.1 0), .int a0, .int a1, .int a2, .int a3] (by decide) (Nat.le_of_ble_eq_true rfl) ?_
  intro p_ e_ s_ m_ bl_ me_ c_ ls S hr hlk hin hl hB
  have hw := uH_start hB
  have hl : lv_has ls 5 [(0, .ref (G.2.1 0)), (1, .int a0), (2, .int a1), (3, .int a2), (4, .int a3)] := hl
  refine lv_iload_n S.1 S.2.1 d_Mo_add_0 rfl (lv_at hl 1 rfl) ?_
  refine lv_iload_n S.1 S.2.1 d_Mo_add_1 rfl (lv_at hl 2 rfl) ?_
  refine lv_iload_n S.1 S.2.1 d_Mo_add_2 rfl (lv_at hl 3 rfl) ?_
  refine lv_iload S.1 S.2.1 d_Mo_add_3 (lv_at hl 4 rfl) ?_
  refine u_callp hw (va_runS (As := [.int a0, .int a1, .int a2, .int a3]) (rest := []) S (c_Mo_isGood l a0 a1 a2 a3) ⟨u_cB S.2.2.2.2 t_Mo_isGood ln_Mo lm_Mo_95 hd_Mo_isGood rfl rfl ⟨Nat.le_of_ble_eq_true rfl, Nat.le_of_ble_eq_true rfl⟩, S.2.2.2.2 _ lt_Mo_isGood⟩ (u_preP hw.1.2) rfl rfl hl.1 rfl (lv_room (Nat.le_of_ble_eq_true rfl)) d_Mo_add_5 ⟨Nat.zero_le _, Nat.zero_le _⟩) (fun r H locs hp hw => ?_)
  refine u_top (y := (s_Mo_isGood a0 a1 a2 a3)) hp ?_
  refine lv_if_ne (tgt := 13) S.1 S.2.1 d_Mo_add_8 (by decide) (fun c1 => ?_) (fun c1 => ?_)
  · skip
    have hs := c1
    refine lv_aload_n S.1 S.2.1 d_Mo_add_13 rfl (lv_at hl 0 rfl) ?_
    refine u_get (v := .int (mem 0 7)) S hw 0 (by decide) rfl rfl in_Mo 7 (by decide) lf_Mo_77 rfl d_Mo_add_14 ?_
    refine u_top (y := (nI n)) hnn ?_
    refine lv_bipush (v := (24 : Int32)) S.1 S.2.1 d_Mo_add_17 (by decide) ?_
    refine lv_icmp_ne (tgt := 25) S.1 S.2.1 d_Mo_add_19 (by decide) (fun c2 => ?_) (fun c2 => ?_)
    · skip
      have h4 : ¬ n = 24 := fun y => c2 (by rw [y]; rfl)
      refine lv_aload_n S.1 S.2.1 d_Mo_add_25 rfl (lv_at hl 0 rfl) ?_
      refine lv_aload_n S.1 S.2.1 d_Mo_add_26 rfl (lv_at hl 0 rfl) ?_
      refine u_get (v := .int (mem 0 7)) S hw 0 (by decide) rfl rfl in_Mo 7 (by decide) lf_Mo_77 rfl d_Mo_add_27 ?_
      refine u_top (y := (nI n)) hnn ?_
      refine lv_iload_n S.1 S.2.1 d_Mo_add_30 rfl (lv_at hl 1 rfl) ?_
      refine lv_iload_n S.1 S.2.1 d_Mo_add_31 rfl (lv_at hl 2 rfl) ?_
      refine lv_iload_n S.1 S.2.1 d_Mo_add_32 rfl (lv_at hl 3 rfl) ?_
      refine lv_iload S.1 S.2.1 d_Mo_add_33 (lv_at hl 4 rfl) ?_
      refine u_callv hw (va_runV (As := [.int (nI n), .int a0, .int a1, .int a2, .int a3]) (rest := []) S (c_Mo_set l G mem n a0 a1 a2 a3 (by omega)) ⟨u_cB S.2.2.2.2 t_Mo_set ln_Mo lm_Mo_99 hd_Mo_set rfl rfl ⟨Nat.le_of_ble_eq_true rfl, Nat.le_of_ble_eq_true rfl⟩, S.2.2.2.2 _ li_Mo_set, S.2.2.2.2 _ ls_Mo_set⟩ (u_preV hw 0 (by decide) rfl rfl) rfl rfl hl.1 rfl (lv_room (Nat.le_of_ble_eq_true rfl)) d_Mo_add_35 ⟨Nat.zero_le _, Nat.zero_le _⟩) (fun mem3 H locs hp hw => ?_)
      subst hp
      refine lv_aload_n S.1 S.2.1 d_Mo_add_38 rfl (lv_at hl 0 rfl) ?_
      refine lv_dup S.1 S.2.1 d_Mo_add_39 rfl ?_
      refine u_get (v := .int ((n_Mo_set mem n a0 a1 a2 a3) 0 7)) S hw 0 (by decide) rfl rfl in_Mo 7 (by decide) lf_Mo_77 rfl d_Mo_add_40 ?_
      refine u_top (y := (nI n)) hnn ?_
      refine lv_iconst (v := (1 : Int32)) S.1 S.2.1 d_Mo_add_43 (by decide) ?_
      refine lv_iadd S.1 S.2.1 d_Mo_add_44 ?_
      refine u_top (y := (nI (n + 1))) (nI_add n 1) ?_
      refine u_put S hw 0 (by decide) rfl rfl in_Mo ty_Mo tk_Mo nm_Mo 7 (by decide) lf_Mo_77 rfl rfl rfl rfl (Nat.le_of_ble_eq_true rfl) rfl d_Mo_add_45 (fun H locs hw => ?_)
      refine lv_aload_n S.1 S.2.1 d_Mo_add_48 rfl (lv_at hl 0 rfl) ?_
      refine u_get (v := .int (nI (n + 1))) S hw 0 (by decide) rfl rfl in_Mo 7 (by decide) lf_Mo_77 rfl d_Mo_add_49 ?_
      refine lv_iconst (v := (1 : Int32)) S.1 S.2.1 d_Mo_add_52 (by decide) ?_
      refine lv_isub S.1 S.2.1 d_Mo_add_53 ?_
      refine u_top (y := (nI n)) (nI_pred n) ?_
      exact u_iret S hr hlk hw ⟨fun h => absurd h hs, fun _ h => absurd h h4, fun _ _ => ⟨rfl, rfl⟩⟩ d_Mo_add_54
    · skip
      have h4 : n = 24 := (nI_eq (b := 24) (by omega) (by decide)).mp c2
      refine lv_bipush (v := (-3 : Int32)) S.1 S.2.1 d_Mo_add_22 (by decide) ?_
      exact u_iret S hr hlk hw ⟨fun h => absurd h hs, fun _ _ => ⟨rfl, rfl⟩, fun _ h => absurd h4 h⟩ d_Mo_add_24
  · skip
    have hs := c1
    refine lv_iconst (v := (-1 : Int32)) S.1 S.2.1 d_Mo_add_11 (by decide) ?_
    exact u_iret S hr hlk hw ⟨fun _ => ⟨rfl, rfl⟩, fun h => absurd hs h, fun h => absurd hs h⟩ d_Mo_add_12
set_option maxHeartbeats 4000000 in
set_option maxRecDepth 100000 in
theorem c_Mo_change (l : Launch) (G : UG) (mem : um_M) (a0 a1 a2 a3 a4 : Int32) (n : Nat) (hn : n ≤ 24) (hnn : mem 0 7 = nI n) : MetM l G y_Mo_change b_Mo_change 6 (some .boolean) ({ frames := 2, cells := 0, slots := 0, locals := 45 }) [.ref (G.2.1 0), .int a0, .int a1, .int a2, .int a3, .int a4] mem (fun r mem' => ((∀ t, t < n → a0 ≠ nI t) → r = 0 ∧ mem = mem') ∧ (s_Mo_isGood a1 a2 a3 a4 = 0 → r = 0 ∧ mem = mem') ∧ ∀ t, t < n → a0 = nI t → ¬ s_Mo_isGood a1 a2 a3 a4 = 0 → r = 1 ∧ n_Mo_set mem t a1 a2 a3 a4 = mem') := by
  refine u_start [.ref (G.2.1 0), .int a0, .int a1, .int a2, .int a3, .int a4] (by decide) (Nat.le_of_ble_eq_true rfl) ?_
  intro p_ e_ s_ m_ bl_ me_ c_ ls S hr hlk hin hl hB
  have hw := uH_start hB
  have hl : lv_has ls 6 [(0, .ref (G.2.1 0)), (1, .int a0), (2, .int a1), (3, .int a2), (4, .int a3), (5, .int a4)] := hl
  refine lv_iload_n S.1 S.2.1 d_Mo_change_0 rfl (lv_at hl 1 rfl) ?_
  refine lv_iconst (v := (0 : Int32)) S.1 S.2.1 d_Mo_change_1 (by decide) ?_
  refine lv_aload_n S.1 S.2.1 d_Mo_change_2 rfl (lv_at hl 0 rfl) ?_
  refine u_get (v := .int (mem 0 7)) S hw 0 (by decide) rfl rfl in_Mo 7 (by decide) lf_Mo_77 rfl d_Mo_change_3 ?_
  refine u_top (y := (nI n)) hnn ?_
  refine lv_iconst (v := (1 : Int32)) S.1 S.2.1 d_Mo_change_6 (by decide) ?_
  refine lv_isub S.1 S.2.1 d_Mo_change_7 ?_
  refine u_callp hw (va_runS (As := [.int a0, .int (0 : Int32), .int ((nI n) - (1 : Int32))]) (rest := []) S (c_Mo_in l a0 (0 : Int32) ((nI n) - (1 : Int32))) ⟨u_cB S.2.2.2.2 t_Mo_in ln_Mo lm_Mo_84 hd_Mo_in rfl rfl ⟨Nat.le_of_ble_eq_true rfl, Nat.le_of_ble_eq_true rfl⟩, S.2.2.2.2 _ lt_Mo_in⟩ (u_preP hw.1.2) rfl rfl hl.1 rfl (lv_room (Nat.le_of_ble_eq_true rfl)) d_Mo_change_8 ⟨Nat.zero_le _, Nat.zero_le _⟩) (fun r H locs hp hw => ?_)
  refine u_top (y := (s_Mo_in a0 (0 : Int32) ((nI n) - (1 : Int32)))) hp ?_
  refine lv_if_eq (tgt := 26) S.1 S.2.1 d_Mo_change_11 (by decide) (fun c1 => ?_) (fun c1 => ?_)
  · skip
    have hno := mi_f (by omega) c1
    refine lv_iconst (v := (0 : Int32)) S.1 S.2.1 d_Mo_change_26 (by decide) ?_
    exact u_zret S hr hlk hw (by first | rfl | assumption | exact nb01 (z_Ds_isBelow _ _)) ⟨fun _ => ⟨rfl, rfl⟩, fun _ => ⟨rfl, rfl⟩, fun t ht h => absurd h (hno t ht)⟩ d_Mo_change_27
  · skip
    obtain ⟨z, hz, rfl⟩ := mi_t (by omega) c1
    refine lv_iload_n S.1 S.2.1 d_Mo_change_14 rfl (lv_at hl 2 rfl) ?_
    refine lv_iload_n S.1 S.2.1 d_Mo_change_15 rfl (lv_at hl 3 rfl) ?_
    refine lv_iload S.1 S.2.1 d_Mo_change_16 (lv_at hl 4 rfl) ?_
    refine lv_iload S.1 S.2.1 d_Mo_change_18 (lv_at hl 5 rfl) ?_
    refine u_callp hw (va_runS (As := [.int a1, .int a2, .int a3, .int a4]) (rest := []) S (c_Mo_isGood l a1 a2 a3 a4) ⟨u_cB S.2.2.2.2 t_Mo_isGood ln_Mo lm_Mo_95 hd_Mo_isGood rfl rfl ⟨Nat.le_of_ble_eq_true rfl, Nat.le_of_ble_eq_true rfl⟩, S.2.2.2.2 _ lt_Mo_isGood⟩ (u_preP hw.1.2) rfl rfl hl.1 rfl (lv_room (Nat.le_of_ble_eq_true rfl)) d_Mo_change_20 ⟨Nat.zero_le _, Nat.zero_le _⟩) (fun r H locs hp hw => ?_)
    refine u_top (y := (s_Mo_isGood a1 a2 a3 a4)) hp ?_
    refine lv_if_ne (tgt := 28) S.1 S.2.1 d_Mo_change_23 (by decide) (fun c2 => ?_) (fun c2 => ?_)
    · skip
      have hs := c2
      refine lv_aload_n S.1 S.2.1 d_Mo_change_28 rfl (lv_at hl 0 rfl) ?_
      refine lv_iload_n S.1 S.2.1 d_Mo_change_29 rfl (lv_at hl 1 rfl) ?_
      refine lv_iload_n S.1 S.2.1 d_Mo_change_30 rfl (lv_at hl 2 rfl) ?_
      refine lv_iload_n S.1 S.2.1 d_Mo_change_31 rfl (lv_at hl 3 rfl) ?_
      refine lv_iload S.1 S.2.1 d_Mo_change_32 (lv_at hl 4 rfl) ?_
      refine lv_iload S.1 S.2.1 d_Mo_change_34 (lv_at hl 5 rfl) ?_
      refine u_callv hw (va_runV (As := [.int (nI z), .int a1, .int a2, .int a3, .int a4]) (rest := []) S (c_Mo_set l G mem z a1 a2 a3 a4 (by omega)) ⟨u_cB S.2.2.2.2 t_Mo_set ln_Mo lm_Mo_99 hd_Mo_set rfl rfl ⟨Nat.le_of_ble_eq_true rfl, Nat.le_of_ble_eq_true rfl⟩, S.2.2.2.2 _ li_Mo_set, S.2.2.2.2 _ ls_Mo_set⟩ (u_preV hw 0 (by decide) rfl rfl) rfl rfl hl.1 rfl (lv_room (Nat.le_of_ble_eq_true rfl)) d_Mo_change_36 ⟨Nat.zero_le _, Nat.zero_le _⟩) (fun mem3 H locs hp hw => ?_)
      subst hp
      refine lv_iconst (v := (1 : Int32)) S.1 S.2.1 d_Mo_change_39 (by decide) ?_
      exact u_zret S hr hlk hw (by first | rfl | assumption | exact nb01 (z_Ds_isBelow _ _)) ⟨fun h => absurd rfl (h z hz), fun h => absurd h hs, fun i hi h _ => by have e := (nI_eq (by omega) (by omega)).mp h; subst e; exact ⟨rfl, rfl⟩⟩ d_Mo_change_40
    · skip
      have hs := c2
      refine lv_iconst (v := (0 : Int32)) S.1 S.2.1 d_Mo_change_26 (by decide) ?_
      exact u_zret S hr hlk hw (by first | rfl | assumption | exact nb01 (z_Ds_isBelow _ _)) ⟨fun _ => ⟨rfl, rfl⟩, fun _ => ⟨rfl, rfl⟩, fun _ _ _ h => absurd hs h⟩ d_Mo_change_27
def s_Mo_cg (a0 a1 a2 : Int32) : Int32 := if a0 = (0 : Int32) then (if s_Mo_in a1 (0 : Int32) (3 : Int32) = (0 : Int32) then (0 : Int32) else if s_Mo_in a2 (0 : Int32) (3 : Int32) = (0 : Int32) then (0 : Int32) else (1 : Int32)) else if a0 = (4 : Int32) then (if s_Mo_in a1 (0 : Int32) (3 : Int32) = (0 : Int32) then (0 : Int32) else if s_Mo_in a2 (0 : Int32) (3 : Int32) = (0 : Int32) then (0 : Int32) else (1 : Int32)) else if a0 = (1 : Int32) then (if s_Mo_in a1 (0 : Int32) (2 : Int32) = (0 : Int32) then (0 : Int32) else if s_Mo_in a2 (0 : Int32) (7 : Int32) = (0 : Int32) then (0 : Int32) else (1 : Int32)) else if a0 = (2 : Int32) then (if s_Mo_in a1 (0 : Int32) (2 : Int32) = (0 : Int32) then (0 : Int32) else if s_Mo_in a2 (0 : Int32) (2 : Int32) = (0 : Int32) then (0 : Int32) else if a1 = a2 then (0 : Int32) else (1 : Int32)) else if a0 = (3 : Int32) then (if s_Mo_in a1 (0 : Int32) (2 : Int32) = (0 : Int32) then (0 : Int32) else (1 : Int32)) else (0 : Int32)
theorem in_b {a : Int32} {m : Nat} (hm : m < 1000) : s_Mo_in a 0 (nI m) = s_Ds_isBelow a (nI (m + 1)) := by
  unfold s_Mo_in s_Ds_isBelow
  by_cases h1 : a < 0
  · rw [if_pos h1, if_pos h1]
  · rw [if_neg h1, if_neg h1]
    obtain ⟨j, hj, rfl⟩ := nI_of h1
    by_cases c : m < j
    · rw [if_pos (nI_lt c hj), if_pos (nI_le (by omega) hj)]
    · rw [if_neg (nI_nlt (by omega) (by omega)), if_neg (nI_ge (by omega) (by omega))]
theorem in2 (a : Int32) : s_Mo_in a 0 2 = s_Ds_isBelow a 3 := in_b (m := 2) (by decide)
theorem in3 (a : Int32) : s_Mo_in a 0 3 = s_Ds_isBelow a 4 := in_b (m := 3) (by decide)
theorem in7 (a : Int32) : s_Mo_in a 0 7 = s_Ds_isBelow a 8 := in_b (m := 7) (by decide)
theorem in127 (a : Int32) : s_Mo_in a 0 127 = s_Ds_isBelow a 128 := in_b (m := 127) (by decide)
theorem good_eq (a0 a1 a2 a3 : Int32) : s_Mo_isGood a0 a1 a2 a3 = s_Tr_isAsSaid a0 a1 a2 a3 := by
  unfold s_Mo_isGood s_Tr_isAsSaid
  rw [in2, in7, in7, in127]
theorem cg_eq (a0 a1 a2 : Int32) : s_Mo_cg a0 a1 a2 = s_Cm_isAsSaid a0 a1 a2 := by
  unfold s_Mo_cg s_Cm_isAsSaid
  rw [in3, in3, in2, in2, in7]
  by_cases h0 : a0 = 0
  · rw [if_pos h0, if_pos h0]
  · rw [if_neg h0, if_neg h0]
    by_cases h4 : a0 = 4
    · have n1 : ¬ a0 = 1 := fun e => absurd (h4.symm.trans e) (by decide)
      have n2 : ¬ a0 = 2 := fun e => absurd (h4.symm.trans e) (by decide)
      have n3 : ¬ a0 = 3 := fun e => absurd (h4.symm.trans e) (by decide)
      rw [if_pos h4, if_neg n1, if_neg n2, if_neg n3, if_pos h4]
    · rw [if_neg h4]
      by_cases h1 : a0 = 1
      · rw [if_pos h1, if_pos h1]
      · rw [if_neg h1, if_neg h1]
        by_cases h2 : a0 = 2
        · rw [if_pos h2, if_pos h2]
        · rw [if_neg h2, if_neg h2]
          by_cases h3 : a0 = 3
          · rw [if_pos h3, if_pos h3]
            rcases z_Ds_isBelow a1 3 with z | z
            · rw [z]; rfl
            · rw [z]; rfl
          · rw [if_neg h3, if_neg h3, if_neg h4]
set_option maxHeartbeats 4000000 in
set_option maxRecDepth 100000 in
theorem c_Mo_claim (l : Launch) (G : UG) (mem : um_M) (a0 a1 a2 : Int32) (c : Nat) (hc : c ≤ 6) (hcc : mem 0 8 = nI c) : MetM l G y_Mo_claim b_Mo_claim 5 (some .int) ({ frames := 1, cells := 0, slots := 0, locals := 22 }) [.ref (G.2.1 0), .int a0, .int a1, .int a2] mem (fun r mem' => (s_Cm_isAsSaid a0 a1 a2 = 0 → r = -1 ∧ mem = mem') ∧ (¬ s_Cm_isAsSaid a0 a1 a2 = 0 → c = 6 → r = -3 ∧ mem = mem') ∧ (¬ s_Cm_isAsSaid a0 a1 a2 = 0 → ¬ c = 6 → r = nI c ∧ um_set (um_set (um_set (um_set mem 5 c a0) 6 c a1) 7 c a2) 0 8 (nI (c + 1)) = mem')) := by
  refine u_start [.ref (G.2.1 0), .int a0, .int a1, .int a2] (by decide) (Nat.le_of_ble_eq_true rfl) ?_
  intro p_ e_ s_ m_ bl_ me_ c_ ls S hr hlk hin hl hB
  have hw := uH_start hB
  have hl : lv_has ls 5 [(0, .ref (G.2.1 0)), (1, .int a0), (2, .int a1), (3, .int a2)] := hl
  refine lv_iload_n S.1 S.2.1 d_Mo_claim_0 rfl (lv_at hl 1 rfl) ?_
  refine lv_if_eq (tgt := 9) S.1 S.2.1 d_Mo_claim_1 (by decide) (fun c1 => ?_) (fun c1 => ?_)
  · skip
    refine lv_iload_n S.1 S.2.1 d_Mo_claim_9 rfl (lv_at hl 2 rfl) ?_
    refine lv_iconst (v := (0 : Int32)) S.1 S.2.1 d_Mo_claim_10 (by decide) ?_
    refine lv_iconst (v := (3 : Int32)) S.1 S.2.1 d_Mo_claim_11 (by decide) ?_
    refine u_callp hw (va_runS (As := [.int a1, .int (0 : Int32), .int (3 : Int32)]) (rest := []) S (c_Mo_in l a1 (0 : Int32) (3 : Int32)) ⟨u_cB S.2.2.2.2 t_Mo_in ln_Mo lm_Mo_84 hd_Mo_in rfl rfl ⟨Nat.le_of_ble_eq_true rfl, Nat.le_of_ble_eq_true rfl⟩, S.2.2.2.2 _ lt_Mo_in⟩ (u_preP hw.1.2) rfl rfl hl.1 rfl (lv_room (Nat.le_of_ble_eq_true rfl)) d_Mo_claim_12 ⟨Nat.zero_le _, Nat.zero_le _⟩) (fun r H locs hp hw => ?_)
    refine u_top (y := (s_Mo_in a1 (0 : Int32) (3 : Int32))) hp ?_
    refine lv_if_eq (tgt := 31) S.1 S.2.1 d_Mo_claim_15 (by decide) (fun c2 => ?_) (fun c2 => ?_)
    · skip
      refine lv_iconst (v := (0 : Int32)) S.1 S.2.1 d_Mo_claim_31 (by decide) ?_
      refine lv_goto (tgt := 122) S.1 S.2.1 d_Mo_claim_32 (by decide) ?_
      refine lv_istore (lv' := [(4, .int (0 : Int32)), (0, .ref (G.2.1 0)), (1, .int a0), (2, .int a1), (3, .int a2)]) S.1 S.2.1 d_Mo_claim_122 hl (by decide) rfl (fun ls hl => ?_)
      have hs : s_Cm_isAsSaid a0 a1 a2 = (0 : Int32) := by rw [← cg_eq]; unfold s_Mo_cg; simp only [if_pos c1, if_pos c2]
      refine lv_iload S.1 S.2.1 d_Mo_claim_124 (lv_at hl 0 rfl) ?_
      refine lv_if_ne (tgt := 131) S.1 S.2.1 d_Mo_claim_126 (by decide) (fun c3 => ?_) (fun c3 => ?_)
      · skip
        exact absurd (by decide) c3
      · skip
        refine lv_iconst (v := (-1 : Int32)) S.1 S.2.1 d_Mo_claim_129 (by decide) ?_
        exact u_iret S hr hlk hw ⟨fun _ => ⟨rfl, rfl⟩, fun h => absurd hs h, fun h => absurd hs h⟩ d_Mo_claim_130
    · skip
      refine lv_iload_n S.1 S.2.1 d_Mo_claim_18 rfl (lv_at hl 3 rfl) ?_
      refine lv_iconst (v := (0 : Int32)) S.1 S.2.1 d_Mo_claim_19 (by decide) ?_
      refine lv_iconst (v := (3 : Int32)) S.1 S.2.1 d_Mo_claim_20 (by decide) ?_
      refine u_callp hw (va_runS (As := [.int a2, .int (0 : Int32), .int (3 : Int32)]) (rest := []) S (c_Mo_in l a2 (0 : Int32) (3 : Int32)) ⟨u_cB S.2.2.2.2 t_Mo_in ln_Mo lm_Mo_84 hd_Mo_in rfl rfl ⟨Nat.le_of_ble_eq_true rfl, Nat.le_of_ble_eq_true rfl⟩, S.2.2.2.2 _ lt_Mo_in⟩ (u_preP hw.1.2) rfl rfl hl.1 rfl (lv_room (Nat.le_of_ble_eq_true rfl)) d_Mo_claim_21 ⟨Nat.zero_le _, Nat.zero_le _⟩) (fun r H locs hp hw => ?_)
      refine u_top (y := (s_Mo_in a2 (0 : Int32) (3 : Int32))) hp ?_
      refine lv_if_eq (tgt := 31) S.1 S.2.1 d_Mo_claim_24 (by decide) (fun c4 => ?_) (fun c4 => ?_)
      · skip
        refine lv_iconst (v := (0 : Int32)) S.1 S.2.1 d_Mo_claim_31 (by decide) ?_
        refine lv_goto (tgt := 122) S.1 S.2.1 d_Mo_claim_32 (by decide) ?_
        refine lv_istore (lv' := [(4, .int (0 : Int32)), (0, .ref (G.2.1 0)), (1, .int a0), (2, .int a1), (3, .int a2)]) S.1 S.2.1 d_Mo_claim_122 hl (by decide) rfl (fun ls hl => ?_)
        have hs : s_Cm_isAsSaid a0 a1 a2 = (0 : Int32) := by rw [← cg_eq]; unfold s_Mo_cg; simp only [if_pos c1, if_neg c2, if_pos c4]
        refine lv_iload S.1 S.2.1 d_Mo_claim_124 (lv_at hl 0 rfl) ?_
        refine lv_if_ne (tgt := 131) S.1 S.2.1 d_Mo_claim_126 (by decide) (fun c5 => ?_) (fun c5 => ?_)
        · skip
          exact absurd (by decide) c5
        · skip
          refine lv_iconst (v := (-1 : Int32)) S.1 S.2.1 d_Mo_claim_129 (by decide) ?_
          exact u_iret S hr hlk hw ⟨fun _ => ⟨rfl, rfl⟩, fun h => absurd hs h, fun h => absurd hs h⟩ d_Mo_claim_130
      · skip
        refine lv_iconst (v := (1 : Int32)) S.1 S.2.1 d_Mo_claim_27 (by decide) ?_
        refine lv_goto (tgt := 122) S.1 S.2.1 d_Mo_claim_28 (by decide) ?_
        refine lv_istore (lv' := [(4, .int (1 : Int32)), (0, .ref (G.2.1 0)), (1, .int a0), (2, .int a1), (3, .int a2)]) S.1 S.2.1 d_Mo_claim_122 hl (by decide) rfl (fun ls hl => ?_)
        have hs : s_Cm_isAsSaid a0 a1 a2 = (1 : Int32) := by rw [← cg_eq]; unfold s_Mo_cg; simp only [if_pos c1, if_neg c2, if_neg c4]
        refine lv_iload S.1 S.2.1 d_Mo_claim_124 (lv_at hl 0 rfl) ?_
        refine lv_if_ne (tgt := 131) S.1 S.2.1 d_Mo_claim_126 (by decide) (fun c6 => ?_) (fun c6 => ?_)
        · skip
          refine lv_aload_n S.1 S.2.1 d_Mo_claim_131 rfl (lv_at hl 1 rfl) ?_
          refine u_get (v := .int (mem 0 8)) S hw 0 (by decide) rfl rfl in_Mo 8 (by decide) lf_Mo_103 rfl d_Mo_claim_132 ?_
          refine u_top (y := (nI c)) hcc ?_
          refine lv_bipush (v := (6 : Int32)) S.1 S.2.1 d_Mo_claim_135 (by decide) ?_
          refine lv_icmp_ne (tgt := 143) S.1 S.2.1 d_Mo_claim_137 (by decide) (fun c7 => ?_) (fun c7 => ?_)
          · skip
            have h4 : ¬ c = 6 := fun y => c7 (by rw [y]; rfl)
            refine lv_aload_n S.1 S.2.1 d_Mo_claim_143 rfl (lv_at hl 1 rfl) ?_
            refine u_get (v := .ref (G.2.1 5)) S hw 0 (by decide) rfl rfl in_Mo 4 (by decide) lf_Mo_22 rfl d_Mo_claim_144 ?_
            refine lv_aload_n S.1 S.2.1 d_Mo_claim_147 rfl (lv_at hl 1 rfl) ?_
            refine u_get (v := .int (mem 0 8)) S hw 0 (by decide) rfl rfl in_Mo 8 (by decide) lf_Mo_103 rfl d_Mo_claim_148 ?_
            refine u_top (y := (nI c)) hcc ?_
            refine lv_iload_n S.1 S.2.1 d_Mo_claim_151 rfl (lv_at hl 2 rfl) ?_
            refine u_isN S hw 5 0 (by decide) (fun _ => rfl) rfl (j := c) rfl (by omega) (by decide) d_Mo_claim_152 (fun H locs hw => ?_)
            refine lv_aload_n S.1 S.2.1 d_Mo_claim_153 rfl (lv_at hl 1 rfl) ?_
            refine u_get (v := .ref (G.2.1 6)) S hw 0 (by decide) rfl rfl in_Mo 5 (by decide) lf_Mo_25 rfl d_Mo_claim_154 ?_
            refine lv_aload_n S.1 S.2.1 d_Mo_claim_157 rfl (lv_at hl 1 rfl) ?_
            refine u_get (v := .int (mem 0 8)) S hw 0 (by decide) rfl rfl in_Mo 8 (by decide) lf_Mo_103 rfl d_Mo_claim_158 ?_
            refine u_top (y := (nI c)) hcc ?_
            refine lv_iload_n S.1 S.2.1 d_Mo_claim_161 rfl (lv_at hl 3 rfl) ?_
            refine u_isN S hw 6 0 (by decide) (fun _ => rfl) rfl (j := c) rfl (by omega) (by decide) d_Mo_claim_162 (fun H locs hw => ?_)
            refine lv_aload_n S.1 S.2.1 d_Mo_claim_163 rfl (lv_at hl 1 rfl) ?_
            refine u_get (v := .ref (G.2.1 7)) S hw 0 (by decide) rfl rfl in_Mo 6 (by decide) lf_Mo_28 rfl d_Mo_claim_164 ?_
            refine lv_aload_n S.1 S.2.1 d_Mo_claim_167 rfl (lv_at hl 1 rfl) ?_
            refine u_get (v := .int (mem 0 8)) S hw 0 (by decide) rfl rfl in_Mo 8 (by decide) lf_Mo_103 rfl d_Mo_claim_168 ?_
            refine u_top (y := (nI c)) hcc ?_
            refine lv_iload_n S.1 S.2.1 d_Mo_claim_171 rfl (lv_at hl 4 rfl) ?_
            refine u_isN S hw 7 0 (by decide) (fun _ => rfl) rfl (j := c) rfl (by omega) (by decide) d_Mo_claim_172 (fun H locs hw => ?_)
            refine lv_aload_n S.1 S.2.1 d_Mo_claim_173 rfl (lv_at hl 1 rfl) ?_
            refine lv_dup S.1 S.2.1 d_Mo_claim_174 rfl ?_
            refine u_get (v := .int (mem 0 8)) S hw 0 (by decide) rfl rfl in_Mo 8 (by decide) lf_Mo_103 rfl d_Mo_claim_175 ?_
            refine u_top (y := (nI c)) hcc ?_
            refine lv_iconst (v := (1 : Int32)) S.1 S.2.1 d_Mo_claim_178 (by decide) ?_
            refine lv_iadd S.1 S.2.1 d_Mo_claim_179 ?_
            refine u_top (y := (nI (c + 1))) (nI_add c 1) ?_
            refine u_put S hw 0 (by decide) rfl rfl in_Mo ty_Mo tk_Mo nm_Mo 8 (by decide) lf_Mo_103 rfl rfl rfl rfl (Nat.le_of_ble_eq_true rfl) rfl d_Mo_claim_180 (fun H locs hw => ?_)
            refine lv_aload_n S.1 S.2.1 d_Mo_claim_183 rfl (lv_at hl 1 rfl) ?_
            refine u_get (v := .int (nI (c + 1))) S hw 0 (by decide) rfl rfl in_Mo 8 (by decide) lf_Mo_103 rfl d_Mo_claim_184 ?_
            refine lv_iconst (v := (1 : Int32)) S.1 S.2.1 d_Mo_claim_187 (by decide) ?_
            refine lv_isub S.1 S.2.1 d_Mo_claim_188 ?_
            refine u_top (y := (nI c)) (nI_pred c) ?_
            exact u_iret S hr hlk hw ⟨fun h => absurd (hs.symm.trans h) (by decide), fun _ h => absurd h h4, fun _ _ => ⟨rfl, rfl⟩⟩ d_Mo_claim_189
          · skip
            have h4 : c = 6 := (nI_eq (b := 6) (by omega) (by decide)).mp c7
            refine lv_bipush (v := (-3 : Int32)) S.1 S.2.1 d_Mo_claim_140 (by decide) ?_
            exact u_iret S hr hlk hw ⟨fun h => absurd (hs.symm.trans h) (by decide), fun _ _ => ⟨rfl, rfl⟩, fun _ h => absurd h4 h⟩ d_Mo_claim_142
        · skip
          exact absurd c6 (by decide)
  · skip
    refine lv_iload_n S.1 S.2.1 d_Mo_claim_4 rfl (lv_at hl 1 rfl) ?_
    refine lv_iconst (v := (4 : Int32)) S.1 S.2.1 d_Mo_claim_5 (by decide) ?_
    refine lv_icmp_ne (tgt := 35) S.1 S.2.1 d_Mo_claim_6 (by decide) (fun c8 => ?_) (fun c8 => ?_)
    · skip
      refine lv_iload_n S.1 S.2.1 d_Mo_claim_35 rfl (lv_at hl 1 rfl) ?_
      refine lv_iconst (v := (1 : Int32)) S.1 S.2.1 d_Mo_claim_36 (by decide) ?_
      refine lv_icmp_ne (tgt := 67) S.1 S.2.1 d_Mo_claim_37 (by decide) (fun c9 => ?_) (fun c9 => ?_)
      · skip
        refine lv_iload_n S.1 S.2.1 d_Mo_claim_67 rfl (lv_at hl 1 rfl) ?_
        refine lv_iconst (v := (2 : Int32)) S.1 S.2.1 d_Mo_claim_68 (by decide) ?_
        refine lv_icmp_ne (tgt := 103) S.1 S.2.1 d_Mo_claim_69 (by decide) (fun c10 => ?_) (fun c10 => ?_)
        · skip
          refine lv_iload_n S.1 S.2.1 d_Mo_claim_103 rfl (lv_at hl 1 rfl) ?_
          refine lv_iconst (v := (3 : Int32)) S.1 S.2.1 d_Mo_claim_104 (by decide) ?_
          refine lv_icmp_ne (tgt := 121) S.1 S.2.1 d_Mo_claim_105 (by decide) (fun c11 => ?_) (fun c11 => ?_)
          · skip
            refine lv_iconst (v := (0 : Int32)) S.1 S.2.1 d_Mo_claim_121 (by decide) ?_
            refine lv_istore (lv' := [(4, .int (0 : Int32)), (0, .ref (G.2.1 0)), (1, .int a0), (2, .int a1), (3, .int a2)]) S.1 S.2.1 d_Mo_claim_122 hl (by decide) rfl (fun ls hl => ?_)
            have hs : s_Cm_isAsSaid a0 a1 a2 = (0 : Int32) := by rw [← cg_eq]; unfold s_Mo_cg; simp only [if_neg c1, if_neg c8, if_neg c9, if_neg c10, if_neg c11]
            refine lv_iload S.1 S.2.1 d_Mo_claim_124 (lv_at hl 0 rfl) ?_
            refine lv_if_ne (tgt := 131) S.1 S.2.1 d_Mo_claim_126 (by decide) (fun c12 => ?_) (fun c12 => ?_)
            · skip
              exact absurd (by decide) c12
            · skip
              refine lv_iconst (v := (-1 : Int32)) S.1 S.2.1 d_Mo_claim_129 (by decide) ?_
              exact u_iret S hr hlk hw ⟨fun _ => ⟨rfl, rfl⟩, fun h => absurd hs h, fun h => absurd hs h⟩ d_Mo_claim_130
          · skip
            refine lv_iload_n S.1 S.2.1 d_Mo_claim_108 rfl (lv_at hl 2 rfl) ?_
            refine lv_iconst (v := (0 : Int32)) S.1 S.2.1 d_Mo_claim_109 (by decide) ?_
            refine lv_iconst (v := (2 : Int32)) S.1 S.2.1 d_Mo_claim_110 (by decide) ?_
            refine u_callp hw (va_runS (As := [.int a1, .int (0 : Int32), .int (2 : Int32)]) (rest := []) S (c_Mo_in l a1 (0 : Int32) (2 : Int32)) ⟨u_cB S.2.2.2.2 t_Mo_in ln_Mo lm_Mo_84 hd_Mo_in rfl rfl ⟨Nat.le_of_ble_eq_true rfl, Nat.le_of_ble_eq_true rfl⟩, S.2.2.2.2 _ lt_Mo_in⟩ (u_preP hw.1.2) rfl rfl hl.1 rfl (lv_room (Nat.le_of_ble_eq_true rfl)) d_Mo_claim_111 ⟨Nat.zero_le _, Nat.zero_le _⟩) (fun r H locs hp hw => ?_)
            refine u_top (y := (s_Mo_in a1 (0 : Int32) (2 : Int32))) hp ?_
            refine lv_if_eq (tgt := 121) S.1 S.2.1 d_Mo_claim_114 (by decide) (fun c13 => ?_) (fun c13 => ?_)
            · skip
              refine lv_iconst (v := (0 : Int32)) S.1 S.2.1 d_Mo_claim_121 (by decide) ?_
              refine lv_istore (lv' := [(4, .int (0 : Int32)), (0, .ref (G.2.1 0)), (1, .int a0), (2, .int a1), (3, .int a2)]) S.1 S.2.1 d_Mo_claim_122 hl (by decide) rfl (fun ls hl => ?_)
              have hs : s_Cm_isAsSaid a0 a1 a2 = (0 : Int32) := by rw [← cg_eq]; unfold s_Mo_cg; simp only [if_neg c1, if_neg c8, if_neg c9, if_neg c10, if_pos c11, if_pos c13]
              refine lv_iload S.1 S.2.1 d_Mo_claim_124 (lv_at hl 0 rfl) ?_
              refine lv_if_ne (tgt := 131) S.1 S.2.1 d_Mo_claim_126 (by decide) (fun c14 => ?_) (fun c14 => ?_)
              · skip
                exact absurd (by decide) c14
              · skip
                refine lv_iconst (v := (-1 : Int32)) S.1 S.2.1 d_Mo_claim_129 (by decide) ?_
                exact u_iret S hr hlk hw ⟨fun _ => ⟨rfl, rfl⟩, fun h => absurd hs h, fun h => absurd hs h⟩ d_Mo_claim_130
            · skip
              refine lv_iconst (v := (1 : Int32)) S.1 S.2.1 d_Mo_claim_117 (by decide) ?_
              refine lv_goto (tgt := 122) S.1 S.2.1 d_Mo_claim_118 (by decide) ?_
              refine lv_istore (lv' := [(4, .int (1 : Int32)), (0, .ref (G.2.1 0)), (1, .int a0), (2, .int a1), (3, .int a2)]) S.1 S.2.1 d_Mo_claim_122 hl (by decide) rfl (fun ls hl => ?_)
              have hs : s_Cm_isAsSaid a0 a1 a2 = (1 : Int32) := by rw [← cg_eq]; unfold s_Mo_cg; simp only [if_neg c1, if_neg c8, if_neg c9, if_neg c10, if_pos c11, if_neg c13]
              refine lv_iload S.1 S.2.1 d_Mo_claim_124 (lv_at hl 0 rfl) ?_
              refine lv_if_ne (tgt := 131) S.1 S.2.1 d_Mo_claim_126 (by decide) (fun c15 => ?_) (fun c15 => ?_)
              · skip
                refine lv_aload_n S.1 S.2.1 d_Mo_claim_131 rfl (lv_at hl 1 rfl) ?_
                refine u_get (v := .int (mem 0 8)) S hw 0 (by decide) rfl rfl in_Mo 8 (by decide) lf_Mo_103 rfl d_Mo_claim_132 ?_
                refine u_top (y := (nI c)) hcc ?_
                refine lv_bipush (v := (6 : Int32)) S.1 S.2.1 d_Mo_claim_135 (by decide) ?_
                refine lv_icmp_ne (tgt := 143) S.1 S.2.1 d_Mo_claim_137 (by decide) (fun c16 => ?_) (fun c16 => ?_)
                · skip
                  have h4 : ¬ c = 6 := fun y => c16 (by rw [y]; rfl)
                  refine lv_aload_n S.1 S.2.1 d_Mo_claim_143 rfl (lv_at hl 1 rfl) ?_
                  refine u_get (v := .ref (G.2.1 5)) S hw 0 (by decide) rfl rfl in_Mo 4 (by decide) lf_Mo_22 rfl d_Mo_claim_144 ?_
                  refine lv_aload_n S.1 S.2.1 d_Mo_claim_147 rfl (lv_at hl 1 rfl) ?_
                  refine u_get (v := .int (mem 0 8)) S hw 0 (by decide) rfl rfl in_Mo 8 (by decide) lf_Mo_103 rfl d_Mo_claim_148 ?_
                  refine u_top (y := (nI c)) hcc ?_
                  refine lv_iload_n S.1 S.2.1 d_Mo_claim_151 rfl (lv_at hl 2 rfl) ?_
                  refine u_isN S hw 5 0 (by decide) (fun _ => rfl) rfl (j := c) rfl (by omega) (by decide) d_Mo_claim_152 (fun H locs hw => ?_)
                  refine lv_aload_n S.1 S.2.1 d_Mo_claim_153 rfl (lv_at hl 1 rfl) ?_
                  refine u_get (v := .ref (G.2.1 6)) S hw 0 (by decide) rfl rfl in_Mo 5 (by decide) lf_Mo_25 rfl d_Mo_claim_154 ?_
                  refine lv_aload_n S.1 S.2.1 d_Mo_claim_157 rfl (lv_at hl 1 rfl) ?_
                  refine u_get (v := .int (mem 0 8)) S hw 0 (by decide) rfl rfl in_Mo 8 (by decide) lf_Mo_103 rfl d_Mo_claim_158 ?_
                  refine u_top (y := (nI c)) hcc ?_
                  refine lv_iload_n S.1 S.2.1 d_Mo_claim_161 rfl (lv_at hl 3 rfl) ?_
                  refine u_isN S hw 6 0 (by decide) (fun _ => rfl) rfl (j := c) rfl (by omega) (by decide) d_Mo_claim_162 (fun H locs hw => ?_)
                  refine lv_aload_n S.1 S.2.1 d_Mo_claim_163 rfl (lv_at hl 1 rfl) ?_
                  refine u_get (v := .ref (G.2.1 7)) S hw 0 (by decide) rfl rfl in_Mo 6 (by decide) lf_Mo_28 rfl d_Mo_claim_164 ?_
                  refine lv_aload_n S.1 S.2.1 d_Mo_claim_167 rfl (lv_at hl 1 rfl) ?_
                  refine u_get (v := .int (mem 0 8)) S hw 0 (by decide) rfl rfl in_Mo 8 (by decide) lf_Mo_103 rfl d_Mo_claim_168 ?_
                  refine u_top (y := (nI c)) hcc ?_
                  refine lv_iload_n S.1 S.2.1 d_Mo_claim_171 rfl (lv_at hl 4 rfl) ?_
                  refine u_isN S hw 7 0 (by decide) (fun _ => rfl) rfl (j := c) rfl (by omega) (by decide) d_Mo_claim_172 (fun H locs hw => ?_)
                  refine lv_aload_n S.1 S.2.1 d_Mo_claim_173 rfl (lv_at hl 1 rfl) ?_
                  refine lv_dup S.1 S.2.1 d_Mo_claim_174 rfl ?_
                  refine u_get (v := .int (mem 0 8)) S hw 0 (by decide) rfl rfl in_Mo 8 (by decide) lf_Mo_103 rfl d_Mo_claim_175 ?_
                  refine u_top (y := (nI c)) hcc ?_
                  refine lv_iconst (v := (1 : Int32)) S.1 S.2.1 d_Mo_claim_178 (by decide) ?_
                  refine lv_iadd S.1 S.2.1 d_Mo_claim_179 ?_
                  refine u_top (y := (nI (c + 1))) (nI_add c 1) ?_
                  refine u_put S hw 0 (by decide) rfl rfl in_Mo ty_Mo tk_Mo nm_Mo 8 (by decide) lf_Mo_103 rfl rfl rfl rfl (Nat.le_of_ble_eq_true rfl) rfl d_Mo_claim_180 (fun H locs hw => ?_)
                  refine lv_aload_n S.1 S.2.1 d_Mo_claim_183 rfl (lv_at hl 1 rfl) ?_
                  refine u_get (v := .int (nI (c + 1))) S hw 0 (by decide) rfl rfl in_Mo 8 (by decide) lf_Mo_103 rfl d_Mo_claim_184 ?_
                  refine lv_iconst (v := (1 : Int32)) S.1 S.2.1 d_Mo_claim_187 (by decide) ?_
                  refine lv_isub S.1 S.2.1 d_Mo_claim_188 ?_
                  refine u_top (y := (nI c)) (nI_pred c) ?_
                  exact u_iret S hr hlk hw ⟨fun h => absurd (hs.symm.trans h) (by decide), fun _ h => absurd h h4, fun _ _ => ⟨rfl, rfl⟩⟩ d_Mo_claim_189
                · skip
                  have h4 : c = 6 := (nI_eq (b := 6) (by omega) (by decide)).mp c16
                  refine lv_bipush (v := (-3 : Int32)) S.1 S.2.1 d_Mo_claim_140 (by decide) ?_
                  exact u_iret S hr hlk hw ⟨fun h => absurd (hs.symm.trans h) (by decide), fun _ _ => ⟨rfl, rfl⟩, fun _ h => absurd h4 h⟩ d_Mo_claim_142
              · skip
                exact absurd c15 (by decide)
        · skip
          refine lv_iload_n S.1 S.2.1 d_Mo_claim_72 rfl (lv_at hl 2 rfl) ?_
          refine lv_iconst (v := (0 : Int32)) S.1 S.2.1 d_Mo_claim_73 (by decide) ?_
          refine lv_iconst (v := (2 : Int32)) S.1 S.2.1 d_Mo_claim_74 (by decide) ?_
          refine u_callp hw (va_runS (As := [.int a1, .int (0 : Int32), .int (2 : Int32)]) (rest := []) S (c_Mo_in l a1 (0 : Int32) (2 : Int32)) ⟨u_cB S.2.2.2.2 t_Mo_in ln_Mo lm_Mo_84 hd_Mo_in rfl rfl ⟨Nat.le_of_ble_eq_true rfl, Nat.le_of_ble_eq_true rfl⟩, S.2.2.2.2 _ lt_Mo_in⟩ (u_preP hw.1.2) rfl rfl hl.1 rfl (lv_room (Nat.le_of_ble_eq_true rfl)) d_Mo_claim_75 ⟨Nat.zero_le _, Nat.zero_le _⟩) (fun r H locs hp hw => ?_)
          refine u_top (y := (s_Mo_in a1 (0 : Int32) (2 : Int32))) hp ?_
          refine lv_if_eq (tgt := 99) S.1 S.2.1 d_Mo_claim_78 (by decide) (fun c17 => ?_) (fun c17 => ?_)
          · skip
            refine lv_iconst (v := (0 : Int32)) S.1 S.2.1 d_Mo_claim_99 (by decide) ?_
            refine lv_goto (tgt := 122) S.1 S.2.1 d_Mo_claim_100 (by decide) ?_
            refine lv_istore (lv' := [(4, .int (0 : Int32)), (0, .ref (G.2.1 0)), (1, .int a0), (2, .int a1), (3, .int a2)]) S.1 S.2.1 d_Mo_claim_122 hl (by decide) rfl (fun ls hl => ?_)
            have hs : s_Cm_isAsSaid a0 a1 a2 = (0 : Int32) := by rw [← cg_eq]; unfold s_Mo_cg; simp only [if_neg c1, if_neg c8, if_neg c9, if_pos c10, if_pos c17]
            refine lv_iload S.1 S.2.1 d_Mo_claim_124 (lv_at hl 0 rfl) ?_
            refine lv_if_ne (tgt := 131) S.1 S.2.1 d_Mo_claim_126 (by decide) (fun c18 => ?_) (fun c18 => ?_)
            · skip
              exact absurd (by decide) c18
            · skip
              refine lv_iconst (v := (-1 : Int32)) S.1 S.2.1 d_Mo_claim_129 (by decide) ?_
              exact u_iret S hr hlk hw ⟨fun _ => ⟨rfl, rfl⟩, fun h => absurd hs h, fun h => absurd hs h⟩ d_Mo_claim_130
          · skip
            refine lv_iload_n S.1 S.2.1 d_Mo_claim_81 rfl (lv_at hl 3 rfl) ?_
            refine lv_iconst (v := (0 : Int32)) S.1 S.2.1 d_Mo_claim_82 (by decide) ?_
            refine lv_iconst (v := (2 : Int32)) S.1 S.2.1 d_Mo_claim_83 (by decide) ?_
            refine u_callp hw (va_runS (As := [.int a2, .int (0 : Int32), .int (2 : Int32)]) (rest := []) S (c_Mo_in l a2 (0 : Int32) (2 : Int32)) ⟨u_cB S.2.2.2.2 t_Mo_in ln_Mo lm_Mo_84 hd_Mo_in rfl rfl ⟨Nat.le_of_ble_eq_true rfl, Nat.le_of_ble_eq_true rfl⟩, S.2.2.2.2 _ lt_Mo_in⟩ (u_preP hw.1.2) rfl rfl hl.1 rfl (lv_room (Nat.le_of_ble_eq_true rfl)) d_Mo_claim_84 ⟨Nat.zero_le _, Nat.zero_le _⟩) (fun r H locs hp hw => ?_)
            refine u_top (y := (s_Mo_in a2 (0 : Int32) (2 : Int32))) hp ?_
            refine lv_if_eq (tgt := 99) S.1 S.2.1 d_Mo_claim_87 (by decide) (fun c19 => ?_) (fun c19 => ?_)
            · skip
              refine lv_iconst (v := (0 : Int32)) S.1 S.2.1 d_Mo_claim_99 (by decide) ?_
              refine lv_goto (tgt := 122) S.1 S.2.1 d_Mo_claim_100 (by decide) ?_
              refine lv_istore (lv' := [(4, .int (0 : Int32)), (0, .ref (G.2.1 0)), (1, .int a0), (2, .int a1), (3, .int a2)]) S.1 S.2.1 d_Mo_claim_122 hl (by decide) rfl (fun ls hl => ?_)
              have hs : s_Cm_isAsSaid a0 a1 a2 = (0 : Int32) := by rw [← cg_eq]; unfold s_Mo_cg; simp only [if_neg c1, if_neg c8, if_neg c9, if_pos c10, if_neg c17, if_pos c19]
              refine lv_iload S.1 S.2.1 d_Mo_claim_124 (lv_at hl 0 rfl) ?_
              refine lv_if_ne (tgt := 131) S.1 S.2.1 d_Mo_claim_126 (by decide) (fun c20 => ?_) (fun c20 => ?_)
              · skip
                exact absurd (by decide) c20
              · skip
                refine lv_iconst (v := (-1 : Int32)) S.1 S.2.1 d_Mo_claim_129 (by decide) ?_
                exact u_iret S hr hlk hw ⟨fun _ => ⟨rfl, rfl⟩, fun h => absurd hs h, fun h => absurd hs h⟩ d_Mo_claim_130
            · skip
              refine lv_iload_n S.1 S.2.1 d_Mo_claim_90 rfl (lv_at hl 2 rfl) ?_
              refine lv_iload_n S.1 S.2.1 d_Mo_claim_91 rfl (lv_at hl 3 rfl) ?_
              refine lv_icmp_eq (tgt := 99) S.1 S.2.1 d_Mo_claim_92 (by decide) (fun c21 => ?_) (fun c21 => ?_)
              · skip
                refine lv_iconst (v := (0 : Int32)) S.1 S.2.1 d_Mo_claim_99 (by decide) ?_
                refine lv_goto (tgt := 122) S.1 S.2.1 d_Mo_claim_100 (by decide) ?_
                refine lv_istore (lv' := [(4, .int (0 : Int32)), (0, .ref (G.2.1 0)), (1, .int a0), (2, .int a1), (3, .int a2)]) S.1 S.2.1 d_Mo_claim_122 hl (by decide) rfl (fun ls hl => ?_)
                have hs : s_Cm_isAsSaid a0 a1 a2 = (0 : Int32) := by rw [← cg_eq]; unfold s_Mo_cg; simp only [if_neg c1, if_neg c8, if_neg c9, if_pos c10, if_neg c17, if_neg c19, if_pos c21]
                refine lv_iload S.1 S.2.1 d_Mo_claim_124 (lv_at hl 0 rfl) ?_
                refine lv_if_ne (tgt := 131) S.1 S.2.1 d_Mo_claim_126 (by decide) (fun c22 => ?_) (fun c22 => ?_)
                · skip
                  exact absurd (by decide) c22
                · skip
                  refine lv_iconst (v := (-1 : Int32)) S.1 S.2.1 d_Mo_claim_129 (by decide) ?_
                  exact u_iret S hr hlk hw ⟨fun _ => ⟨rfl, rfl⟩, fun h => absurd hs h, fun h => absurd hs h⟩ d_Mo_claim_130
              · skip
                refine lv_iconst (v := (1 : Int32)) S.1 S.2.1 d_Mo_claim_95 (by decide) ?_
                refine lv_goto (tgt := 122) S.1 S.2.1 d_Mo_claim_96 (by decide) ?_
                refine lv_istore (lv' := [(4, .int (1 : Int32)), (0, .ref (G.2.1 0)), (1, .int a0), (2, .int a1), (3, .int a2)]) S.1 S.2.1 d_Mo_claim_122 hl (by decide) rfl (fun ls hl => ?_)
                have hs : s_Cm_isAsSaid a0 a1 a2 = (1 : Int32) := by rw [← cg_eq]; unfold s_Mo_cg; simp only [if_neg c1, if_neg c8, if_neg c9, if_pos c10, if_neg c17, if_neg c19, if_neg c21]
                refine lv_iload S.1 S.2.1 d_Mo_claim_124 (lv_at hl 0 rfl) ?_
                refine lv_if_ne (tgt := 131) S.1 S.2.1 d_Mo_claim_126 (by decide) (fun c23 => ?_) (fun c23 => ?_)
                · skip
                  refine lv_aload_n S.1 S.2.1 d_Mo_claim_131 rfl (lv_at hl 1 rfl) ?_
                  refine u_get (v := .int (mem 0 8)) S hw 0 (by decide) rfl rfl in_Mo 8 (by decide) lf_Mo_103 rfl d_Mo_claim_132 ?_
                  refine u_top (y := (nI c)) hcc ?_
                  refine lv_bipush (v := (6 : Int32)) S.1 S.2.1 d_Mo_claim_135 (by decide) ?_
                  refine lv_icmp_ne (tgt := 143) S.1 S.2.1 d_Mo_claim_137 (by decide) (fun c24 => ?_) (fun c24 => ?_)
                  · skip
                    have h4 : ¬ c = 6 := fun y => c24 (by rw [y]; rfl)
                    refine lv_aload_n S.1 S.2.1 d_Mo_claim_143 rfl (lv_at hl 1 rfl) ?_
                    refine u_get (v := .ref (G.2.1 5)) S hw 0 (by decide) rfl rfl in_Mo 4 (by decide) lf_Mo_22 rfl d_Mo_claim_144 ?_
                    refine lv_aload_n S.1 S.2.1 d_Mo_claim_147 rfl (lv_at hl 1 rfl) ?_
                    refine u_get (v := .int (mem 0 8)) S hw 0 (by decide) rfl rfl in_Mo 8 (by decide) lf_Mo_103 rfl d_Mo_claim_148 ?_
                    refine u_top (y := (nI c)) hcc ?_
                    refine lv_iload_n S.1 S.2.1 d_Mo_claim_151 rfl (lv_at hl 2 rfl) ?_
                    refine u_isN S hw 5 0 (by decide) (fun _ => rfl) rfl (j := c) rfl (by omega) (by decide) d_Mo_claim_152 (fun H locs hw => ?_)
                    refine lv_aload_n S.1 S.2.1 d_Mo_claim_153 rfl (lv_at hl 1 rfl) ?_
                    refine u_get (v := .ref (G.2.1 6)) S hw 0 (by decide) rfl rfl in_Mo 5 (by decide) lf_Mo_25 rfl d_Mo_claim_154 ?_
                    refine lv_aload_n S.1 S.2.1 d_Mo_claim_157 rfl (lv_at hl 1 rfl) ?_
                    refine u_get (v := .int (mem 0 8)) S hw 0 (by decide) rfl rfl in_Mo 8 (by decide) lf_Mo_103 rfl d_Mo_claim_158 ?_
                    refine u_top (y := (nI c)) hcc ?_
                    refine lv_iload_n S.1 S.2.1 d_Mo_claim_161 rfl (lv_at hl 3 rfl) ?_
                    refine u_isN S hw 6 0 (by decide) (fun _ => rfl) rfl (j := c) rfl (by omega) (by decide) d_Mo_claim_162 (fun H locs hw => ?_)
                    refine lv_aload_n S.1 S.2.1 d_Mo_claim_163 rfl (lv_at hl 1 rfl) ?_
                    refine u_get (v := .ref (G.2.1 7)) S hw 0 (by decide) rfl rfl in_Mo 6 (by decide) lf_Mo_28 rfl d_Mo_claim_164 ?_
                    refine lv_aload_n S.1 S.2.1 d_Mo_claim_167 rfl (lv_at hl 1 rfl) ?_
                    refine u_get (v := .int (mem 0 8)) S hw 0 (by decide) rfl rfl in_Mo 8 (by decide) lf_Mo_103 rfl d_Mo_claim_168 ?_
                    refine u_top (y := (nI c)) hcc ?_
                    refine lv_iload_n S.1 S.2.1 d_Mo_claim_171 rfl (lv_at hl 4 rfl) ?_
                    refine u_isN S hw 7 0 (by decide) (fun _ => rfl) rfl (j := c) rfl (by omega) (by decide) d_Mo_claim_172 (fun H locs hw => ?_)
                    refine lv_aload_n S.1 S.2.1 d_Mo_claim_173 rfl (lv_at hl 1 rfl) ?_
                    refine lv_dup S.1 S.2.1 d_Mo_claim_174 rfl ?_
                    refine u_get (v := .int (mem 0 8)) S hw 0 (by decide) rfl rfl in_Mo 8 (by decide) lf_Mo_103 rfl d_Mo_claim_175 ?_
                    refine u_top (y := (nI c)) hcc ?_
                    refine lv_iconst (v := (1 : Int32)) S.1 S.2.1 d_Mo_claim_178 (by decide) ?_
                    refine lv_iadd S.1 S.2.1 d_Mo_claim_179 ?_
                    refine u_top (y := (nI (c + 1))) (nI_add c 1) ?_
                    refine u_put S hw 0 (by decide) rfl rfl in_Mo ty_Mo tk_Mo nm_Mo 8 (by decide) lf_Mo_103 rfl rfl rfl rfl (Nat.le_of_ble_eq_true rfl) rfl d_Mo_claim_180 (fun H locs hw => ?_)
                    refine lv_aload_n S.1 S.2.1 d_Mo_claim_183 rfl (lv_at hl 1 rfl) ?_
                    refine u_get (v := .int (nI (c + 1))) S hw 0 (by decide) rfl rfl in_Mo 8 (by decide) lf_Mo_103 rfl d_Mo_claim_184 ?_
                    refine lv_iconst (v := (1 : Int32)) S.1 S.2.1 d_Mo_claim_187 (by decide) ?_
                    refine lv_isub S.1 S.2.1 d_Mo_claim_188 ?_
                    refine u_top (y := (nI c)) (nI_pred c) ?_
                    exact u_iret S hr hlk hw ⟨fun h => absurd (hs.symm.trans h) (by decide), fun _ h => absurd h h4, fun _ _ => ⟨rfl, rfl⟩⟩ d_Mo_claim_189
                  · skip
                    have h4 : c = 6 := (nI_eq (b := 6) (by omega) (by decide)).mp c24
                    refine lv_bipush (v := (-3 : Int32)) S.1 S.2.1 d_Mo_claim_140 (by decide) ?_
                    exact u_iret S hr hlk hw ⟨fun h => absurd (hs.symm.trans h) (by decide), fun _ _ => ⟨rfl, rfl⟩, fun _ h => absurd h4 h⟩ d_Mo_claim_142
                · skip
                  exact absurd c23 (by decide)
      · skip
        refine lv_iload_n S.1 S.2.1 d_Mo_claim_40 rfl (lv_at hl 2 rfl) ?_
        refine lv_iconst (v := (0 : Int32)) S.1 S.2.1 d_Mo_claim_41 (by decide) ?_
        refine lv_iconst (v := (2 : Int32)) S.1 S.2.1 d_Mo_claim_42 (by decide) ?_
        refine u_callp hw (va_runS (As := [.int a1, .int (0 : Int32), .int (2 : Int32)]) (rest := []) S (c_Mo_in l a1 (0 : Int32) (2 : Int32)) ⟨u_cB S.2.2.2.2 t_Mo_in ln_Mo lm_Mo_84 hd_Mo_in rfl rfl ⟨Nat.le_of_ble_eq_true rfl, Nat.le_of_ble_eq_true rfl⟩, S.2.2.2.2 _ lt_Mo_in⟩ (u_preP hw.1.2) rfl rfl hl.1 rfl (lv_room (Nat.le_of_ble_eq_true rfl)) d_Mo_claim_43 ⟨Nat.zero_le _, Nat.zero_le _⟩) (fun r H locs hp hw => ?_)
        refine u_top (y := (s_Mo_in a1 (0 : Int32) (2 : Int32))) hp ?_
        refine lv_if_eq (tgt := 63) S.1 S.2.1 d_Mo_claim_46 (by decide) (fun c25 => ?_) (fun c25 => ?_)
        · skip
          refine lv_iconst (v := (0 : Int32)) S.1 S.2.1 d_Mo_claim_63 (by decide) ?_
          refine lv_goto (tgt := 122) S.1 S.2.1 d_Mo_claim_64 (by decide) ?_
          refine lv_istore (lv' := [(4, .int (0 : Int32)), (0, .ref (G.2.1 0)), (1, .int a0), (2, .int a1), (3, .int a2)]) S.1 S.2.1 d_Mo_claim_122 hl (by decide) rfl (fun ls hl => ?_)
          have hs : s_Cm_isAsSaid a0 a1 a2 = (0 : Int32) := by rw [← cg_eq]; unfold s_Mo_cg; simp only [if_neg c1, if_neg c8, if_pos c9, if_pos c25]
          refine lv_iload S.1 S.2.1 d_Mo_claim_124 (lv_at hl 0 rfl) ?_
          refine lv_if_ne (tgt := 131) S.1 S.2.1 d_Mo_claim_126 (by decide) (fun c26 => ?_) (fun c26 => ?_)
          · skip
            exact absurd (by decide) c26
          · skip
            refine lv_iconst (v := (-1 : Int32)) S.1 S.2.1 d_Mo_claim_129 (by decide) ?_
            exact u_iret S hr hlk hw ⟨fun _ => ⟨rfl, rfl⟩, fun h => absurd hs h, fun h => absurd hs h⟩ d_Mo_claim_130
        · skip
          refine lv_iload_n S.1 S.2.1 d_Mo_claim_49 rfl (lv_at hl 3 rfl) ?_
          refine lv_iconst (v := (0 : Int32)) S.1 S.2.1 d_Mo_claim_50 (by decide) ?_
          refine lv_bipush (v := (7 : Int32)) S.1 S.2.1 d_Mo_claim_51 (by decide) ?_
          refine u_callp hw (va_runS (As := [.int a2, .int (0 : Int32), .int (7 : Int32)]) (rest := []) S (c_Mo_in l a2 (0 : Int32) (7 : Int32)) ⟨u_cB S.2.2.2.2 t_Mo_in ln_Mo lm_Mo_84 hd_Mo_in rfl rfl ⟨Nat.le_of_ble_eq_true rfl, Nat.le_of_ble_eq_true rfl⟩, S.2.2.2.2 _ lt_Mo_in⟩ (u_preP hw.1.2) rfl rfl hl.1 rfl (lv_room (Nat.le_of_ble_eq_true rfl)) d_Mo_claim_53 ⟨Nat.zero_le _, Nat.zero_le _⟩) (fun r H locs hp hw => ?_)
          refine u_top (y := (s_Mo_in a2 (0 : Int32) (7 : Int32))) hp ?_
          refine lv_if_eq (tgt := 63) S.1 S.2.1 d_Mo_claim_56 (by decide) (fun c27 => ?_) (fun c27 => ?_)
          · skip
            refine lv_iconst (v := (0 : Int32)) S.1 S.2.1 d_Mo_claim_63 (by decide) ?_
            refine lv_goto (tgt := 122) S.1 S.2.1 d_Mo_claim_64 (by decide) ?_
            refine lv_istore (lv' := [(4, .int (0 : Int32)), (0, .ref (G.2.1 0)), (1, .int a0), (2, .int a1), (3, .int a2)]) S.1 S.2.1 d_Mo_claim_122 hl (by decide) rfl (fun ls hl => ?_)
            have hs : s_Cm_isAsSaid a0 a1 a2 = (0 : Int32) := by rw [← cg_eq]; unfold s_Mo_cg; simp only [if_neg c1, if_neg c8, if_pos c9, if_neg c25, if_pos c27]
            refine lv_iload S.1 S.2.1 d_Mo_claim_124 (lv_at hl 0 rfl) ?_
            refine lv_if_ne (tgt := 131) S.1 S.2.1 d_Mo_claim_126 (by decide) (fun c28 => ?_) (fun c28 => ?_)
            · skip
              exact absurd (by decide) c28
            · skip
              refine lv_iconst (v := (-1 : Int32)) S.1 S.2.1 d_Mo_claim_129 (by decide) ?_
              exact u_iret S hr hlk hw ⟨fun _ => ⟨rfl, rfl⟩, fun h => absurd hs h, fun h => absurd hs h⟩ d_Mo_claim_130
          · skip
            refine lv_iconst (v := (1 : Int32)) S.1 S.2.1 d_Mo_claim_59 (by decide) ?_
            refine lv_goto (tgt := 122) S.1 S.2.1 d_Mo_claim_60 (by decide) ?_
            refine lv_istore (lv' := [(4, .int (1 : Int32)), (0, .ref (G.2.1 0)), (1, .int a0), (2, .int a1), (3, .int a2)]) S.1 S.2.1 d_Mo_claim_122 hl (by decide) rfl (fun ls hl => ?_)
            have hs : s_Cm_isAsSaid a0 a1 a2 = (1 : Int32) := by rw [← cg_eq]; unfold s_Mo_cg; simp only [if_neg c1, if_neg c8, if_pos c9, if_neg c25, if_neg c27]
            refine lv_iload S.1 S.2.1 d_Mo_claim_124 (lv_at hl 0 rfl) ?_
            refine lv_if_ne (tgt := 131) S.1 S.2.1 d_Mo_claim_126 (by decide) (fun c29 => ?_) (fun c29 => ?_)
            · skip
              refine lv_aload_n S.1 S.2.1 d_Mo_claim_131 rfl (lv_at hl 1 rfl) ?_
              refine u_get (v := .int (mem 0 8)) S hw 0 (by decide) rfl rfl in_Mo 8 (by decide) lf_Mo_103 rfl d_Mo_claim_132 ?_
              refine u_top (y := (nI c)) hcc ?_
              refine lv_bipush (v := (6 : Int32)) S.1 S.2.1 d_Mo_claim_135 (by decide) ?_
              refine lv_icmp_ne (tgt := 143) S.1 S.2.1 d_Mo_claim_137 (by decide) (fun c30 => ?_) (fun c30 => ?_)
              · skip
                have h4 : ¬ c = 6 := fun y => c30 (by rw [y]; rfl)
                refine lv_aload_n S.1 S.2.1 d_Mo_claim_143 rfl (lv_at hl 1 rfl) ?_
                refine u_get (v := .ref (G.2.1 5)) S hw 0 (by decide) rfl rfl in_Mo 4 (by decide) lf_Mo_22 rfl d_Mo_claim_144 ?_
                refine lv_aload_n S.1 S.2.1 d_Mo_claim_147 rfl (lv_at hl 1 rfl) ?_
                refine u_get (v := .int (mem 0 8)) S hw 0 (by decide) rfl rfl in_Mo 8 (by decide) lf_Mo_103 rfl d_Mo_claim_148 ?_
                refine u_top (y := (nI c)) hcc ?_
                refine lv_iload_n S.1 S.2.1 d_Mo_claim_151 rfl (lv_at hl 2 rfl) ?_
                refine u_isN S hw 5 0 (by decide) (fun _ => rfl) rfl (j := c) rfl (by omega) (by decide) d_Mo_claim_152 (fun H locs hw => ?_)
                refine lv_aload_n S.1 S.2.1 d_Mo_claim_153 rfl (lv_at hl 1 rfl) ?_
                refine u_get (v := .ref (G.2.1 6)) S hw 0 (by decide) rfl rfl in_Mo 5 (by decide) lf_Mo_25 rfl d_Mo_claim_154 ?_
                refine lv_aload_n S.1 S.2.1 d_Mo_claim_157 rfl (lv_at hl 1 rfl) ?_
                refine u_get (v := .int (mem 0 8)) S hw 0 (by decide) rfl rfl in_Mo 8 (by decide) lf_Mo_103 rfl d_Mo_claim_158 ?_
                refine u_top (y := (nI c)) hcc ?_
                refine lv_iload_n S.1 S.2.1 d_Mo_claim_161 rfl (lv_at hl 3 rfl) ?_
                refine u_isN S hw 6 0 (by decide) (fun _ => rfl) rfl (j := c) rfl (by omega) (by decide) d_Mo_claim_162 (fun H locs hw => ?_)
                refine lv_aload_n S.1 S.2.1 d_Mo_claim_163 rfl (lv_at hl 1 rfl) ?_
                refine u_get (v := .ref (G.2.1 7)) S hw 0 (by decide) rfl rfl in_Mo 6 (by decide) lf_Mo_28 rfl d_Mo_claim_164 ?_
                refine lv_aload_n S.1 S.2.1 d_Mo_claim_167 rfl (lv_at hl 1 rfl) ?_
                refine u_get (v := .int (mem 0 8)) S hw 0 (by decide) rfl rfl in_Mo 8 (by decide) lf_Mo_103 rfl d_Mo_claim_168 ?_
                refine u_top (y := (nI c)) hcc ?_
                refine lv_iload_n S.1 S.2.1 d_Mo_claim_171 rfl (lv_at hl 4 rfl) ?_
                refine u_isN S hw 7 0 (by decide) (fun _ => rfl) rfl (j := c) rfl (by omega) (by decide) d_Mo_claim_172 (fun H locs hw => ?_)
                refine lv_aload_n S.1 S.2.1 d_Mo_claim_173 rfl (lv_at hl 1 rfl) ?_
                refine lv_dup S.1 S.2.1 d_Mo_claim_174 rfl ?_
                refine u_get (v := .int (mem 0 8)) S hw 0 (by decide) rfl rfl in_Mo 8 (by decide) lf_Mo_103 rfl d_Mo_claim_175 ?_
                refine u_top (y := (nI c)) hcc ?_
                refine lv_iconst (v := (1 : Int32)) S.1 S.2.1 d_Mo_claim_178 (by decide) ?_
                refine lv_iadd S.1 S.2.1 d_Mo_claim_179 ?_
                refine u_top (y := (nI (c + 1))) (nI_add c 1) ?_
                refine u_put S hw 0 (by decide) rfl rfl in_Mo ty_Mo tk_Mo nm_Mo 8 (by decide) lf_Mo_103 rfl rfl rfl rfl (Nat.le_of_ble_eq_true rfl) rfl d_Mo_claim_180 (fun H locs hw => ?_)
                refine lv_aload_n S.1 S.2.1 d_Mo_claim_183 rfl (lv_at hl 1 rfl) ?_
                refine u_get (v := .int (nI (c + 1))) S hw 0 (by decide) rfl rfl in_Mo 8 (by decide) lf_Mo_103 rfl d_Mo_claim_184 ?_
                refine lv_iconst (v := (1 : Int32)) S.1 S.2.1 d_Mo_claim_187 (by decide) ?_
                refine lv_isub S.1 S.2.1 d_Mo_claim_188 ?_
                refine u_top (y := (nI c)) (nI_pred c) ?_
                exact u_iret S hr hlk hw ⟨fun h => absurd (hs.symm.trans h) (by decide), fun _ h => absurd h h4, fun _ _ => ⟨rfl, rfl⟩⟩ d_Mo_claim_189
              · skip
                have h4 : c = 6 := (nI_eq (b := 6) (by omega) (by decide)).mp c30
                refine lv_bipush (v := (-3 : Int32)) S.1 S.2.1 d_Mo_claim_140 (by decide) ?_
                exact u_iret S hr hlk hw ⟨fun h => absurd (hs.symm.trans h) (by decide), fun _ _ => ⟨rfl, rfl⟩, fun _ h => absurd h4 h⟩ d_Mo_claim_142
            · skip
              exact absurd c29 (by decide)
    · skip
      refine lv_iload_n S.1 S.2.1 d_Mo_claim_9 rfl (lv_at hl 2 rfl) ?_
      refine lv_iconst (v := (0 : Int32)) S.1 S.2.1 d_Mo_claim_10 (by decide) ?_
      refine lv_iconst (v := (3 : Int32)) S.1 S.2.1 d_Mo_claim_11 (by decide) ?_
      refine u_callp hw (va_runS (As := [.int a1, .int (0 : Int32), .int (3 : Int32)]) (rest := []) S (c_Mo_in l a1 (0 : Int32) (3 : Int32)) ⟨u_cB S.2.2.2.2 t_Mo_in ln_Mo lm_Mo_84 hd_Mo_in rfl rfl ⟨Nat.le_of_ble_eq_true rfl, Nat.le_of_ble_eq_true rfl⟩, S.2.2.2.2 _ lt_Mo_in⟩ (u_preP hw.1.2) rfl rfl hl.1 rfl (lv_room (Nat.le_of_ble_eq_true rfl)) d_Mo_claim_12 ⟨Nat.zero_le _, Nat.zero_le _⟩) (fun r H locs hp hw => ?_)
      refine u_top (y := (s_Mo_in a1 (0 : Int32) (3 : Int32))) hp ?_
      refine lv_if_eq (tgt := 31) S.1 S.2.1 d_Mo_claim_15 (by decide) (fun c31 => ?_) (fun c31 => ?_)
      · skip
        refine lv_iconst (v := (0 : Int32)) S.1 S.2.1 d_Mo_claim_31 (by decide) ?_
        refine lv_goto (tgt := 122) S.1 S.2.1 d_Mo_claim_32 (by decide) ?_
        refine lv_istore (lv' := [(4, .int (0 : Int32)), (0, .ref (G.2.1 0)), (1, .int a0), (2, .int a1), (3, .int a2)]) S.1 S.2.1 d_Mo_claim_122 hl (by decide) rfl (fun ls hl => ?_)
        have hs : s_Cm_isAsSaid a0 a1 a2 = (0 : Int32) := by rw [← cg_eq]; unfold s_Mo_cg; simp only [if_neg c1, if_pos c8, if_pos c31]
        refine lv_iload S.1 S.2.1 d_Mo_claim_124 (lv_at hl 0 rfl) ?_
        refine lv_if_ne (tgt := 131) S.1 S.2.1 d_Mo_claim_126 (by decide) (fun c32 => ?_) (fun c32 => ?_)
        · skip
          exact absurd (by decide) c32
        · skip
          refine lv_iconst (v := (-1 : Int32)) S.1 S.2.1 d_Mo_claim_129 (by decide) ?_
          exact u_iret S hr hlk hw ⟨fun _ => ⟨rfl, rfl⟩, fun h => absurd hs h, fun h => absurd hs h⟩ d_Mo_claim_130
      · skip
        refine lv_iload_n S.1 S.2.1 d_Mo_claim_18 rfl (lv_at hl 3 rfl) ?_
        refine lv_iconst (v := (0 : Int32)) S.1 S.2.1 d_Mo_claim_19 (by decide) ?_
        refine lv_iconst (v := (3 : Int32)) S.1 S.2.1 d_Mo_claim_20 (by decide) ?_
        refine u_callp hw (va_runS (As := [.int a2, .int (0 : Int32), .int (3 : Int32)]) (rest := []) S (c_Mo_in l a2 (0 : Int32) (3 : Int32)) ⟨u_cB S.2.2.2.2 t_Mo_in ln_Mo lm_Mo_84 hd_Mo_in rfl rfl ⟨Nat.le_of_ble_eq_true rfl, Nat.le_of_ble_eq_true rfl⟩, S.2.2.2.2 _ lt_Mo_in⟩ (u_preP hw.1.2) rfl rfl hl.1 rfl (lv_room (Nat.le_of_ble_eq_true rfl)) d_Mo_claim_21 ⟨Nat.zero_le _, Nat.zero_le _⟩) (fun r H locs hp hw => ?_)
        refine u_top (y := (s_Mo_in a2 (0 : Int32) (3 : Int32))) hp ?_
        refine lv_if_eq (tgt := 31) S.1 S.2.1 d_Mo_claim_24 (by decide) (fun c33 => ?_) (fun c33 => ?_)
        · skip
          refine lv_iconst (v := (0 : Int32)) S.1 S.2.1 d_Mo_claim_31 (by decide) ?_
          refine lv_goto (tgt := 122) S.1 S.2.1 d_Mo_claim_32 (by decide) ?_
          refine lv_istore (lv' := [(4, .int (0 : Int32)), (0, .ref (G.2.1 0)), (1, .int a0), (2, .int a1), (3, .int a2)]) S.1 S.2.1 d_Mo_claim_122 hl (by decide) rfl (fun ls hl => ?_)
          have hs : s_Cm_isAsSaid a0 a1 a2 = (0 : Int32) := by rw [← cg_eq]; unfold s_Mo_cg; simp only [if_neg c1, if_pos c8, if_neg c31, if_pos c33]
          refine lv_iload S.1 S.2.1 d_Mo_claim_124 (lv_at hl 0 rfl) ?_
          refine lv_if_ne (tgt := 131) S.1 S.2.1 d_Mo_claim_126 (by decide) (fun c34 => ?_) (fun c34 => ?_)
          · skip
            exact absurd (by decide) c34
          · skip
            refine lv_iconst (v := (-1 : Int32)) S.1 S.2.1 d_Mo_claim_129 (by decide) ?_
            exact u_iret S hr hlk hw ⟨fun _ => ⟨rfl, rfl⟩, fun h => absurd hs h, fun h => absurd hs h⟩ d_Mo_claim_130
        · skip
          refine lv_iconst (v := (1 : Int32)) S.1 S.2.1 d_Mo_claim_27 (by decide) ?_
          refine lv_goto (tgt := 122) S.1 S.2.1 d_Mo_claim_28 (by decide) ?_
          refine lv_istore (lv' := [(4, .int (1 : Int32)), (0, .ref (G.2.1 0)), (1, .int a0), (2, .int a1), (3, .int a2)]) S.1 S.2.1 d_Mo_claim_122 hl (by decide) rfl (fun ls hl => ?_)
          have hs : s_Cm_isAsSaid a0 a1 a2 = (1 : Int32) := by rw [← cg_eq]; unfold s_Mo_cg; simp only [if_neg c1, if_pos c8, if_neg c31, if_neg c33]
          refine lv_iload S.1 S.2.1 d_Mo_claim_124 (lv_at hl 0 rfl) ?_
          refine lv_if_ne (tgt := 131) S.1 S.2.1 d_Mo_claim_126 (by decide) (fun c35 => ?_) (fun c35 => ?_)
          · skip
            refine lv_aload_n S.1 S.2.1 d_Mo_claim_131 rfl (lv_at hl 1 rfl) ?_
            refine u_get (v := .int (mem 0 8)) S hw 0 (by decide) rfl rfl in_Mo 8 (by decide) lf_Mo_103 rfl d_Mo_claim_132 ?_
            refine u_top (y := (nI c)) hcc ?_
            refine lv_bipush (v := (6 : Int32)) S.1 S.2.1 d_Mo_claim_135 (by decide) ?_
            refine lv_icmp_ne (tgt := 143) S.1 S.2.1 d_Mo_claim_137 (by decide) (fun c36 => ?_) (fun c36 => ?_)
            · skip
              have h4 : ¬ c = 6 := fun y => c36 (by rw [y]; rfl)
              refine lv_aload_n S.1 S.2.1 d_Mo_claim_143 rfl (lv_at hl 1 rfl) ?_
              refine u_get (v := .ref (G.2.1 5)) S hw 0 (by decide) rfl rfl in_Mo 4 (by decide) lf_Mo_22 rfl d_Mo_claim_144 ?_
              refine lv_aload_n S.1 S.2.1 d_Mo_claim_147 rfl (lv_at hl 1 rfl) ?_
              refine u_get (v := .int (mem 0 8)) S hw 0 (by decide) rfl rfl in_Mo 8 (by decide) lf_Mo_103 rfl d_Mo_claim_148 ?_
              refine u_top (y := (nI c)) hcc ?_
              refine lv_iload_n S.1 S.2.1 d_Mo_claim_151 rfl (lv_at hl 2 rfl) ?_
              refine u_isN S hw 5 0 (by decide) (fun _ => rfl) rfl (j := c) rfl (by omega) (by decide) d_Mo_claim_152 (fun H locs hw => ?_)
              refine lv_aload_n S.1 S.2.1 d_Mo_claim_153 rfl (lv_at hl 1 rfl) ?_
              refine u_get (v := .ref (G.2.1 6)) S hw 0 (by decide) rfl rfl in_Mo 5 (by decide) lf_Mo_25 rfl d_Mo_claim_154 ?_
              refine lv_aload_n S.1 S.2.1 d_Mo_claim_157 rfl (lv_at hl 1 rfl) ?_
              refine u_get (v := .int (mem 0 8)) S hw 0 (by decide) rfl rfl in_Mo 8 (by decide) lf_Mo_103 rfl d_Mo_claim_158 ?_
              refine u_top (y := (nI c)) hcc ?_
              refine lv_iload_n S.1 S.2.1 d_Mo_claim_161 rfl (lv_at hl 3 rfl) ?_
              refine u_isN S hw 6 0 (by decide) (fun _ => rfl) rfl (j := c) rfl (by omega) (by decide) d_Mo_claim_162 (fun H locs hw => ?_)
              refine lv_aload_n S.1 S.2.1 d_Mo_claim_163 rfl (lv_at hl 1 rfl) ?_
              refine u_get (v := .ref (G.2.1 7)) S hw 0 (by decide) rfl rfl in_Mo 6 (by decide) lf_Mo_28 rfl d_Mo_claim_164 ?_
              refine lv_aload_n S.1 S.2.1 d_Mo_claim_167 rfl (lv_at hl 1 rfl) ?_
              refine u_get (v := .int (mem 0 8)) S hw 0 (by decide) rfl rfl in_Mo 8 (by decide) lf_Mo_103 rfl d_Mo_claim_168 ?_
              refine u_top (y := (nI c)) hcc ?_
              refine lv_iload_n S.1 S.2.1 d_Mo_claim_171 rfl (lv_at hl 4 rfl) ?_
              refine u_isN S hw 7 0 (by decide) (fun _ => rfl) rfl (j := c) rfl (by omega) (by decide) d_Mo_claim_172 (fun H locs hw => ?_)
              refine lv_aload_n S.1 S.2.1 d_Mo_claim_173 rfl (lv_at hl 1 rfl) ?_
              refine lv_dup S.1 S.2.1 d_Mo_claim_174 rfl ?_
              refine u_get (v := .int (mem 0 8)) S hw 0 (by decide) rfl rfl in_Mo 8 (by decide) lf_Mo_103 rfl d_Mo_claim_175 ?_
              refine u_top (y := (nI c)) hcc ?_
              refine lv_iconst (v := (1 : Int32)) S.1 S.2.1 d_Mo_claim_178 (by decide) ?_
              refine lv_iadd S.1 S.2.1 d_Mo_claim_179 ?_
              refine u_top (y := (nI (c + 1))) (nI_add c 1) ?_
              refine u_put S hw 0 (by decide) rfl rfl in_Mo ty_Mo tk_Mo nm_Mo 8 (by decide) lf_Mo_103 rfl rfl rfl rfl (Nat.le_of_ble_eq_true rfl) rfl d_Mo_claim_180 (fun H locs hw => ?_)
              refine lv_aload_n S.1 S.2.1 d_Mo_claim_183 rfl (lv_at hl 1 rfl) ?_
              refine u_get (v := .int (nI (c + 1))) S hw 0 (by decide) rfl rfl in_Mo 8 (by decide) lf_Mo_103 rfl d_Mo_claim_184 ?_
              refine lv_iconst (v := (1 : Int32)) S.1 S.2.1 d_Mo_claim_187 (by decide) ?_
              refine lv_isub S.1 S.2.1 d_Mo_claim_188 ?_
              refine u_top (y := (nI c)) (nI_pred c) ?_
              exact u_iret S hr hlk hw ⟨fun h => absurd (hs.symm.trans h) (by decide), fun _ h => absurd h h4, fun _ _ => ⟨rfl, rfl⟩⟩ d_Mo_claim_189
            · skip
              have h4 : c = 6 := (nI_eq (b := 6) (by omega) (by decide)).mp c36
              refine lv_bipush (v := (-3 : Int32)) S.1 S.2.1 d_Mo_claim_140 (by decide) ?_
              exact u_iret S hr hlk hw ⟨fun h => absurd (hs.symm.trans h) (by decide), fun _ _ => ⟨rfl, rfl⟩, fun _ h => absurd h4 h⟩ d_Mo_claim_142
          · skip
            exact absurd c35 (by decide)
set_option maxHeartbeats 4000000 in
set_option maxRecDepth 100000 in
theorem c_Mo_walk (l : Launch) (G : UG) (mem : um_M) (a0 : Int32) (n : Nat) (hn : n ≤ 24) (hnn : mem 0 7 = nI n) : MetM l G y_Mo_walk b_Mo_walk 2 (some .boolean) ({ frames := 2, cells := 0, slots := 0, locals := 51 }) [.ref (G.2.1 0), .int a0] mem (fun r mem' => ((∀ t, t < n → a0 ≠ nI t) → r = 0 ∧ mem = mem') ∧ ∀ t, t < n → a0 = nI t → (s_Mo_isOpen (mem 1 t) (mem 2 t) (mem 4 t) (mem 0 10) = 0 → r = 0 ∧ mem = mem') ∧ (¬ s_Mo_isOpen (mem 1 t) (mem 2 t) (mem 4 t) (mem 0 10) = 0 → r = 1 ∧ um_set (um_set mem 0 10 (s_Mo_leads (mem 4 t) (mem 1 t) (mem 3 t) (mem 0 10))) 0 11 (mem 0 11 + 1) = mem')) := by
  refine u_start [.ref (G.2.1 0), .int a0] (by decide) (Nat.le_of_ble_eq_true rfl) ?_
  intro p_ e_ s_ m_ bl_ me_ c_ ls S hr hlk hin hl hB
  have hw := uH_start hB
  have hl : lv_has ls 2 [(0, .ref (G.2.1 0)), (1, .int a0)] := hl
  refine lv_iload_n S.1 S.2.1 d_Mo_walk_0 rfl (lv_at hl 1 rfl) ?_
  refine lv_iconst (v := (0 : Int32)) S.1 S.2.1 d_Mo_walk_1 (by decide) ?_
  refine lv_aload_n S.1 S.2.1 d_Mo_walk_2 rfl (lv_at hl 0 rfl) ?_
  refine u_get (v := .int (mem 0 7)) S hw 0 (by decide) rfl rfl in_Mo 7 (by decide) lf_Mo_77 rfl d_Mo_walk_3 ?_
  refine u_top (y := (nI n)) hnn ?_
  refine lv_iconst (v := (1 : Int32)) S.1 S.2.1 d_Mo_walk_6 (by decide) ?_
  refine lv_isub S.1 S.2.1 d_Mo_walk_7 ?_
  refine u_callp hw (va_runS (As := [.int a0, .int (0 : Int32), .int ((nI n) - (1 : Int32))]) (rest := []) S (c_Mo_in l a0 (0 : Int32) ((nI n) - (1 : Int32))) ⟨u_cB S.2.2.2.2 t_Mo_in ln_Mo lm_Mo_84 hd_Mo_in rfl rfl ⟨Nat.le_of_ble_eq_true rfl, Nat.le_of_ble_eq_true rfl⟩, S.2.2.2.2 _ lt_Mo_in⟩ (u_preP hw.1.2) rfl rfl hl.1 rfl (lv_room (Nat.le_of_ble_eq_true rfl)) d_Mo_walk_8 ⟨Nat.zero_le _, Nat.zero_le _⟩) (fun r H locs hp hw => ?_)
  refine u_top (y := (s_Mo_in a0 (0 : Int32) ((nI n) - (1 : Int32)))) hp ?_
  refine lv_if_eq (tgt := 26) S.1 S.2.1 d_Mo_walk_11 (by decide) (fun c1 => ?_) (fun c1 => ?_)
  · skip
    have hno := mi_f (by omega) c1
    refine lv_iconst (v := (0 : Int32)) S.1 S.2.1 d_Mo_walk_26 (by decide) ?_
    exact u_zret S hr hlk hw (by first | rfl | assumption | exact nb01 (z_Ds_isBelow _ _)) ⟨fun _ => ⟨rfl, rfl⟩, fun i hi h => absurd h (hno i hi)⟩ d_Mo_walk_27
  · skip
    obtain ⟨z, hz, rfl⟩ := mi_t (by omega) c1
    refine lv_aload_n S.1 S.2.1 d_Mo_walk_14 rfl (lv_at hl 0 rfl) ?_
    refine lv_aload_n S.1 S.2.1 d_Mo_walk_15 rfl (lv_at hl 0 rfl) ?_
    refine u_get (v := .int (mem 0 10)) S hw 0 (by decide) rfl rfl in_Mo 10 (by decide) lf_Mo_50 rfl d_Mo_walk_16 ?_
    refine lv_iload_n S.1 S.2.1 d_Mo_walk_19 rfl (lv_at hl 1 rfl) ?_
    refine u_calli hw (va_runV (As := [.int (mem 0 10), .int (nI z)]) (rest := []) S (c_Mo_isOpen l G mem (mem 0 10) z (by omega)) ⟨u_cB S.2.2.2.2 t_Mo_isOpen ln_Mo lm_Mo_80 hd_Mo_isOpen rfl rfl ⟨Nat.le_of_ble_eq_true rfl, Nat.le_of_ble_eq_true rfl⟩, S.2.2.2.2 _ li_Mo_isOpen, S.2.2.2.2 _ ls_Mo_isOpen⟩ (u_preV hw 0 (by decide) rfl rfl) rfl rfl hl.1 rfl (lv_room (Nat.le_of_ble_eq_true rfl)) d_Mo_walk_20 ⟨Nat.zero_le _, Nat.zero_le _⟩) (fun r3 mem2 H locs hp hw => ?_)
    obtain ⟨hp, rfl⟩ := hp
    refine u_top (y := (s_Mo_isOpen (mem 1 z) (mem 2 z) (mem 4 z) (mem 0 10))) hp ?_
    refine lv_if_ne (tgt := 28) S.1 S.2.1 d_Mo_walk_23 (by decide) (fun c4 => ?_) (fun c4 => ?_)
    · skip
      have ho := c4
      refine lv_aload_n S.1 S.2.1 d_Mo_walk_28 rfl (lv_at hl 0 rfl) ?_
      refine lv_aload_n S.1 S.2.1 d_Mo_walk_29 rfl (lv_at hl 0 rfl) ?_
      refine lv_aload_n S.1 S.2.1 d_Mo_walk_30 rfl (lv_at hl 0 rfl) ?_
      refine u_get (v := .int (mem 0 10)) S hw 0 (by decide) rfl rfl in_Mo 10 (by decide) lf_Mo_50 rfl d_Mo_walk_31 ?_
      refine lv_iload_n S.1 S.2.1 d_Mo_walk_34 rfl (lv_at hl 1 rfl) ?_
      refine u_calli hw (va_runV (As := [.int (mem 0 10), .int (nI z)]) (rest := [.ref (G.2.1 0)]) S (c_Mo_leads l G mem (mem 0 10) z (by omega)) ⟨u_cB S.2.2.2.2 t_Mo_leads ln_Mo lm_Mo_109 hd_Mo_leads rfl rfl ⟨Nat.le_of_ble_eq_true rfl, Nat.le_of_ble_eq_true rfl⟩, S.2.2.2.2 _ li_Mo_leads, S.2.2.2.2 _ ls_Mo_leads⟩ (u_preV hw 0 (by decide) rfl rfl) rfl rfl hl.1 rfl (lv_room (Nat.le_of_ble_eq_true rfl)) d_Mo_walk_35 ⟨Nat.zero_le _, Nat.zero_le _⟩) (fun r6 mem5 H locs hp hw => ?_)
      obtain ⟨hp, rfl⟩ := hp
      refine u_top (y := (s_Mo_leads (mem 4 z) (mem 1 z) (mem 3 z) (mem 0 10))) hp ?_
      refine u_put S hw 0 (by decide) rfl rfl in_Mo ty_Mo tk_Mo nm_Mo 10 (by decide) lf_Mo_50 rfl rfl rfl rfl (Nat.le_of_ble_eq_true rfl) rfl d_Mo_walk_38 (fun H locs hw => ?_)
      refine lv_aload_n S.1 S.2.1 d_Mo_walk_41 rfl (lv_at hl 0 rfl) ?_
      refine lv_dup S.1 S.2.1 d_Mo_walk_42 rfl ?_
      refine u_get (v := .int (mem 0 11)) S hw 0 (by decide) rfl rfl in_Mo 11 (by decide) lf_Mo_88 rfl d_Mo_walk_43 ?_
      refine lv_iconst (v := (1 : Int32)) S.1 S.2.1 d_Mo_walk_46 (by decide) ?_
      refine lv_iadd S.1 S.2.1 d_Mo_walk_47 ?_
      refine u_put S hw 0 (by decide) rfl rfl in_Mo ty_Mo tk_Mo nm_Mo 11 (by decide) lf_Mo_88 rfl rfl rfl rfl (Nat.le_of_ble_eq_true rfl) rfl d_Mo_walk_48 (fun H locs hw => ?_)
      refine lv_iconst (v := (1 : Int32)) S.1 S.2.1 d_Mo_walk_51 (by decide) ?_
      exact u_zret S hr hlk hw (by first | rfl | assumption | exact nb01 (z_Ds_isBelow _ _)) ⟨fun h => absurd rfl (h z hz), fun i hi h => by have e := (nI_eq (by omega) (by omega)).mp h; subst e; exact ⟨fun y => absurd y ho, fun _ => ⟨rfl, rfl⟩⟩⟩ d_Mo_walk_52
    · skip
      have ho := c4
      refine lv_iconst (v := (0 : Int32)) S.1 S.2.1 d_Mo_walk_26 (by decide) ?_
      exact u_zret S hr hlk hw (by first | rfl | assumption | exact nb01 (z_Ds_isBelow _ _)) ⟨fun h => absurd rfl (h z hz), fun i hi h => by have e := (nI_eq (by omega) (by omega)).mp h; subst e; exact ⟨fun _ => ⟨rfl, rfl⟩, fun y => absurd ho y⟩⟩ d_Mo_walk_27
theorem isst_t {M18 a : Int32} {k : Nat} (hk : k ≤ 300) (h : ¬ s_Mo_isState M18 (nI k) a = 0) : ¬ M18 = 0 ∧ ∃ i, i < k ∧ a = nI i := by
  unfold s_Mo_isState at h
  by_cases c : M18 = 0
  · rw [if_pos c] at h; exact absurd rfl h
  · rw [if_neg c] at h
    by_cases c2 : s_Mo_in a 0 (nI k - 1) = 0
    · rw [if_pos c2] at h; exact absurd rfl h
    · exact ⟨c, mi_t (by omega) c2⟩
theorem isst_f {M18 a : Int32} {k : Nat} (hk : k ≤ 300) (h : s_Mo_isState M18 (nI k) a = 0) (h18 : ¬ M18 = 0) (i : Nat) (hi : i < k) : a ≠ nI i := by
  unfold s_Mo_isState at h
  rw [if_neg h18] at h
  by_cases c2 : s_Mo_in a 0 (nI k - 1) = 0
  · exact mi_f (by omega) c2 i hi
  · rw [if_neg c2] at h; exact absurd h (by decide)
set_option maxHeartbeats 4000000 in
set_option maxRecDepth 100000 in
theorem c_Mo_go (l : Launch) (G : UG) (mem : um_M) (a0 : Int32) (k : Nat) (hk : k ≤ 300) (hkk : mem 0 17 = nI k) : MetM l G y_Mo_go b_Mo_go 2 (some .boolean) ({ frames := 2, cells := 0, slots := 0, locals := 43 }) [.ref (G.2.1 0), .int a0] mem (fun r mem' => (mem 0 18 = 0 → r = 0 ∧ mem = mem') ∧ (¬ mem 0 18 = 0 → (∀ s, s < k → a0 ≠ nI s) → r = 0 ∧ mem = mem') ∧ (¬ mem 0 18 = 0 → ∀ s, s < k → a0 = nI s → r = 1 ∧ um_set mem 0 10 (mem 8 s) = mem')) := by
  refine u_start [.ref (G.2.1 0), .int a0] (by decide) (Nat.le_of_ble_eq_true rfl) ?_
  intro p_ e_ s_ m_ bl_ me_ c_ ls S hr hlk hin hl hB
  have hw := uH_start hB
  have hl : lv_has ls 2 [(0, .ref (G.2.1 0)), (1, .int a0)] := hl
  refine lv_aload_n S.1 S.2.1 d_Mo_go_0 rfl (lv_at hl 0 rfl) ?_
  refine lv_iload_n S.1 S.2.1 d_Mo_go_1 rfl (lv_at hl 1 rfl) ?_
  refine u_calli hw (va_runV (As := [.int a0]) (rest := []) S (c_Mo_isState l G mem a0) ⟨u_cB S.2.2.2.2 t_Mo_isState ln_Mo lm_Mo_128 hd_Mo_isState rfl rfl ⟨Nat.le_of_ble_eq_true rfl, Nat.le_of_ble_eq_true rfl⟩, S.2.2.2.2 _ li_Mo_isState, S.2.2.2.2 _ ls_Mo_isState⟩ (u_preV hw 0 (by decide) rfl rfl) rfl rfl hl.1 rfl (lv_room (Nat.le_of_ble_eq_true rfl)) d_Mo_go_2 ⟨Nat.zero_le _, Nat.zero_le _⟩) (fun r2 mem1 H locs hp hw => ?_)
  obtain ⟨hp, rfl⟩ := hp
  refine u_top (y := (s_Mo_isState (mem 0 18) (mem 0 17) a0)) hp ?_
  refine u_top (y := (s_Mo_isState (mem 0 18) (nI k) a0)) (by rw [hkk]) ?_
  refine lv_if_ne (tgt := 10) S.1 S.2.1 d_Mo_go_5 (by decide) (fun c3 => ?_) (fun c3 => ?_)
  · skip
    obtain ⟨h18, z, hz, rfl⟩ := isst_t hk c3
    refine lv_aload_n S.1 S.2.1 d_Mo_go_10 rfl (lv_at hl 0 rfl) ?_
    refine lv_aload_n S.1 S.2.1 d_Mo_go_11 rfl (lv_at hl 0 rfl) ?_
    refine u_get (v := .ref (G.2.1 8)) S hw 0 (by decide) rfl rfl in_Mo 12 (by decide) lf_Mo_31 rfl d_Mo_go_12 ?_
    refine lv_iload_n S.1 S.2.1 d_Mo_go_15 rfl (lv_at hl 1 rfl) ?_
    refine u_iaN S hw 8 0 (by decide) rfl rfl (j := z) rfl (by omega) (by decide) d_Mo_go_16 ?_
    refine u_put S hw 0 (by decide) rfl rfl in_Mo ty_Mo tk_Mo nm_Mo 10 (by decide) lf_Mo_50 rfl rfl rfl rfl (Nat.le_of_ble_eq_true rfl) rfl d_Mo_go_17 (fun H locs hw => ?_)
    refine lv_iconst (v := (1 : Int32)) S.1 S.2.1 d_Mo_go_20 (by decide) ?_
    exact u_zret S hr hlk hw (by first | rfl | assumption | exact nb01 (z_Ds_isBelow _ _)) ⟨fun h => absurd h h18, fun _ h => absurd rfl (h z hz), fun _ i hi h => by have e := (nI_eq (by omega) (by omega)).mp h; subst e; exact ⟨rfl, rfl⟩⟩ d_Mo_go_21
  · skip
    have hno := isst_f hk c3
    refine lv_iconst (v := (0 : Int32)) S.1 S.2.1 d_Mo_go_8 (by decide) ?_
    exact u_zret S hr hlk hw (by first | rfl | assumption | exact nb01 (z_Ds_isBelow _ _)) ⟨fun _ => ⟨rfl, rfl⟩, fun _ _ => ⟨rfl, rfl⟩, fun h8 i hi h => absurd h (hno h8 i hi)⟩ d_Mo_go_9
set_option maxHeartbeats 4000000 in
set_option maxRecDepth 100000 in
theorem c_Mo_way (l : Launch) (G : UG) (mem : um_M) (a0 a1 : Int32) (E F : Nat → Nat) (k : Nat) (hk : k ≤ 300) (hkk : mem 0 17 = nI k) (hE : ¬ mem 0 18 = 0 → ∀ s, s < k → mem 11 s = nI (E s) ∧ E s < 1000) (hF : ¬ mem 0 18 = 0 → ∀ s, s < k → ∀ j, j < E s → itr F j s < 300 ∧ mem 9 (itr F j s) = nI (F (itr F j s)) ∧ mem 11 (itr F j s) = nI (E s - j)) : MetM l G y_Mo_way b_Mo_way 4 (some .int) ({ frames := 2, cells := 0, slots := 0, locals := 43 }) [.ref (G.2.1 0), .int a0, .int a1] mem (fun r mem' => (mem 0 18 = 0 → r = -2) ∧ (¬ mem 0 18 = 0 → (∀ s, s < k → a0 ≠ nI s) → r = -2) ∧ (¬ mem 0 18 = 0 → ∀ s, s < k → a0 = nI s → (a1 = -1 → r = nI (E s)) ∧ (¬ a1 = -1 → ((∀ i, i < E s → a1 ≠ nI i) → r = -2) ∧ ∀ i, i < E s → a1 = nI i → r = mem 10 (itr F (E s - 1 - i) s))) ∧ mem = mem') := by
  refine u_start [.ref (G.2.1 0), .int a0, .int a1] (by decide) (Nat.le_of_ble_eq_true rfl) ?_
  intro p_ e_ s_ m_ bl_ me_ c_ ls S hr hlk hin hl hB
  have hw := uH_start hB
  have hl : lv_has ls 4 [(0, .ref (G.2.1 0)), (1, .int a0), (2, .int a1)] := hl
  refine lv_aload_n S.1 S.2.1 d_Mo_way_0 rfl (lv_at hl 0 rfl) ?_
  refine lv_iload_n S.1 S.2.1 d_Mo_way_1 rfl (lv_at hl 1 rfl) ?_
  refine u_calli hw (va_runV (As := [.int a0]) (rest := []) S (c_Mo_isState l G mem a0) ⟨u_cB S.2.2.2.2 t_Mo_isState ln_Mo lm_Mo_128 hd_Mo_isState rfl rfl ⟨Nat.le_of_ble_eq_true rfl, Nat.le_of_ble_eq_true rfl⟩, S.2.2.2.2 _ li_Mo_isState, S.2.2.2.2 _ ls_Mo_isState⟩ (u_preV hw 0 (by decide) rfl rfl) rfl rfl hl.1 rfl (lv_room (Nat.le_of_ble_eq_true rfl)) d_Mo_way_2 ⟨Nat.zero_le _, Nat.zero_le _⟩) (fun r2 mem1 H locs hp hw => ?_)
  obtain ⟨hp, rfl⟩ := hp
  refine u_top (y := (s_Mo_isState (mem 0 18) (mem 0 17) a0)) hp ?_
  refine u_top (y := (s_Mo_isState (mem 0 18) (nI k) a0)) (by rw [hkk]) ?_
  refine lv_if_ne (tgt := 11) S.1 S.2.1 d_Mo_way_5 (by decide) (fun c3 => ?_) (fun c3 => ?_)
  · skip
    obtain ⟨h18, z, hz, rfl⟩ := isst_t hk c3
    have hE1 := (hE h18 z hz).2
    refine lv_iload_n S.1 S.2.1 d_Mo_way_11 rfl (lv_at hl 2 rfl) ?_
    refine lv_iconst (v := (-1 : Int32)) S.1 S.2.1 d_Mo_way_12 (by decide) ?_
    refine lv_icmp_ne (tgt := 23) S.1 S.2.1 d_Mo_way_13 (by decide) (fun c4 => ?_) (fun c4 => ?_)
    · skip
      have h1 := c4
      refine lv_iload_n S.1 S.2.1 d_Mo_way_23 rfl (lv_at hl 2 rfl) ?_
      refine lv_iconst (v := (0 : Int32)) S.1 S.2.1 d_Mo_way_24 (by decide) ?_
      refine lv_aload_n S.1 S.2.1 d_Mo_way_25 rfl (lv_at hl 0 rfl) ?_
      refine u_get (v := .ref (G.2.1 11)) S hw 0 (by decide) rfl rfl in_Mo 15 (by decide) lf_Mo_40 rfl d_Mo_way_26 ?_
      refine lv_iload_n S.1 S.2.1 d_Mo_way_29 rfl (lv_at hl 1 rfl) ?_
      refine u_iaN S hw 11 0 (by decide) rfl rfl (j := z) rfl (by first | omega | exact Nat.lt_succ_of_lt (hF h18 z hz j (by omega)).1) (by decide) d_Mo_way_30 ?_
      refine u_top (y := (nI (E z))) (hE h18 z hz).1 ?_
      refine lv_iconst (v := (1 : Int32)) S.1 S.2.1 d_Mo_way_31 (by decide) ?_
      refine lv_isub S.1 S.2.1 d_Mo_way_32 ?_
      refine u_callp hw (va_runS (As := [.int a1, .int (0 : Int32), .int ((nI (E z)) - (1 : Int32))]) (rest := []) S (c_Mo_in l a1 (0 : Int32) ((nI (E z)) - (1 : Int32))) ⟨u_cB S.2.2.2.2 t_Mo_in ln_Mo lm_Mo_84 hd_Mo_in rfl rfl ⟨Nat.le_of_ble_eq_true rfl, Nat.le_of_ble_eq_true rfl⟩, S.2.2.2.2 _ lt_Mo_in⟩ (u_preP hw.1.2) rfl rfl hl.1 rfl (lv_room (Nat.le_of_ble_eq_true rfl)) d_Mo_way_33 ⟨Nat.zero_le _, Nat.zero_le _⟩) (fun r H locs hp hw => ?_)
      refine u_top (y := (s_Mo_in a1 (0 : Int32) ((nI (E z)) - (1 : Int32)))) hp ?_
      refine lv_if_ne (tgt := 42) S.1 S.2.1 d_Mo_way_36 (by decide) (fun c5 => ?_) (fun c5 => ?_)
      · skip
        obtain ⟨y, hy, rfl⟩ := mi_t (by omega) c5
        refine lv_iload_n S.1 S.2.1 d_Mo_way_42 rfl (lv_at hl 1 rfl) ?_
        refine lv_istore_n (lv' := [(3, .int (nI z)), (0, .ref (G.2.1 0)), (1, .int (nI z)), (2, .int (nI y))]) S.1 S.2.1 d_Mo_way_43 rfl hl (by decide) rfl (fun ls hl => ?_)
        refine u_loop (σ := Nat) (fun (x : Nat) (mem_ : um_M) (ls : Array Slot) => match x with | (j) => (j ≤ E z - 1 - y) ∧ mem = mem_ ∧ lv_has ls 4 [(0, .ref (G.2.1 0)), (1, .int (nI z)), (2, .int (nI y)), (3, .int (nI (itr F j z)))]) (fun x => match x with | (j) => 1000 - j) ?_ (0) hw ⟨Nat.zero_le _, rfl, lv_sub hl [1, 2, 3, 0] rfl⟩
        intro j memq H locs ls hw hI ih44
        obtain ⟨hjk, rfl, hl⟩ := hI
        dsimp only at ih44
        refine lv_aload_n S.1 S.2.1 d_Mo_way_44 rfl (lv_at hl 0 rfl) ?_
        refine u_get (v := .ref (G.2.1 11)) S hw 0 (by decide) rfl rfl in_Mo 15 (by decide) lf_Mo_40 rfl d_Mo_way_45 ?_
        refine lv_iload_n S.1 S.2.1 d_Mo_way_48 rfl (lv_at hl 3 rfl) ?_
        refine u_iaN S hw 11 0 (by decide) rfl rfl (j := (itr F j z)) rfl (by first | omega | exact Nat.lt_succ_of_lt (hF h18 z hz j (by omega)).1) (by decide) d_Mo_way_49 ?_
        refine u_top (y := (nI (E z - j))) (hF h18 z hz j (by omega)).2.2 ?_
        refine lv_iload_n S.1 S.2.1 d_Mo_way_50 rfl (lv_at hl 2 rfl) ?_
        refine lv_iconst (v := (1 : Int32)) S.1 S.2.1 d_Mo_way_51 (by decide) ?_
        refine lv_iadd S.1 S.2.1 d_Mo_way_52 ?_
        refine u_top (y := (nI (y + 1))) (nI_add y 1) ?_
        refine lv_icmp_le (tgt := 66) S.1 S.2.1 d_Mo_way_53 (by decide) (fun c6 => ?_) (fun c6 => ?_)
        · skip
          have hj2 : E z - j ≤ y + 1 := nle c6 (by omega) (by omega)
          refine lv_aload_n S.1 S.2.1 d_Mo_way_66 rfl (lv_at hl 0 rfl) ?_
          refine u_get (v := .ref (G.2.1 10)) S hw 0 (by decide) rfl rfl in_Mo 14 (by decide) lf_Mo_37 rfl d_Mo_way_67 ?_
          refine lv_iload_n S.1 S.2.1 d_Mo_way_70 rfl (lv_at hl 3 rfl) ?_
          refine u_iaN S hw 10 0 (by decide) rfl rfl (j := (itr F j z)) rfl (by first | omega | exact Nat.lt_succ_of_lt (hF h18 z hz j (by omega)).1) (by decide) d_Mo_way_71 ?_
          exact u_iret S hr hlk hw ⟨fun h => absurd h h18, fun _ h => absurd rfl (h z hz), fun _ i hi h => by have e := (nI_eq (by omega) (by omega)).mp h; subst e; exact ⟨fun w => absurd w h1, fun _ => ⟨fun w => absurd rfl (w y hy), fun i2 hi2 w => by have e2 := (nI_eq (by omega) (by omega)).mp w; subst e2; rw [show E z - 1 - y = j by omega]⟩⟩, rfl⟩ d_Mo_way_72
        · skip
          have hj2 : y + 1 < E z - j := nlt c6 (by omega) (by omega)
          refine lv_aload_n S.1 S.2.1 d_Mo_way_56 rfl (lv_at hl 0 rfl) ?_
          refine u_get (v := .ref (G.2.1 9)) S hw 0 (by decide) rfl rfl in_Mo 13 (by decide) lf_Mo_34 rfl d_Mo_way_57 ?_
          refine lv_iload_n S.1 S.2.1 d_Mo_way_60 rfl (lv_at hl 3 rfl) ?_
          refine u_iaN S hw 9 0 (by decide) rfl rfl (j := (itr F j z)) rfl (by first | omega | exact Nat.lt_succ_of_lt (hF h18 z hz j (by omega)).1) (by decide) d_Mo_way_61 ?_
          refine u_top (y := (nI (itr F (j + 1) z))) (hF h18 z hz j (by omega)).2.1 ?_
          refine lv_istore_n (lv' := [(3, .int (nI (itr F (j + 1) z))), (0, .ref (G.2.1 0)), (1, .int (nI z)), (2, .int (nI y))]) S.1 S.2.1 d_Mo_way_62 rfl hl (by decide) rfl (fun ls hl => ?_)
          refine lv_goto (tgt := 44) S.1 S.2.1 d_Mo_way_63 (by decide) ?_
          exact ih44 (j + 1) _ H locs ls (by omega) hw ⟨(by omega), rfl, lv_sub hl [1, 2, 3, 0] rfl⟩
      · skip
        have hn1 := mi_f (by omega) c5
        refine lv_bipush (v := (-2 : Int32)) S.1 S.2.1 d_Mo_way_39 (by decide) ?_
        exact u_iret S hr hlk hw ⟨fun h => absurd h h18, fun _ h => absurd rfl (h z hz), fun _ i hi h => by have e := (nI_eq (by omega) (by omega)).mp h; subst e; exact ⟨fun w => absurd w h1, fun _ => ⟨fun _ => rfl, fun i2 hi2 w => absurd w (hn1 i2 hi2)⟩⟩, rfl⟩ d_Mo_way_41
    · skip
      have h1 := c4
      refine lv_aload_n S.1 S.2.1 d_Mo_way_16 rfl (lv_at hl 0 rfl) ?_
      refine u_get (v := .ref (G.2.1 11)) S hw 0 (by decide) rfl rfl in_Mo 15 (by decide) lf_Mo_40 rfl d_Mo_way_17 ?_
      refine lv_iload_n S.1 S.2.1 d_Mo_way_20 rfl (lv_at hl 1 rfl) ?_
      refine u_iaN S hw 11 0 (by decide) rfl rfl (j := z) rfl (by first | omega | exact Nat.lt_succ_of_lt (hF h18 z hz j (by omega)).1) (by decide) d_Mo_way_21 ?_
      refine u_top (y := (nI (E z))) (hE h18 z hz).1 ?_
      exact u_iret S hr hlk hw ⟨fun h => absurd h h18, fun _ h => absurd rfl (h z hz), fun _ i hi h => by have e := (nI_eq (by omega) (by omega)).mp h; subst e; exact ⟨fun _ => rfl, fun w => absurd h1 w⟩, rfl⟩ d_Mo_way_22
  · skip
    have hno := isst_f hk c3
    refine lv_bipush (v := (-2 : Int32)) S.1 S.2.1 d_Mo_way_8 (by decide) ?_
    exact u_iret S hr hlk hw ⟨fun _ => rfl, fun _ _ => rfl, fun h8 i hi h => absurd h (hno h8 i hi), rfl⟩ d_Mo_way_10
set_option maxHeartbeats 4000000 in
set_option maxRecDepth 100000 in
theorem c_Mo_now (l : Launch) (G : UG) (mem : um_M) (a0 : Int32) (n : Nat) (hn : n ≤ 24) (hnn : mem 0 7 = nI n) (c : Nat) (hc : c ≤ 6) (hcc : mem 0 8 = nI c) (k : Nat) (hk : k ≤ 300) (hkk : mem 0 17 = nI k) : MetM l G y_Mo_now b_Mo_now 4 (some .int) ({ frames := 3, cells := 0, slots := 0, locals := 69 }) [.ref (G.2.1 0), .int a0] mem (fun r mem' => (s_Mo_in a0 0 13 = 0 → r = -1) ∧ (¬ s_Mo_in a0 0 13 = 0 → (a0 < 10 → r = s_Mo_told (mem 0 10) a0) ∧ (a0 = 10 → r = (nI (mOC mem n (mem 0 10)))) ∧ (a0 = 13 → r = mem 0 11) ∧ (a0 = 11 → (mem 0 18 = 0 ∨ (mFind (mem 8) k (mem 0 10)) < 0 → r = -2) ∧ (¬ mem 0 18 = 0 → ¬ (mFind (mem 8) k (mem 0 10)) < 0 → r = (mFind (mem 8) k (mem 0 10)))) ∧ (¬ a0 < 10 → ¬ a0 = 10 → ¬ a0 = 13 → ¬ a0 = 11 → r = (nI (cnt (fun i => decide (¬ s_Mo_failsIn (mem 5 i) (mem 6 i) (mem 7 i) (mem 0 10) = 0)) c)))) ∧ mem = mem') := by
  refine u_start [.ref (G.2.1 0), .int a0] (by decide) (Nat.le_of_ble_eq_true rfl) ?_
  intro p_ e_ s_ m_ bl_ me_ c_ ls S hr hlk hin hl hB
  have hw := uH_start hB
  have hl : lv_has ls 4 [(0, .ref (G.2.1 0)), (1, .int a0)] := hl
  refine lv_iload_n S.1 S.2.1 d_Mo_now_0 rfl (lv_at hl 1 rfl) ?_
  refine lv_iconst (v := (0 : Int32)) S.1 S.2.1 d_Mo_now_1 (by decide) ?_
  refine lv_bipush (v := (13 : Int32)) S.1 S.2.1 d_Mo_now_2 (by decide) ?_
  refine u_callp hw (va_runS (As := [.int a0, .int (0 : Int32), .int (13 : Int32)]) (rest := []) S (c_Mo_in l a0 (0 : Int32) (13 : Int32)) ⟨u_cB S.2.2.2.2 t_Mo_in ln_Mo lm_Mo_84 hd_Mo_in rfl rfl ⟨Nat.le_of_ble_eq_true rfl, Nat.le_of_ble_eq_true rfl⟩, S.2.2.2.2 _ lt_Mo_in⟩ (u_preP hw.1.2) rfl rfl hl.1 rfl (lv_room (Nat.le_of_ble_eq_true rfl)) d_Mo_now_4 ⟨Nat.zero_le _, Nat.zero_le _⟩) (fun r H locs hp hw => ?_)
  refine u_top (y := (s_Mo_in a0 (0 : Int32) (13 : Int32))) hp ?_
  refine lv_if_ne (tgt := 12) S.1 S.2.1 d_Mo_now_7 (by decide) (fun c1 => ?_) (fun c1 => ?_)
  · skip
    have h13 := c1
    refine lv_iload_n S.1 S.2.1 d_Mo_now_12 rfl (lv_at hl 1 rfl) ?_
    refine lv_bipush (v := (10 : Int32)) S.1 S.2.1 d_Mo_now_13 (by decide) ?_
    refine lv_icmp_ge (tgt := 28) S.1 S.2.1 d_Mo_now_15 (by decide) (fun c2 => ?_) (fun c2 => ?_)
    · skip
      have x10 : ¬ a0 < 10 := Int32.not_lt.mpr c2
      refine lv_iload_n S.1 S.2.1 d_Mo_now_28 rfl (lv_at hl 1 rfl) ?_
      refine lv_bipush (v := (10 : Int32)) S.1 S.2.1 d_Mo_now_29 (by decide) ?_
      refine lv_icmp_ne (tgt := 43) S.1 S.2.1 d_Mo_now_31 (by decide) (fun c3 => ?_) (fun c3 => ?_)
      · skip
        have x1 := c3
        refine lv_iload_n S.1 S.2.1 d_Mo_now_43 rfl (lv_at hl 1 rfl) ?_
        refine lv_bipush (v := (13 : Int32)) S.1 S.2.1 d_Mo_now_44 (by decide) ?_
        refine lv_icmp_ne (tgt := 54) S.1 S.2.1 d_Mo_now_46 (by decide) (fun c4 => ?_) (fun c4 => ?_)
        · skip
          have x3 := c4
          refine lv_iload_n S.1 S.2.1 d_Mo_now_54 rfl (lv_at hl 1 rfl) ?_
          refine lv_bipush (v := (11 : Int32)) S.1 S.2.1 d_Mo_now_55 (by decide) ?_
          refine lv_icmp_ne (tgt := 92) S.1 S.2.1 d_Mo_now_57 (by decide) (fun c5 => ?_) (fun c5 => ?_)
          · skip
            have x2 := c5
            refine lv_iconst (v := (0 : Int32)) S.1 S.2.1 d_Mo_now_92 (by decide) ?_
            refine lv_istore_n (lv' := [(2, .int (0 : Int32)), (0, .ref (G.2.1 0)), (1, .int a0)]) S.1 S.2.1 d_Mo_now_93 rfl hl (by decide) rfl (fun ls hl => ?_)
            refine lv_iconst (v := (0 : Int32)) S.1 S.2.1 d_Mo_now_94 (by decide) ?_
            refine lv_istore_n (lv' := [(3, .int (0 : Int32)), (2, .int (0 : Int32)), (0, .ref (G.2.1 0)), (1, .int a0)]) S.1 S.2.1 d_Mo_now_95 rfl hl (by decide) rfl (fun ls hl => ?_)
            refine u_loop (σ := Nat × Nat) (fun (x : Nat × Nat) (mem_ : um_M) (ls : Array Slot) => match x with | (i, a) => (i ≤ c) ∧ (a = cnt (fun i => decide (¬ s_Mo_failsIn (mem 5 i) (mem 6 i) (mem 7 i) (mem 0 10) = 0)) i) ∧ mem = mem_ ∧ lv_has ls 4 [(0, .ref (G.2.1 0)), (1, .int a0), (2, .int (nI a)), (3, .int (nI i))]) (fun x => match x with | (i, a) => c - i) ?_ (0, 0) hw ⟨Nat.zero_le _, rfl, rfl, lv_sub hl [2, 3, 1, 0] rfl⟩
            intro x memq H locs ls hw hI ih96
            obtain ⟨i, a⟩ := x
            obtain ⟨hik, ha, rfl, hl⟩ := hI
            dsimp only at ih96
            refine lv_iload_n S.1 S.2.1 d_Mo_now_96 rfl (lv_at hl 3 rfl) ?_
            refine lv_aload_n S.1 S.2.1 d_Mo_now_97 rfl (lv_at hl 0 rfl) ?_
            refine u_get (v := .int (mem 0 8)) S hw 0 (by decide) rfl rfl in_Mo 8 (by decide) lf_Mo_103 rfl d_Mo_now_98 ?_
            refine u_top (y := (nI c)) hcc ?_
            refine lv_icmp_ge (tgt := 125) S.1 S.2.1 d_Mo_now_101 (by decide) (fun c6 => ?_) (fun c6 => ?_)
            · skip
              have hi2 : i = c := by have y := nle c6 (by omega) (by omega); omega
              refine lv_iload_n S.1 S.2.1 d_Mo_now_125 rfl (lv_at hl 2 rfl) ?_
              exact u_iret S hr hlk hw ⟨fun h => absurd h h13, fun _ => ⟨fun h => absurd h x10, fun h => absurd h x1, fun h => absurd h x3, fun h => absurd h x2, fun _ _ _ _ => by rw [ha, hi2]⟩, rfl⟩ d_Mo_now_126
            · skip
              have hi2 : i < c := nlt c6 (by omega) (by omega)
              refine lv_aload_n S.1 S.2.1 d_Mo_now_104 rfl (lv_at hl 0 rfl) ?_
              refine lv_iload_n S.1 S.2.1 d_Mo_now_105 rfl (lv_at hl 3 rfl) ?_
              refine lv_aload_n S.1 S.2.1 d_Mo_now_106 rfl (lv_at hl 0 rfl) ?_
              refine u_get (v := .int (mem 0 10)) S hw 0 (by decide) rfl rfl in_Mo 10 (by decide) lf_Mo_50 rfl d_Mo_now_107 ?_
              refine u_calli hw (va_runV (As := [.int (nI i), .int (mem 0 10)]) (rest := []) S (c_Mo_failsIn l G mem i (mem 0 10) (by omega)) ⟨u_cB S.2.2.2.2 t_Mo_failsIn ln_Mo lm_Mo_115 hd_Mo_failsIn rfl rfl ⟨Nat.le_of_ble_eq_true rfl, Nat.le_of_ble_eq_true rfl⟩, S.2.2.2.2 _ li_Mo_failsIn, S.2.2.2.2 _ ls_Mo_failsIn⟩ (u_preV hw 0 (by decide) rfl rfl) rfl rfl hl.1 rfl (lv_room (Nat.le_of_ble_eq_true rfl)) d_Mo_now_110 ⟨Nat.zero_le _, Nat.zero_le _⟩) (fun r8 mem7 H locs hp hw => ?_)
              obtain ⟨hp, rfl⟩ := hp
              refine u_top (y := (s_Mo_failsIn (mem 5 i) (mem 6 i) (mem 7 i) (mem 0 10))) hp ?_
              refine lv_if_eq (tgt := 119) S.1 S.2.1 d_Mo_now_113 (by decide) (fun c9 => ?_) (fun c9 => ?_)
              · skip
                have hpi : decide (¬ s_Mo_failsIn (mem 5 i) (mem 6 i) (mem 7 i) (mem 0 10) = 0) = false := df (fun h => h c9)
                refine lv_iinc (v := (nI (i + 1))) (lv' := [(3, .int (nI (i + 1))), (0, .ref (G.2.1 0)), (1, .int a0), (2, .int (nI a))]) S.1 S.2.1 d_Mo_now_119 hl (k := 3) rfl (nI_1 _) (by decide) rfl (fun ls hl => ?_)
                refine lv_goto (tgt := 96) S.1 S.2.1 d_Mo_now_122 (by decide) ?_
                exact ih96 (i + 1, a) _ H locs ls (by omega) hw ⟨hi2, (by rw [ha, cnt_f hpi]), rfl, lv_sub hl [1, 2, 3, 0] rfl⟩
              · skip
                have hpi : decide (¬ s_Mo_failsIn (mem 5 i) (mem 6 i) (mem 7 i) (mem 0 10) = 0) = true := dt c9
                refine lv_iinc (v := (nI (a + 1))) (lv' := [(2, .int (nI (a + 1))), (0, .ref (G.2.1 0)), (1, .int a0), (3, .int (nI i))]) S.1 S.2.1 d_Mo_now_116 hl (k := 2) rfl (nI_1 _) (by decide) rfl (fun ls hl => ?_)
                refine lv_iinc (v := (nI (i + 1))) (lv' := [(3, .int (nI (i + 1))), (2, .int (nI (a + 1))), (0, .ref (G.2.1 0)), (1, .int a0)]) S.1 S.2.1 d_Mo_now_119 hl (k := 3) rfl (nI_1 _) (by decide) rfl (fun ls hl => ?_)
                refine lv_goto (tgt := 96) S.1 S.2.1 d_Mo_now_122 (by decide) ?_
                exact ih96 (i + 1, a + 1) _ H locs ls (by omega) hw ⟨hi2, (by rw [ha, cnt_t hpi]), rfl, lv_sub hl [2, 3, 1, 0] rfl⟩
          · skip
            have x2 := c5
            refine lv_aload_n S.1 S.2.1 d_Mo_now_60 rfl (lv_at hl 0 rfl) ?_
            refine u_get (v := .int (mem 0 18)) S hw 0 (by decide) rfl rfl in_Mo 18 (by decide) lf_Mo_91 rfl d_Mo_now_61 ?_
            refine lv_if_eq (tgt := 89) S.1 S.2.1 d_Mo_now_64 (by decide) (fun c10 => ?_) (fun c10 => ?_)
            · skip
              have x8 := c10
              refine lv_bipush (v := (-2 : Int32)) S.1 S.2.1 d_Mo_now_89 (by decide) ?_
              exact u_iret S hr hlk hw ⟨fun h => absurd h h13, fun _ => ⟨fun h => absurd h x10, fun h => absurd h x1, fun h => absurd h x3, fun _ => ⟨fun _ => rfl, fun h => absurd x8 h⟩, fun _ _ _ h => absurd x2 h⟩, rfl⟩ d_Mo_now_91
            · skip
              have x8 := c10
              refine lv_aload_n S.1 S.2.1 d_Mo_now_67 rfl (lv_at hl 0 rfl) ?_
              refine lv_aload_n S.1 S.2.1 d_Mo_now_68 rfl (lv_at hl 0 rfl) ?_
              refine u_get (v := .int (mem 0 10)) S hw 0 (by decide) rfl rfl in_Mo 10 (by decide) lf_Mo_50 rfl d_Mo_now_69 ?_
              refine u_calli hw (va_runV (As := [.int (mem 0 10)]) (rest := []) S (c_Mo_find l G mem (mem 0 10) k hk hkk) ⟨u_cB S.2.2.2.2 t_Mo_find ln_Mo lm_Mo_112 hd_Mo_find rfl rfl ⟨Nat.le_of_ble_eq_true rfl, Nat.le_of_ble_eq_true rfl⟩, S.2.2.2.2 _ li_Mo_find, S.2.2.2.2 _ ls_Mo_find⟩ (u_preV hw 0 (by decide) rfl rfl) rfl rfl hl.1 rfl (lv_room (Nat.le_of_ble_eq_true rfl)) d_Mo_now_72 ⟨Nat.zero_le _, Nat.zero_le _⟩) (fun r12 mem11 H locs hp hw => ?_)
              obtain ⟨hp, rfl⟩ := hp
              refine u_top (y := (mFind (mem 8) k (mem 0 10))) hp ?_
              refine lv_if_lt (tgt := 89) S.1 S.2.1 d_Mo_now_75 (by decide) (fun c13 => ?_) (fun c13 => ?_)
              · skip
                have x9 := c13
                refine lv_bipush (v := (-2 : Int32)) S.1 S.2.1 d_Mo_now_89 (by decide) ?_
                exact u_iret S hr hlk hw ⟨fun h => absurd h h13, fun _ => ⟨fun h => absurd h x10, fun h => absurd h x1, fun h => absurd h x3, fun _ => ⟨fun _ => rfl, fun _ h => absurd x9 h⟩, fun _ _ _ h => absurd x2 h⟩, rfl⟩ d_Mo_now_91
              · skip
                have x9 := c13
                refine lv_aload_n S.1 S.2.1 d_Mo_now_78 rfl (lv_at hl 0 rfl) ?_
                refine lv_aload_n S.1 S.2.1 d_Mo_now_79 rfl (lv_at hl 0 rfl) ?_
                refine u_get (v := .int (mem 0 10)) S hw 0 (by decide) rfl rfl in_Mo 10 (by decide) lf_Mo_50 rfl d_Mo_now_80 ?_
                refine u_calli hw (va_runV (As := [.int (mem 0 10)]) (rest := []) S (c_Mo_find l G mem (mem 0 10) k hk hkk) ⟨u_cB S.2.2.2.2 t_Mo_find ln_Mo lm_Mo_112 hd_Mo_find rfl rfl ⟨Nat.le_of_ble_eq_true rfl, Nat.le_of_ble_eq_true rfl⟩, S.2.2.2.2 _ li_Mo_find, S.2.2.2.2 _ ls_Mo_find⟩ (u_preV hw 0 (by decide) rfl rfl) rfl rfl hl.1 rfl (lv_room (Nat.le_of_ble_eq_true rfl)) d_Mo_now_83 ⟨Nat.zero_le _, Nat.zero_le _⟩) (fun r15 mem14 H locs hp hw => ?_)
                obtain ⟨hp, rfl⟩ := hp
                refine u_top (y := (mFind (mem 8) k (mem 0 10))) hp ?_
                refine lv_goto (tgt := 91) S.1 S.2.1 d_Mo_now_86 (by decide) ?_
                exact u_iret S hr hlk hw ⟨fun h => absurd h h13, fun _ => ⟨fun h => absurd h x10, fun h => absurd h x1, fun h => absurd h x3, fun _ => ⟨fun h => h.elim (fun w => absurd w x8) (fun w => absurd w x9), fun _ _ => rfl⟩, fun _ _ _ h => absurd x2 h⟩, rfl⟩ d_Mo_now_91
        · skip
          have x3 := c4
          refine lv_aload_n S.1 S.2.1 d_Mo_now_49 rfl (lv_at hl 0 rfl) ?_
          refine u_get (v := .int (mem 0 11)) S hw 0 (by decide) rfl rfl in_Mo 11 (by decide) lf_Mo_88 rfl d_Mo_now_50 ?_
          exact u_iret S hr hlk hw ⟨fun h => absurd h h13, fun _ => ⟨fun h => absurd h x10, fun h => absurd h x1, fun _ => rfl, fun h => absurd (x3.symm.trans h) (by decide), fun _ _ h => absurd x3 h⟩, rfl⟩ d_Mo_now_53
      · skip
        have x1 := c3
        refine lv_aload_n S.1 S.2.1 d_Mo_now_34 rfl (lv_at hl 0 rfl) ?_
        refine lv_aload_n S.1 S.2.1 d_Mo_now_35 rfl (lv_at hl 0 rfl) ?_
        refine u_get (v := .int (mem 0 10)) S hw 0 (by decide) rfl rfl in_Mo 10 (by decide) lf_Mo_50 rfl d_Mo_now_36 ?_
        refine u_calli hw (va_runV (As := [.int (mem 0 10)]) (rest := []) S (c_Mo_openIn l G mem (mem 0 10) n hn hnn) ⟨u_cB S.2.2.2.2 t_Mo_openIn ln_Mo lm_Mo_118 hd_Mo_openIn rfl rfl ⟨Nat.le_of_ble_eq_true rfl, Nat.le_of_ble_eq_true rfl⟩, S.2.2.2.2 _ li_Mo_openIn, S.2.2.2.2 _ ls_Mo_openIn⟩ (u_preV hw 0 (by decide) rfl rfl) rfl rfl hl.1 rfl (lv_room (Nat.le_of_ble_eq_true rfl)) d_Mo_now_39 ⟨Nat.zero_le _, Nat.zero_le _⟩) (fun r17 mem16 H locs hp hw => ?_)
        obtain ⟨hp, rfl⟩ := hp
        refine u_top (y := (nI (mOC mem n (mem 0 10)))) hp ?_
        exact u_iret S hr hlk hw ⟨fun h => absurd h h13, fun _ => ⟨fun h => absurd h x10, fun _ => rfl, fun h => absurd (x1.symm.trans h) (by decide), fun h => absurd (x1.symm.trans h) (by decide), fun _ h => absurd x1 h⟩, rfl⟩ d_Mo_now_42
    · skip
      have x10 : a0 < 10 := Int32.not_le.mp c2
      refine lv_aload_n S.1 S.2.1 d_Mo_now_18 rfl (lv_at hl 0 rfl) ?_
      refine lv_aload_n S.1 S.2.1 d_Mo_now_19 rfl (lv_at hl 0 rfl) ?_
      refine u_get (v := .int (mem 0 10)) S hw 0 (by decide) rfl rfl in_Mo 10 (by decide) lf_Mo_50 rfl d_Mo_now_20 ?_
      refine lv_iload_n S.1 S.2.1 d_Mo_now_23 rfl (lv_at hl 1 rfl) ?_
      refine u_calli hw (va_runV (As := [.int (mem 0 10), .int a0]) (rest := []) S (c_Mo_told l G mem (mem 0 10) a0) ⟨u_cB S.2.2.2.2 t_Mo_told ln_Mo lm_Mo_131 hd_Mo_told rfl rfl ⟨Nat.le_of_ble_eq_true rfl, Nat.le_of_ble_eq_true rfl⟩, S.2.2.2.2 _ li_Mo_told, S.2.2.2.2 _ ls_Mo_told⟩ (u_preV hw 0 (by decide) rfl rfl) rfl rfl hl.1 rfl (lv_room (Nat.le_of_ble_eq_true rfl)) d_Mo_now_24 ⟨Nat.zero_le _, Nat.zero_le _⟩) (fun r19 mem18 H locs hp hw => ?_)
      obtain ⟨hp, rfl⟩ := hp
      refine u_top (y := (s_Mo_told (mem 0 10) a0)) hp ?_
      exact u_iret S hr hlk hw ⟨fun h => absurd h h13, fun _ => ⟨fun _ => rfl, fun h => absurd x10 (by rw [h]; decide), fun h => absurd x10 (by rw [h]; decide), fun h => absurd x10 (by rw [h]; decide), fun h => absurd x10 h⟩, rfl⟩ d_Mo_now_27
  · skip
    have h13 := c1
    refine lv_iconst (v := (-1 : Int32)) S.1 S.2.1 d_Mo_now_10 (by decide) ?_
    exact u_iret S hr hlk hw ⟨fun _ => rfl, fun h => absurd h13 h, rfl⟩ d_Mo_now_11
