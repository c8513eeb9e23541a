theorem isth_t {k : Nat} (h : ¬ s_Sp_isThere (nI k) = 0) : 0 < k := by
  rcases Nat.eq_zero_or_pos k with z | z
  · rw [z] at h; exact absurd (by decide) h
  · exact z
theorem isth_f {k : Nat} (hk : k ≤ 300) (h : s_Sp_isThere (nI k) = 0) : k = 0 := by
  rcases Nat.eq_zero_or_pos k with z | z
  · exact z
  · unfold s_Sp_isThere at h
    rw [if_neg (nI_nle z (by omega))] at h; exact absurd h (by decide)
set_option maxHeartbeats 4000000 in
set_option maxRecDepth 100000 in
theorem c_Ds_avoids (l : Launch) (G : UG) (mem : um_M) (n : Nat) (a0 a1 : Int32) (c : Nat) (hc : c ≤ 6) (hcc : mem 0 5 = nI c) (k : Nat) (hk : k ≤ 300) (hsz : mem 3 9 = nI k) (q : Bq) (tr : Nat → Nat → Nat) (hsp : 0 < k → q.1 = k ∧ RXs mem q ∧ RXp mem n tr q (q.1 * 24)) : MetX l G y_Ds_avoids b_Ds_avoids 3 (some .int) ({ frames := 3, cells := 0, slots := 0, locals := 69 }) [.ref (G.2.1 0), .int a0, .int a1] mem (fun r mem' => fAv mem mem' ∧ (s_Ds_isBelow a1 2 = 0 → r = -1) ∧ (¬ s_Ds_isBelow a1 2 = 0 → (k = 0 ∨ ∀ i, i < c → a0 ≠ nI i) → r = -2) ∧ (¬ s_Ds_isBelow a1 2 = 0 → 0 < k → ∀ i, i < c → a0 = nI i → r = a_avo n tr q (mem (41 + i)) a1)) := by
  refine u_start [.ref (G.2.1 0), .int a0, .int a1] (by decide) (Nat.le_of_ble_eq_true rfl) ?_
  intro p_ e_ s_ m_ bl_ me_ c_ ls S hr hlk hin hl hB
  have hw := uH_start hB
  have hl : lv_has ls 3 [(0, .ref (G.2.1 0)), (1, .int a0), (2, .int a1)] := hl
  refine lv_iload_n S.1 S.2.1 d_Ds_avoids_0 rfl (lv_at hl 2 rfl) ?_
  refine lv_iconst (v := (2 : Int32)) S.1 S.2.1 d_Ds_avoids_1 (by decide) ?_
  refine u_callp hw (va_runS (As := [.int a1, .int (2 : Int32)]) (rest := []) S (c_Ds_isBelow l a1 (2 : Int32)) ⟨u_cB S.2.2.2.2 t_Ds_isBelow ln_Ds lm_Ds_37 hd_Ds_isBelow rfl rfl ⟨Nat.le_of_ble_eq_true rfl, Nat.le_of_ble_eq_true rfl⟩, S.2.2.2.2 _ lt_Ds_isBelow⟩ (u_preP hw.1.2) rfl rfl hl.1 rfl (lv_room (Nat.le_of_ble_eq_true rfl)) d_Ds_avoids_2 ⟨Nat.zero_le _, Nat.zero_le _⟩) (fun r H locs hp hw => ?_)
  refine u_top (y := (s_Ds_isBelow a1 (2 : Int32))) hp ?_
  refine lv_if_ne (tgt := 10) S.1 S.2.1 d_Ds_avoids_5 (by decide) (fun c1 => ?_) (fun c1 => ?_)
  · skip
    have h2 := c1
    refine lv_iload_n S.1 S.2.1 d_Ds_avoids_10 rfl (lv_at hl 1 rfl) ?_
    refine lv_aload_n S.1 S.2.1 d_Ds_avoids_11 rfl (lv_at hl 0 rfl) ?_
    refine u_get (v := .int (mem 0 5)) S hw 0 (by decide) rfl rfl in_Ds 5 (by decide) lf_Ds_68 rfl d_Ds_avoids_12 ?_
    refine u_top (y := (nI c)) hcc ?_
    refine u_callp hw (va_runS (As := [.int a0, .int (nI c)]) (rest := []) S (c_Ds_isBelow l a0 (nI c)) ⟨u_cB S.2.2.2.2 t_Ds_isBelow ln_Ds lm_Ds_37 hd_Ds_isBelow rfl rfl ⟨Nat.le_of_ble_eq_true rfl, Nat.le_of_ble_eq_true rfl⟩, S.2.2.2.2 _ lt_Ds_isBelow⟩ (u_preP hw.1.2) rfl rfl hl.1 rfl (lv_room (Nat.le_of_ble_eq_true rfl)) d_Ds_avoids_15 ⟨Nat.zero_le _, Nat.zero_le _⟩) (fun r H locs hp hw => ?_)
    refine u_top (y := (s_Ds_isBelow a0 (nI c))) hp ?_
    refine lv_if_eq (tgt := 31) S.1 S.2.1 d_Ds_avoids_18 (by decide) (fun c2 => ?_) (fun c2 => ?_)
    · skip
      have hno := ib_f (by omega) c2
      refine lv_bipush (v := (-2 : Int32)) S.1 S.2.1 d_Ds_avoids_31 (by decide) ?_
      exact u_iret S hr hlk hw ⟨fAv_rf mem, fun h => absurd h h2, fun _ _ => rfl, fun _ _ i hi h => absurd h (hno i hi)⟩ d_Ds_avoids_33
    · skip
      obtain ⟨z, hz, rfl⟩ := ib_t (by omega) c2
      refine lv_aload_n S.1 S.2.1 d_Ds_avoids_21 rfl (lv_at hl 0 rfl) ?_
      refine u_get (v := .ref (G.2.1 3)) S hw 0 (by decide) rfl rfl in_Ds 2 (by decide) lf_Ds_26 rfl d_Ds_avoids_22 ?_
      refine u_calli hw (va_runV (As := []) (rest := []) S (c_Sp_isThere l G mem ) ⟨u_cB S.2.2.2.2 t_Sp_isThere ln_Sp lm_Ds_93 hd_Sp_isThere rfl rfl ⟨Nat.le_of_ble_eq_true rfl, Nat.le_of_ble_eq_true rfl⟩, S.2.2.2.2 _ li_Sp_isThere, S.2.2.2.2 _ ls_Sp_isThere⟩ (u_preV hw 3 (by decide) rfl rfl) rfl rfl hl.1 rfl (lv_room (Nat.le_of_ble_eq_true rfl)) d_Ds_avoids_25 ⟨Nat.zero_le _, Nat.zero_le _⟩) (fun r4 mem3 H locs hp hw => ?_)
      obtain ⟨hp, rfl⟩ := hp
      refine u_top (y := (s_Sp_isThere (mem 3 9))) hp ?_
      refine u_top (y := (s_Sp_isThere (nI k))) (by rw [hsz]) ?_
      refine lv_if_ne (tgt := 34) S.1 S.2.1 d_Ds_avoids_28 (by decide) (fun c5 => ?_) (fun c5 => ?_)
      · skip
        have hk0 : 0 < k := isth_t c5
        obtain ⟨hqk, hS, hP⟩ := hsp hk0
        refine lv_aload_n S.1 S.2.1 d_Ds_avoids_34 rfl (lv_at hl 0 rfl) ?_
        refine u_get (v := .ref (G.2.1 13)) S hw 0 (by decide) rfl rfl in_Ds 3 (by decide) lf_Ds_33 rfl d_Ds_avoids_35 ?_
        refine lv_aload_n S.1 S.2.1 d_Ds_avoids_38 rfl (lv_at hl 0 rfl) ?_
        refine u_get (v := .ref (G.2.1 3)) S hw 0 (by decide) rfl rfl in_Ds 2 (by decide) lf_Ds_26 rfl d_Ds_avoids_39 ?_
        refine lv_aload_n S.1 S.2.1 d_Ds_avoids_42 rfl (lv_at hl 0 rfl) ?_
        refine u_get (v := .ref (G.2.1 2)) S hw 0 (by decide) rfl rfl in_Ds 1 (by decide) lf_Ds_18 rfl d_Ds_avoids_43 ?_
        refine lv_iload_n S.1 S.2.1 d_Ds_avoids_46 rfl (lv_at hl 1 rfl) ?_
        refine u_aaN S hw 2 3 (by decide) rfl rfl (j := z) rfl (by omega) (by decide) (v := .ref (G.2.1 (41 + z))) rfl d_Ds_avoids_47 ?_
        refine u_callv hw (va_runV (As := [.ref (G.2.1 3), .ref (G.2.1 (41 + z))]) (rest := []) S (c_Av_find l G mem n z tr q (by omega) (by omega) hS hP) ⟨u_cB S.2.2.2.2 t_Av_find ln_Av lm_Ds_97 hd_Av_find rfl rfl ⟨Nat.le_of_ble_eq_true rfl, Nat.le_of_ble_eq_true rfl⟩, S.2.2.2.2 _ li_Av_find, S.2.2.2.2 _ ls_Av_find⟩ (u_preV hw 13 (by decide) rfl rfl) rfl rfl hl.1 rfl (lv_room (Nat.le_of_ble_eq_true rfl)) d_Ds_avoids_48 ⟨Nat.zero_le _, Nat.zero_le _⟩) (fun mem6 H locs hp hw => ?_)
        have hp48 := hp
        have hsz9 : mem6 3 9 = nI k := by rw [hp48.1 3 (by decide)]; exact hsz
        have hst : ∀ j, j < k → decide (mem6 14 j = 0) = stB k (nxq n tr q) (flG (mem (41 + z)) q) j := fun j hj => by rw [hp48.2 j (by omega), hqk]; show decide ((if stB k (nxq n tr q) (flG (mem (41 + z)) q) j = true then (0 : Int32) else 1) = 0) = _; cases stB k (nxq n tr q) (flG (mem (41 + z)) q) j <;> rfl
        refine lv_iload_n S.1 S.2.1 d_Ds_avoids_51 rfl (lv_at hl 2 rfl) ?_
        refine lv_if_ne (tgt := 69) S.1 S.2.1 d_Ds_avoids_52 (by decide) (fun c7 => ?_) (fun c7 => ?_)
        · skip
          have hw1 := c7
          refine lv_aload_n S.1 S.2.1 d_Ds_avoids_69 rfl (lv_at hl 0 rfl) ?_
          refine u_get (v := .ref (G.2.1 13)) S hw 0 (by decide) rfl rfl in_Ds 3 (by decide) lf_Ds_33 rfl d_Ds_avoids_70 ?_
          refine lv_aload_n S.1 S.2.1 d_Ds_avoids_73 rfl (lv_at hl 0 rfl) ?_
          refine u_get (v := .ref (G.2.1 3)) S hw 0 (by decide) rfl rfl in_Ds 2 (by decide) lf_Ds_26 rfl d_Ds_avoids_74 ?_
          refine u_calli hw (va_runV (As := [.ref (G.2.1 3)]) (rest := []) S (c_Av_howMany l G mem6 k hk hsz9) ⟨u_cB S.2.2.2.2 t_Av_howMany ln_Av lm_Ds_105 hd_Av_howMany rfl rfl ⟨Nat.le_of_ble_eq_true rfl, Nat.le_of_ble_eq_true rfl⟩, S.2.2.2.2 _ li_Av_howMany, S.2.2.2.2 _ ls_Av_howMany⟩ (u_preV hw 13 (by decide) rfl rfl) rfl rfl hl.1 rfl (lv_room (Nat.le_of_ble_eq_true rfl)) d_Ds_avoids_77 ⟨Nat.zero_le _, Nat.zero_le _⟩) (fun r9 mem8 H locs hp hw => ?_)
          obtain ⟨hp, rfl⟩ := hp
          refine u_top (y := (nI (cnt (fun i => decide (mem6 14 i = 0)) k))) hp ?_
          exact u_iret S hr hlk hw ⟨hp48.1, fun h => absurd h h2, fun _ h => h.elim (fun y => absurd y (by omega)) (fun y => absurd rfl (y z hz)), fun _ _ i hi h => by have e := (nI_eq (by omega) (by omega)).mp h; subst e; unfold a_avo; rw [if_neg hw1, hqk, cnt_congr hst]⟩ d_Ds_avoids_80
        · skip
          have hw1 := c7
          refine lv_aload_n S.1 S.2.1 d_Ds_avoids_55 rfl (lv_at hl 0 rfl) ?_
          refine u_get (v := .ref (G.2.1 13)) S hw 0 (by decide) rfl rfl in_Ds 3 (by decide) lf_Ds_33 rfl d_Ds_avoids_56 ?_
          refine lv_aload_n S.1 S.2.1 d_Ds_avoids_59 rfl (lv_at hl 0 rfl) ?_
          refine u_get (v := .ref (G.2.1 3)) S hw 0 (by decide) rfl rfl in_Ds 2 (by decide) lf_Ds_26 rfl d_Ds_avoids_60 ?_
          refine u_calli hw (va_runV (As := [.ref (G.2.1 3)]) (rest := []) S (c_Av_least l G mem6 k hk hsz9) ⟨u_cB S.2.2.2.2 t_Av_least ln_Av lm_Ds_101 hd_Av_least rfl rfl ⟨Nat.le_of_ble_eq_true rfl, Nat.le_of_ble_eq_true rfl⟩, S.2.2.2.2 _ li_Av_least, S.2.2.2.2 _ ls_Av_least⟩ (u_preV hw 13 (by decide) rfl rfl) rfl rfl hl.1 rfl (lv_room (Nat.le_of_ble_eq_true rfl)) d_Ds_avoids_63 ⟨Nat.zero_le _, Nat.zero_le _⟩) (fun r11 mem10 H locs hp hw => ?_)
          obtain ⟨hp, rfl⟩ := hp
          refine u_top (y := (if lst (fun i => decide (mem6 14 i = 0)) k < k then nI (lst (fun i => decide (mem6 14 i = 0)) k) else (-2 : Int32))) hp ?_
          refine lv_goto (tgt := 80) S.1 S.2.1 d_Ds_avoids_66 (by decide) ?_
          exact u_iret S hr hlk hw ⟨hp48.1, fun h => absurd h h2, fun _ h => h.elim (fun y => absurd y (by omega)) (fun y => absurd rfl (y z hz)), fun _ _ i hi h => by have e := (nI_eq (by omega) (by omega)).mp h; subst e; unfold a_avo; rw [if_pos hw1, hqk, lst_congr hst]⟩ d_Ds_avoids_80
      · skip
        have hk0 : k = 0 := isth_f hk c5
        refine lv_bipush (v := (-2 : Int32)) S.1 S.2.1 d_Ds_avoids_31 (by decide) ?_
        exact u_iret S hr hlk hw ⟨fAv_rf mem, fun h => absurd h h2, fun _ _ => rfl, fun _ h => absurd h (by omega)⟩ d_Ds_avoids_33
  · skip
    have h2 := c1
    refine lv_iconst (v := (-1 : Int32)) S.1 S.2.1 d_Ds_avoids_8 (by decide) ?_
    exact u_iret S hr hlk hw ⟨fAv_rf mem, fun _ => rfl, fun h => absurd h2 h, fun h => absurd h2 h⟩ d_Ds_avoids_9
set_option maxHeartbeats 4000000 in
set_option maxRecDepth 100000 in
theorem c_Ds_now (l : Launch) (G : UG) (mem : um_M) (nn : Nat → Nat) (a0 : Int32) (n : Nat) (hn : n ≤ 24) (hnn : mem 0 4 = nI n) (c : Nat) (hc : c ≤ 6) (hcc : mem 0 5 = nI c) (hnnn : ∀ j, j < 1024 → mem 12 j = nI (nn j) ∧ nn j ≤ 300) : MetX l G y_Ds_now b_Ds_now 2 (some .int) ({ frames := 4, cells := 0, slots := 0, locals := 85 }) [.ref (G.2.1 0), .int a0] mem (fun r mem' => (s_Ds_isBelow a0 14 = 0 → r = -1) ∧ (¬ s_Ds_isBelow a0 14 = 0 → (a0 = 10 → r = (nI (cnt (fun i => decide (¬ s_Tr_isOpenIn (mem (17 + i)) (mem 0 7) = 0)) n))) ∧ (a0 = 11 → r = (s_Sp_numberOf nn (mem 3 9) (mem 4) (mem 0 7))) ∧ (a0 = 12 → r = (nI (cnt (fun i => decide (¬ s_Cm_failsIn (mem (41 + i)) (mem 0 7) = 0)) c))) ∧ (a0 = 13 → r = mem 0 8) ∧ (¬ a0 = 10 → ¬ a0 = 11 → ¬ a0 = 12 → ¬ a0 = 13 → r = s_Pk_part (mem 0 7) a0)) ∧ mem = mem') := by
  refine u_start [.ref (G.2.1 0), .int a0] (by decide) (Nat.le_of_ble_eq_true rfl) ?_
  intro p_ e_ s_ m_ bl_ me_ c_ ls S hr hlk hin hl hB
  have hw := uH_start hB
  have hl : lv_has ls 2 [(0, .ref (G.2.1 0)), (1, .int a0)] := hl
  refine lv_iload_n S.1 S.2.1 d_Ds_now_0 rfl (lv_at hl 1 rfl) ?_
  refine lv_bipush (v := (14 : Int32)) S.1 S.2.1 d_Ds_now_1 (by decide) ?_
  refine u_callp hw (va_runS (As := [.int a0, .int (14 : Int32)]) (rest := []) S (c_Ds_isBelow l a0 (14 : Int32)) ⟨u_cB S.2.2.2.2 t_Ds_isBelow ln_Ds lm_Ds_37 hd_Ds_isBelow rfl rfl ⟨Nat.le_of_ble_eq_true rfl, Nat.le_of_ble_eq_true rfl⟩, S.2.2.2.2 _ lt_Ds_isBelow⟩ (u_preP hw.1.2) rfl rfl hl.1 rfl (lv_room (Nat.le_of_ble_eq_true rfl)) d_Ds_now_3 ⟨Nat.zero_le _, Nat.zero_le _⟩) (fun r H locs hp hw => ?_)
  refine u_top (y := (s_Ds_isBelow a0 (14 : Int32))) hp ?_
  refine lv_if_ne (tgt := 11) S.1 S.2.1 d_Ds_now_6 (by decide) (fun c1 => ?_) (fun c1 => ?_)
  · skip
    have h14 := c1
    refine lv_iload_n S.1 S.2.1 d_Ds_now_11 rfl (lv_at hl 1 rfl) ?_
    by_cases c3 : a0 = (10 : Int32)
    · skip
      refine u_tab S (k := (10 : Int32)) (off := 32) (tgt := 44) c3 d_Ds_now_12 (by decide) (by decide) (by decide) (by decide) ?_
      refine lv_aload_n S.1 S.2.1 d_Ds_now_44 rfl (lv_at hl 0 rfl) ?_
      refine u_calli hw (va_runV (As := []) (rest := []) S (c_Ds_openNow l G mem n hn hnn) ⟨u_cB S.2.2.2.2 t_Ds_openNow ln_Ds lm_Ds_146 hd_Ds_openNow rfl rfl ⟨Nat.le_of_ble_eq_true rfl, Nat.le_of_ble_eq_true rfl⟩, S.2.2.2.2 _ li_Ds_openNow, S.2.2.2.2 _ ls_Ds_openNow⟩ (u_preV hw 0 (by decide) rfl rfl) rfl rfl hl.1 rfl (lv_room (Nat.le_of_ble_eq_true rfl)) d_Ds_now_45 ⟨Nat.zero_le _, Nat.zero_le _⟩) (fun r5 mem4 H locs hp hw => ?_)
      obtain ⟨hp, rfl⟩ := hp
      refine u_top (y := (nI (cnt (fun i => decide (¬ s_Tr_isOpenIn (mem (17 + i)) (mem 0 7) = 0)) n))) hp ?_
      exact u_iret S hr hlk hw ⟨fun h => absurd h h14, fun _ => ⟨fun _ => rfl, fun y => absurd (c3.symm.trans y) (by decide), fun y => absurd (c3.symm.trans y) (by decide), fun y => absurd (c3.symm.trans y) (by decide), fun y => absurd c3 y⟩, rfl⟩ d_Ds_now_48
    · skip
      by_cases c6 : a0 = (11 : Int32)
      · skip
        refine u_tab S (k := (11 : Int32)) (off := 37) (tgt := 49) c6 d_Ds_now_12 (by decide) (by decide) (by decide) (by decide) ?_
        refine lv_aload_n S.1 S.2.1 d_Ds_now_49 rfl (lv_at hl 0 rfl) ?_
        refine u_get (v := .ref (G.2.1 3)) S hw 0 (by decide) rfl rfl in_Ds 2 (by decide) lf_Ds_26 rfl d_Ds_now_50 ?_
        refine lv_aload_n S.1 S.2.1 d_Ds_now_53 rfl (lv_at hl 0 rfl) ?_
        refine u_get (v := .int (mem 0 7)) S hw 0 (by decide) rfl rfl in_Ds 7 (by decide) lf_Ds_134 rfl d_Ds_now_54 ?_
        refine u_calli hw (va_runV (As := [.int (mem 0 7)]) (rest := []) S (c_Sp_numberOf l G mem nn (mem 0 7) hnnn) ⟨u_cB S.2.2.2.2 t_Sp_numberOf ln_Sp lm_Ds_149 hd_Sp_numberOf rfl rfl ⟨Nat.le_of_ble_eq_true rfl, Nat.le_of_ble_eq_true rfl⟩, S.2.2.2.2 _ li_Sp_numberOf, S.2.2.2.2 _ ls_Sp_numberOf⟩ (u_preV hw 3 (by decide) rfl rfl) rfl rfl hl.1 rfl (lv_room (Nat.le_of_ble_eq_true rfl)) d_Ds_now_57 ⟨Nat.zero_le _, Nat.zero_le _⟩) (fun r8 mem7 H locs hp hw => ?_)
        obtain ⟨hp, rfl⟩ := hp
        refine u_top (y := (s_Sp_numberOf nn (mem 3 9) (mem 4) (mem 0 7))) hp ?_
        exact u_iret S hr hlk hw ⟨fun h => absurd h h14, fun _ => ⟨fun y => absurd y c3, fun _ => rfl, fun y => absurd (c6.symm.trans y) (by decide), fun y => absurd (c6.symm.trans y) (by decide), fun _ y => absurd c6 y⟩, rfl⟩ d_Ds_now_60
      · skip
        by_cases c9 : a0 = (12 : Int32)
        · skip
          refine u_tab S (k := (12 : Int32)) (off := 49) (tgt := 61) c9 d_Ds_now_12 (by decide) (by decide) (by decide) (by decide) ?_
          refine lv_aload_n S.1 S.2.1 d_Ds_now_61 rfl (lv_at hl 0 rfl) ?_
          refine u_calli hw (va_runV (As := []) (rest := []) S (c_Ds_failingNow l G mem c hc hcc) ⟨u_cB S.2.2.2.2 t_Ds_failingNow ln_Ds lm_Ds_152 hd_Ds_failingNow rfl rfl ⟨Nat.le_of_ble_eq_true rfl, Nat.le_of_ble_eq_true rfl⟩, S.2.2.2.2 _ li_Ds_failingNow, S.2.2.2.2 _ ls_Ds_failingNow⟩ (u_preV hw 0 (by decide) rfl rfl) rfl rfl hl.1 rfl (lv_room (Nat.le_of_ble_eq_true rfl)) d_Ds_now_62 ⟨Nat.zero_le _, Nat.zero_le _⟩) (fun r11 mem10 H locs hp hw => ?_)
          obtain ⟨hp, rfl⟩ := hp
          refine u_top (y := (nI (cnt (fun i => decide (¬ s_Cm_failsIn (mem (41 + i)) (mem 0 7) = 0)) c))) hp ?_
          exact u_iret S hr hlk hw ⟨fun h => absurd h h14, fun _ => ⟨fun y => absurd y c3, fun y => absurd y c6, fun _ => rfl, fun y => absurd (c9.symm.trans y) (by decide), fun _ _ y => absurd c9 y⟩, rfl⟩ d_Ds_now_65
        · skip
          by_cases c12 : a0 = (13 : Int32)
          · skip
            refine u_tab S (k := (13 : Int32)) (off := 54) (tgt := 66) c12 d_Ds_now_12 (by decide) (by decide) (by decide) (by decide) ?_
            refine lv_aload_n S.1 S.2.1 d_Ds_now_66 rfl (lv_at hl 0 rfl) ?_
            refine u_get (v := .int (mem 0 8)) S hw 0 (by decide) rfl rfl in_Ds 8 (by decide) lf_Ds_143 rfl d_Ds_now_67 ?_
            exact u_iret S hr hlk hw ⟨fun h => absurd h h14, fun _ => ⟨fun y => absurd y c3, fun y => absurd y c6, fun y => absurd y c9, fun _ => rfl, fun _ _ _ y => absurd c12 y⟩, rfl⟩ d_Ds_now_70
          · skip
            refine lv_tableOut (tgt := 71) S.1 S.2.1 d_Ds_now_12 (by have q0 := lv_neT c3 (a := 10) (by decide); have q1 := lv_neT c6 (a := 11) (by decide); have q2 := lv_neT c9 (a := 12) (by decide); have q3 := lv_neT c12 (a := 13) (by decide); omega) (by decide) ?_
            refine lv_aload_n S.1 S.2.1 d_Ds_now_71 rfl (lv_at hl 0 rfl) ?_
            refine u_get (v := .int (mem 0 7)) S hw 0 (by decide) rfl rfl in_Ds 7 (by decide) lf_Ds_134 rfl d_Ds_now_72 ?_
            refine lv_iload_n S.1 S.2.1 d_Ds_now_75 rfl (lv_at hl 1 rfl) ?_
            refine u_callp hw (va_runS (As := [.int (mem 0 7), .int a0]) (rest := []) S (c_Pk_part l (mem 0 7) a0) ⟨u_cB S.2.2.2.2 t_Pk_part ln_Pk lm_Ds_131 hd_Pk_part rfl rfl ⟨Nat.le_of_ble_eq_true rfl, Nat.le_of_ble_eq_true rfl⟩, S.2.2.2.2 _ lt_Pk_part⟩ (u_preP hw.1.2) rfl rfl hl.1 rfl (lv_room (Nat.le_of_ble_eq_true rfl)) d_Ds_now_76 ⟨Nat.zero_le _, Nat.zero_le _⟩) (fun r H locs hp hw => ?_)
            refine u_top (y := (s_Pk_part (mem 0 7) a0)) hp ?_
            exact u_iret S hr hlk hw ⟨fun h => absurd h h14, fun _ => ⟨fun y => absurd y c3, fun y => absurd y c6, fun y => absurd y c9, fun y => absurd y c12, fun _ _ _ _ => rfl⟩, rfl⟩ d_Ds_now_79
  · skip
    have h14 := c1
    refine lv_iconst (v := (-1 : Int32)) S.1 S.2.1 d_Ds_now_9 (by decide) ?_
    exact u_iret S hr hlk hw ⟨fun _ => rfl, fun h => absurd h14 h, rfl⟩ d_Ds_now_10
theorem cnt_x0 {a0 : Int32} (h : s_Ds_isBelow a0 7 = 0 ∧ s_Ds_isBelow (a0 - 10) 24 = 0) : ¬ a0 = 0 := fun e => absurd h.1 (by rw [e]; decide)
theorem cnt_x1 {a0 : Int32} (h : s_Ds_isBelow a0 7 = 0 ∧ s_Ds_isBelow (a0 - 10) 24 = 0) : ¬ a0 = 1 := fun e => absurd h.1 (by rw [e]; decide)
theorem b7 {a0 : Int32} (h : ¬ s_Ds_isBelow a0 7 = 0) (h0 : ¬ a0 = 0) (h1 : ¬ a0 = 1) (h2 : ¬ a0 = 2) (h3 : ¬ a0 = 3) (h4 : ¬ a0 = 4) (h5 : ¬ a0 = 5) (h6 : ¬ a0 = 6) : False := by
  obtain ⟨i, hi, e⟩ := ib_t (n := 7) (by decide) h
  rcases (show i = 0 ∨ i = 1 ∨ i = 2 ∨ i = 3 ∨ i = 4 ∨ i = 5 ∨ i = 6 by omega) with z | z | z | z | z | z | z <;> rw [z] at e
  · exact h0 e
  · exact h1 e
  · exact h2 e
  · exact h3 e
  · exact h4 e
  · exact h5 e
  · exact h6 e
set_option maxHeartbeats 4000000 in
set_option maxRecDepth 100000 in
theorem c_Ds_count (l : Launch) (G : UG) (mem : um_M) (a0 : Int32) (n : Nat) (hn : n ≤ 24) (hnn : mem 0 4 = nI n) (c : Nat) (hc : c ≤ 6) (hcc : mem 0 5 = nI c) (k : Nat) (hk : k ≤ 300) (hsz : mem 3 9 = nI k) : MetX l G y_Ds_count b_Ds_count 2 (some .int) ({ frames := 3, cells := 0, slots := 0, locals := 66 }) [.ref (G.2.1 0), .int a0] mem (fun r mem' => ((s_Ds_isBelow a0 7 = 0 ∧ s_Ds_isBelow (a0 - 10) 24 = 0) → r = -1) ∧ (a0 = 0 → r = nI n) ∧ (a0 = 1 → r = nI c) ∧ (¬ (s_Ds_isBelow a0 7 = 0 ∧ s_Ds_isBelow (a0 - 10) 24 = 0) → ¬ a0 = 0 → ¬ a0 = 1 → (k = 0 → r = -2) ∧ (0 < k → (a0 = 2 → r = nI k) ∧ (a0 = 3 → r = sm (mem 8) k) ∧ (a0 = 4 → r = mx (mem 7) k) ∧ (a0 = 5 → r = (nI (cnt (fun i => decide (mem 8 i = 0 ∧ ((0 : Int32) = 0 ∨ ¬ s_Pk_allAtLastPlace (mem 4 i) = 0))) k))) ∧ (a0 = 6 → r = (nI (cnt (fun i => decide (mem 8 i = 0 ∧ ((1 : Int32) = 0 ∨ ¬ s_Pk_allAtLastPlace (mem 4 i) = 0))) k))) ∧ (¬ a0 = 2 → ¬ a0 = 3 → ¬ a0 = 4 → ¬ a0 = 5 → ¬ a0 = 6 → (nI n ≤ a0 - 10 → r = -2) ∧ ∀ t, t < n → a0 - 10 = nI t → r = (nI (cnt (fun i => decide (¬ mem 9 (i * 24 + t) = (-2 : Int32))) k))))) ∧ mem = mem') := by
  refine u_start [.ref (G.2.1 0), .int a0] (by decide) (Nat.le_of_ble_eq_true rfl) ?_
  intro p_ e_ s_ m_ bl_ me_ c_ ls S hr hlk hin hl hB
  have hw := uH_start hB
  have hl : lv_has ls 2 [(0, .ref (G.2.1 0)), (1, .int a0)] := hl
  refine lv_iload_n S.1 S.2.1 d_Ds_count_0 rfl (lv_at hl 1 rfl) ?_
  refine lv_bipush (v := (7 : Int32)) S.1 S.2.1 d_Ds_count_1 (by decide) ?_
  refine u_callp hw (va_runS (As := [.int a0, .int (7 : Int32)]) (rest := []) S (c_Ds_isBelow l a0 (7 : Int32)) ⟨u_cB S.2.2.2.2 t_Ds_isBelow ln_Ds lm_Ds_37 hd_Ds_isBelow rfl rfl ⟨Nat.le_of_ble_eq_true rfl, Nat.le_of_ble_eq_true rfl⟩, S.2.2.2.2 _ lt_Ds_isBelow⟩ (u_preP hw.1.2) rfl rfl hl.1 rfl (lv_room (Nat.le_of_ble_eq_true rfl)) d_Ds_count_3 ⟨Nat.zero_le _, Nat.zero_le _⟩) (fun r H locs hp hw => ?_)
  refine u_top (y := (s_Ds_isBelow a0 (7 : Int32))) hp ?_
  refine lv_if_ne (tgt := 23) S.1 S.2.1 d_Ds_count_6 (by decide) (fun c1 => ?_) (fun c1 => ?_)
  · skip
    have hA3 : ¬ s_Ds_isBelow a0 7 = 0 ∨ ¬ s_Ds_isBelow (a0 - 10) 24 = 0 := Or.inl c1
    have hA1 : ¬ (s_Ds_isBelow a0 7 = 0 ∧ s_Ds_isBelow (a0 - 10) 24 = 0) := fun h => c1 h.1
    refine lv_iload_n S.1 S.2.1 d_Ds_count_23 rfl (lv_at hl 1 rfl) ?_
    refine lv_if_ne (tgt := 32) S.1 S.2.1 d_Ds_count_24 (by decide) (fun c2 => ?_) (fun c2 => ?_)
    · skip
      have hz0 := c2
      refine lv_iload_n S.1 S.2.1 d_Ds_count_32 rfl (lv_at hl 1 rfl) ?_
      refine lv_iconst (v := (1 : Int32)) S.1 S.2.1 d_Ds_count_33 (by decide) ?_
      refine lv_icmp_ne (tgt := 42) S.1 S.2.1 d_Ds_count_34 (by decide) (fun c3 => ?_) (fun c3 => ?_)
      · skip
        have hz1 := c3
        refine lv_aload_n S.1 S.2.1 d_Ds_count_42 rfl (lv_at hl 0 rfl) ?_
        refine u_get (v := .ref (G.2.1 3)) S hw 0 (by decide) rfl rfl in_Ds 2 (by decide) lf_Ds_26 rfl d_Ds_count_43 ?_
        refine u_calli hw (va_runV (As := []) (rest := []) S (c_Sp_isThere l G mem ) ⟨u_cB S.2.2.2.2 t_Sp_isThere ln_Sp lm_Ds_93 hd_Sp_isThere rfl rfl ⟨Nat.le_of_ble_eq_true rfl, Nat.le_of_ble_eq_true rfl⟩, S.2.2.2.2 _ li_Sp_isThere, S.2.2.2.2 _ ls_Sp_isThere⟩ (u_preV hw 3 (by decide) rfl rfl) rfl rfl hl.1 rfl (lv_room (Nat.le_of_ble_eq_true rfl)) d_Ds_count_46 ⟨Nat.zero_le _, Nat.zero_le _⟩) (fun r5 mem4 H locs hp hw => ?_)
        obtain ⟨hp, rfl⟩ := hp
        refine u_top (y := (s_Sp_isThere (mem 3 9))) hp ?_
        refine u_top (y := (s_Sp_isThere (nI k))) (by rw [hsz]) ?_
        refine lv_if_ne (tgt := 55) S.1 S.2.1 d_Ds_count_49 (by decide) (fun c6 => ?_) (fun c6 => ?_)
        · skip
          have hk0 : 0 < k := isth_t c6
          refine lv_iload_n S.1 S.2.1 d_Ds_count_55 rfl (lv_at hl 1 rfl) ?_
          by_cases c8 : a0 = (2 : Int32)
          · skip
            refine u_tab S (k := (2 : Int32)) (off := 36) (tgt := 92) c8 d_Ds_count_56 (by decide) (by decide) (by decide) (by decide) ?_
            refine lv_aload_n S.1 S.2.1 d_Ds_count_92 rfl (lv_at hl 0 rfl) ?_
            refine u_get (v := .ref (G.2.1 3)) S hw 0 (by decide) rfl rfl in_Ds 2 (by decide) lf_Ds_26 rfl d_Ds_count_93 ?_
            refine u_calli hw (va_runV (As := []) (rest := []) S (c_Sp_size l G mem ) ⟨u_cB S.2.2.2.2 t_Sp_size ln_Sp lm_Ds_81 hd_Sp_size rfl rfl ⟨Nat.le_of_ble_eq_true rfl, Nat.le_of_ble_eq_true rfl⟩, S.2.2.2.2 _ li_Sp_size, S.2.2.2.2 _ ls_Sp_size⟩ (u_preV hw 3 (by decide) rfl rfl) rfl rfl hl.1 rfl (lv_room (Nat.le_of_ble_eq_true rfl)) d_Ds_count_96 ⟨Nat.zero_le _, Nat.zero_le _⟩) (fun r10 mem9 H locs hp hw => ?_)
            obtain ⟨hp, rfl⟩ := hp
            refine u_top (y := (s_Sp_size (mem 3 9))) hp ?_
            exact u_iret S hr hlk hw ⟨fun h => absurd h hA1, fun h => absurd h hz0, fun h => absurd h hz1, fun _ _ _ => ⟨fun h => absurd h (by omega), fun _ => ⟨fun _ => hsz, fun y => absurd (c8.symm.trans y) (by decide), fun y => absurd (c8.symm.trans y) (by decide), fun y => absurd (c8.symm.trans y) (by decide), fun y => absurd (c8.symm.trans y) (by decide), fun y => absurd c8 y⟩⟩, rfl⟩ d_Ds_count_99
          · skip
            by_cases c11 : a0 = (3 : Int32)
            · skip
              refine u_tab S (k := (3 : Int32)) (off := 44) (tgt := 100) c11 d_Ds_count_56 (by decide) (by decide) (by decide) (by decide) ?_
              refine lv_aload_n S.1 S.2.1 d_Ds_count_100 rfl (lv_at hl 0 rfl) ?_
              refine u_get (v := .ref (G.2.1 3)) S hw 0 (by decide) rfl rfl in_Ds 2 (by decide) lf_Ds_26 rfl d_Ds_count_101 ?_
              refine u_calli hw (va_runV (As := []) (rest := []) S (c_Sp_pairs l G mem k hk hsz) ⟨u_cB S.2.2.2.2 t_Sp_pairs ln_Sp lm_Ds_155 hd_Sp_pairs rfl rfl ⟨Nat.le_of_ble_eq_true rfl, Nat.le_of_ble_eq_true rfl⟩, S.2.2.2.2 _ li_Sp_pairs, S.2.2.2.2 _ ls_Sp_pairs⟩ (u_preV hw 3 (by decide) rfl rfl) rfl rfl hl.1 rfl (lv_room (Nat.le_of_ble_eq_true rfl)) d_Ds_count_104 ⟨Nat.zero_le _, Nat.zero_le _⟩) (fun r13 mem12 H locs hp hw => ?_)
              obtain ⟨hp, rfl⟩ := hp
              refine u_top (y := (sm (mem 8) k)) hp ?_
              exact u_iret S hr hlk hw ⟨fun h => absurd h hA1, fun h => absurd h hz0, fun h => absurd h hz1, fun _ _ _ => ⟨fun h => absurd h (by omega), fun _ => ⟨fun y => absurd y c8, fun _ => rfl, fun y => absurd (c11.symm.trans y) (by decide), fun y => absurd (c11.symm.trans y) (by decide), fun y => absurd (c11.symm.trans y) (by decide), fun _ y => absurd c11 y⟩⟩, rfl⟩ d_Ds_count_107
            · skip
              by_cases c14 : a0 = (4 : Int32)
              · skip
                refine u_tab S (k := (4 : Int32)) (off := 52) (tgt := 108) c14 d_Ds_count_56 (by decide) (by decide) (by decide) (by decide) ?_
                refine lv_aload_n S.1 S.2.1 d_Ds_count_108 rfl (lv_at hl 0 rfl) ?_
                refine u_get (v := .ref (G.2.1 3)) S hw 0 (by decide) rfl rfl in_Ds 2 (by decide) lf_Ds_26 rfl d_Ds_count_109 ?_
                refine u_calli hw (va_runV (As := []) (rest := []) S (c_Sp_longestWay l G mem k hk hsz) ⟨u_cB S.2.2.2.2 t_Sp_longestWay ln_Sp lm_Ds_158 hd_Sp_longestWay rfl rfl ⟨Nat.le_of_ble_eq_true rfl, Nat.le_of_ble_eq_true rfl⟩, S.2.2.2.2 _ li_Sp_longestWay, S.2.2.2.2 _ ls_Sp_longestWay⟩ (u_preV hw 3 (by decide) rfl rfl) rfl rfl hl.1 rfl (lv_room (Nat.le_of_ble_eq_true rfl)) d_Ds_count_112 ⟨Nat.zero_le _, Nat.zero_le _⟩) (fun r16 mem15 H locs hp hw => ?_)
                obtain ⟨hp, rfl⟩ := hp
                refine u_top (y := (mx (mem 7) k)) hp ?_
                exact u_iret S hr hlk hw ⟨fun h => absurd h hA1, fun h => absurd h hz0, fun h => absurd h hz1, fun _ _ _ => ⟨fun h => absurd h (by omega), fun _ => ⟨fun y => absurd y c8, fun y => absurd y c11, fun _ => rfl, fun y => absurd (c14.symm.trans y) (by decide), fun y => absurd (c14.symm.trans y) (by decide), fun _ _ y => absurd c14 y⟩⟩, rfl⟩ d_Ds_count_115
              · skip
                by_cases c17 : a0 = (5 : Int32)
                · skip
                  refine u_tab S (k := (5 : Int32)) (off := 60) (tgt := 116) c17 d_Ds_count_56 (by decide) (by decide) (by decide) (by decide) ?_
                  refine lv_aload_n S.1 S.2.1 d_Ds_count_116 rfl (lv_at hl 0 rfl) ?_
                  refine u_get (v := .ref (G.2.1 3)) S hw 0 (by decide) rfl rfl in_Ds 2 (by decide) lf_Ds_26 rfl d_Ds_count_117 ?_
                  refine lv_iconst (v := (0 : Int32)) S.1 S.2.1 d_Ds_count_120 (by decide) ?_
                  refine u_calli hw (va_runV (As := [.int (0 : Int32)]) (rest := []) S (c_Sp_stuckStates l G mem (0 : Int32) k hk hsz) ⟨u_cB S.2.2.2.2 t_Sp_stuckStates ln_Sp lm_Ds_161 hd_Sp_stuckStates rfl rfl ⟨Nat.le_of_ble_eq_true rfl, Nat.le_of_ble_eq_true rfl⟩, S.2.2.2.2 _ li_Sp_stuckStates, S.2.2.2.2 _ ls_Sp_stuckStates⟩ (u_preV hw 3 (by decide) rfl rfl) rfl rfl hl.1 rfl (lv_room (Nat.le_of_ble_eq_true rfl)) d_Ds_count_121 ⟨Nat.zero_le _, Nat.zero_le _⟩) (fun r19 mem18 H locs hp hw => ?_)
                  obtain ⟨hp, rfl⟩ := hp
                  refine u_top (y := (nI (cnt (fun i => decide (mem 8 i = 0 ∧ ((0 : Int32) = 0 ∨ ¬ s_Pk_allAtLastPlace (mem 4 i) = 0))) k))) hp ?_
                  exact u_iret S hr hlk hw ⟨fun h => absurd h hA1, fun h => absurd h hz0, fun h => absurd h hz1, fun _ _ _ => ⟨fun h => absurd h (by omega), fun _ => ⟨fun y => absurd y c8, fun y => absurd y c11, fun y => absurd y c14, fun _ => rfl, fun y => absurd (c17.symm.trans y) (by decide), fun _ _ _ y => absurd c17 y⟩⟩, rfl⟩ d_Ds_count_124
                · skip
                  by_cases c20 : a0 = (6 : Int32)
                  · skip
                    refine u_tab S (k := (6 : Int32)) (off := 69) (tgt := 125) c20 d_Ds_count_56 (by decide) (by decide) (by decide) (by decide) ?_
                    refine lv_aload_n S.1 S.2.1 d_Ds_count_125 rfl (lv_at hl 0 rfl) ?_
                    refine u_get (v := .ref (G.2.1 3)) S hw 0 (by decide) rfl rfl in_Ds 2 (by decide) lf_Ds_26 rfl d_Ds_count_126 ?_
                    refine lv_iconst (v := (1 : Int32)) S.1 S.2.1 d_Ds_count_129 (by decide) ?_
                    refine u_calli hw (va_runV (As := [.int (1 : Int32)]) (rest := []) S (c_Sp_stuckStates l G mem (1 : Int32) k hk hsz) ⟨u_cB S.2.2.2.2 t_Sp_stuckStates ln_Sp lm_Ds_161 hd_Sp_stuckStates rfl rfl ⟨Nat.le_of_ble_eq_true rfl, Nat.le_of_ble_eq_true rfl⟩, S.2.2.2.2 _ li_Sp_stuckStates, S.2.2.2.2 _ ls_Sp_stuckStates⟩ (u_preV hw 3 (by decide) rfl rfl) rfl rfl hl.1 rfl (lv_room (Nat.le_of_ble_eq_true rfl)) d_Ds_count_130 ⟨Nat.zero_le _, Nat.zero_le _⟩) (fun r22 mem21 H locs hp hw => ?_)
                    obtain ⟨hp, rfl⟩ := hp
                    refine u_top (y := (nI (cnt (fun i => decide (mem 8 i = 0 ∧ ((1 : Int32) = 0 ∨ ¬ s_Pk_allAtLastPlace (mem 4 i) = 0))) k))) hp ?_
                    exact u_iret S hr hlk hw ⟨fun h => absurd h hA1, fun h => absurd h hz0, fun h => absurd h hz1, fun _ _ _ => ⟨fun h => absurd h (by omega), fun _ => ⟨fun y => absurd y c8, fun y => absurd y c11, fun y => absurd y c14, fun y => absurd y c17, fun _ => rfl, fun _ _ _ _ y => absurd c20 y⟩⟩, rfl⟩ d_Ds_count_133
                  · skip
                    refine lv_tableOut (tgt := 134) S.1 S.2.1 d_Ds_count_56 (by have q0 := lv_neT c8 (a := 2) (by decide); have q1 := lv_neT c11 (a := 3) (by decide); have q2 := lv_neT c14 (a := 4) (by decide); have q3 := lv_neT c17 (a := 5) (by decide); have q4 := lv_neT c20 (a := 6) (by decide); omega) (by decide) ?_
                    refine lv_iload_n S.1 S.2.1 d_Ds_count_134 rfl (lv_at hl 1 rfl) ?_
                    refine lv_bipush (v := (10 : Int32)) S.1 S.2.1 d_Ds_count_135 (by decide) ?_
                    refine lv_isub S.1 S.2.1 d_Ds_count_137 ?_
                    refine lv_aload_n S.1 S.2.1 d_Ds_count_138 rfl (lv_at hl 0 rfl) ?_
                    refine u_get (v := .int (mem 0 4)) S hw 0 (by decide) rfl rfl in_Ds 4 (by decide) lf_Ds_61 rfl d_Ds_count_139 ?_
                    refine u_top (y := (nI n)) hnn ?_
                    refine lv_icmp_ge (tgt := 159) S.1 S.2.1 d_Ds_count_142 (by decide) (fun c23 => ?_) (fun c23 => ?_)
                    · skip
                      have hge := c23
                      refine lv_bipush (v := (-2 : Int32)) S.1 S.2.1 d_Ds_count_159 (by decide) ?_
                      exact u_iret S hr hlk hw ⟨fun h => absurd h hA1, fun h => absurd h hz0, fun h => absurd h hz1, fun _ _ _ => ⟨fun h => absurd h (by omega), fun _ => ⟨fun y => absurd y c8, fun y => absurd y c11, fun y => absurd y c14, fun y => absurd y c17, fun y => absurd y c20, fun _ _ _ _ _ => ⟨fun _ => rfl, fun t ht h => absurd (by rw [h] at hge; exact nle hge (by omega) (by omega)) (Nat.not_le.mpr ht)⟩⟩⟩, rfl⟩ d_Ds_count_161
                    · skip
                      have hge := c23
                      obtain ⟨t, ht24, hzt⟩ : ∃ t, t < 24 ∧ a0 - 10 = nI t := hA3.elim (fun y => (b7 y hz0 hz1 c8 c11 c14 c17 c20).elim) (fun y => ib_t (n := 24) (by decide) y)
                      refine lv_aload_n S.1 S.2.1 d_Ds_count_145 rfl (lv_at hl 0 rfl) ?_
                      refine u_get (v := .ref (G.2.1 3)) S hw 0 (by decide) rfl rfl in_Ds 2 (by decide) lf_Ds_26 rfl d_Ds_count_146 ?_
                      refine lv_iload_n S.1 S.2.1 d_Ds_count_149 rfl (lv_at hl 1 rfl) ?_
                      refine lv_bipush (v := (10 : Int32)) S.1 S.2.1 d_Ds_count_150 (by decide) ?_
                      refine lv_isub S.1 S.2.1 d_Ds_count_152 ?_
                      refine u_top (y := (nI t)) hzt ?_
                      refine u_calli hw (va_runV (As := [.int (nI t)]) (rest := []) S (c_Sp_statesWhereOpen l G mem t (by omega) k hk hsz) ⟨u_cB S.2.2.2.2 t_Sp_statesWhereOpen ln_Sp lm_Ds_164 hd_Sp_statesWhereOpen rfl rfl ⟨Nat.le_of_ble_eq_true rfl, Nat.le_of_ble_eq_true rfl⟩, S.2.2.2.2 _ li_Sp_statesWhereOpen, S.2.2.2.2 _ ls_Sp_statesWhereOpen⟩ (u_preV hw 3 (by decide) rfl rfl) rfl rfl hl.1 rfl (lv_room (Nat.le_of_ble_eq_true rfl)) d_Ds_count_153 ⟨Nat.zero_le _, Nat.zero_le _⟩) (fun r25 mem24 H locs hp hw => ?_)
                      obtain ⟨hp, rfl⟩ := hp
                      refine u_top (y := (nI (cnt (fun i => decide (¬ mem 9 (i * 24 + t) = (-2 : Int32))) k))) hp ?_
                      refine lv_goto (tgt := 161) S.1 S.2.1 d_Ds_count_156 (by decide) ?_
                      exact u_iret S hr hlk hw ⟨fun h => absurd h hA1, fun h => absurd h hz0, fun h => absurd h hz1, fun _ _ _ => ⟨fun h => absurd h (by omega), fun _ => ⟨fun y => absurd y c8, fun y => absurd y c11, fun y => absurd y c14, fun y => absurd y c17, fun y => absurd y c20, fun _ _ _ _ _ => ⟨fun h => absurd h hge, fun t ht h => by have e := (nI_eq (by omega) (by omega)).mp (hzt.symm.trans h); subst e; rfl⟩⟩⟩, rfl⟩ d_Ds_count_161
        · skip
          have hk0 : k = 0 := isth_f hk c6
          refine lv_bipush (v := (-2 : Int32)) S.1 S.2.1 d_Ds_count_52 (by decide) ?_
          exact u_iret S hr hlk hw ⟨fun h => absurd h hA1, fun h => absurd h hz0, fun h => absurd h hz1, fun _ _ _ => ⟨fun _ => rfl, fun h => absurd h (by omega)⟩, rfl⟩ d_Ds_count_54
      · skip
        have hz1 := c3
        refine lv_aload_n S.1 S.2.1 d_Ds_count_37 rfl (lv_at hl 0 rfl) ?_
        refine u_get (v := .int (mem 0 5)) S hw 0 (by decide) rfl rfl in_Ds 5 (by decide) lf_Ds_68 rfl d_Ds_count_38 ?_
        exact u_iret S hr hlk hw ⟨fun h => absurd hz1 (cnt_x1 h), fun h => absurd h hz0, fun _ => hcc, fun _ _ h => absurd hz1 h, rfl⟩ d_Ds_count_41
    · skip
      have hz0 := c2
      refine lv_aload_n S.1 S.2.1 d_Ds_count_27 rfl (lv_at hl 0 rfl) ?_
      refine u_get (v := .int (mem 0 4)) S hw 0 (by decide) rfl rfl in_Ds 4 (by decide) lf_Ds_61 rfl d_Ds_count_28 ?_
      exact u_iret S hr hlk hw ⟨fun h => absurd hz0 (cnt_x0 h), fun _ => hnn, fun h => absurd (hz0.symm.trans h) (by decide), fun _ h => absurd hz0 h, rfl⟩ d_Ds_count_31
  · skip
    have hb1 := c1
    refine lv_iload_n S.1 S.2.1 d_Ds_count_9 rfl (lv_at hl 1 rfl) ?_
    refine lv_bipush (v := (10 : Int32)) S.1 S.2.1 d_Ds_count_10 (by decide) ?_
    refine lv_isub S.1 S.2.1 d_Ds_count_12 ?_
    refine lv_bipush (v := (24 : Int32)) S.1 S.2.1 d_Ds_count_13 (by decide) ?_
    refine u_callp hw (va_runS (As := [.int (a0 - (10 : Int32)), .int (24 : Int32)]) (rest := []) S (c_Ds_isBelow l (a0 - (10 : Int32)) (24 : Int32)) ⟨u_cB S.2.2.2.2 t_Ds_isBelow ln_Ds lm_Ds_37 hd_Ds_isBelow rfl rfl ⟨Nat.le_of_ble_eq_true rfl, Nat.le_of_ble_eq_true rfl⟩, S.2.2.2.2 _ lt_Ds_isBelow⟩ (u_preP hw.1.2) rfl rfl hl.1 rfl (lv_room (Nat.le_of_ble_eq_true rfl)) d_Ds_count_15 ⟨Nat.zero_le _, Nat.zero_le _⟩) (fun r H locs hp hw => ?_)
    refine u_top (y := (s_Ds_isBelow (a0 - (10 : Int32)) (24 : Int32))) hp ?_
    refine lv_if_ne (tgt := 23) S.1 S.2.1 d_Ds_count_18 (by decide) (fun c26 => ?_) (fun c26 => ?_)
    · skip
      have hA3 : ¬ s_Ds_isBelow a0 7 = 0 ∨ ¬ s_Ds_isBelow (a0 - 10) 24 = 0 := Or.inr c26
      have hA1 : ¬ (s_Ds_isBelow a0 7 = 0 ∧ s_Ds_isBelow (a0 - 10) 24 = 0) := fun h => c26 h.2
      refine lv_iload_n S.1 S.2.1 d_Ds_count_23 rfl (lv_at hl 1 rfl) ?_
      refine lv_if_ne (tgt := 32) S.1 S.2.1 d_Ds_count_24 (by decide) (fun c27 => ?_) (fun c27 => ?_)
      · skip
        have hz0 := c27
        refine lv_iload_n S.1 S.2.1 d_Ds_count_32 rfl (lv_at hl 1 rfl) ?_
        refine lv_iconst (v := (1 : Int32)) S.1 S.2.1 d_Ds_count_33 (by decide) ?_
        refine lv_icmp_ne (tgt := 42) S.1 S.2.1 d_Ds_count_34 (by decide) (fun c28 => ?_) (fun c28 => ?_)
        · skip
          have hz1 := c28
          refine lv_aload_n S.1 S.2.1 d_Ds_count_42 rfl (lv_at hl 0 rfl) ?_
          refine u_get (v := .ref (G.2.1 3)) S hw 0 (by decide) rfl rfl in_Ds 2 (by decide) lf_Ds_26 rfl d_Ds_count_43 ?_
          refine u_calli hw (va_runV (As := []) (rest := []) S (c_Sp_isThere l G mem ) ⟨u_cB S.2.2.2.2 t_Sp_isThere ln_Sp lm_Ds_93 hd_Sp_isThere rfl rfl ⟨Nat.le_of_ble_eq_true rfl, Nat.le_of_ble_eq_true rfl⟩, S.2.2.2.2 _ li_Sp_isThere, S.2.2.2.2 _ ls_Sp_isThere⟩ (u_preV hw 3 (by decide) rfl rfl) rfl rfl hl.1 rfl (lv_room (Nat.le_of_ble_eq_true rfl)) d_Ds_count_46 ⟨Nat.zero_le _, Nat.zero_le _⟩) (fun r30 mem29 H locs hp hw => ?_)
          obtain ⟨hp, rfl⟩ := hp
          refine u_top (y := (s_Sp_isThere (mem 3 9))) hp ?_
          refine u_top (y := (s_Sp_isThere (nI k))) (by rw [hsz]) ?_
          refine lv_if_ne (tgt := 55) S.1 S.2.1 d_Ds_count_49 (by decide) (fun c31 => ?_) (fun c31 => ?_)
          · skip
            have hk0 : 0 < k := isth_t c31
            refine lv_iload_n S.1 S.2.1 d_Ds_count_55 rfl (lv_at hl 1 rfl) ?_
            by_cases c33 : a0 = (2 : Int32)
            · skip
              refine u_tab S (k := (2 : Int32)) (off := 36) (tgt := 92) c33 d_Ds_count_56 (by decide) (by decide) (by decide) (by decide) ?_
              refine lv_aload_n S.1 S.2.1 d_Ds_count_92 rfl (lv_at hl 0 rfl) ?_
              refine u_get (v := .ref (G.2.1 3)) S hw 0 (by decide) rfl rfl in_Ds 2 (by decide) lf_Ds_26 rfl d_Ds_count_93 ?_
              refine u_calli hw (va_runV (As := []) (rest := []) S (c_Sp_size l G mem ) ⟨u_cB S.2.2.2.2 t_Sp_size ln_Sp lm_Ds_81 hd_Sp_size rfl rfl ⟨Nat.le_of_ble_eq_true rfl, Nat.le_of_ble_eq_true rfl⟩, S.2.2.2.2 _ li_Sp_size, S.2.2.2.2 _ ls_Sp_size⟩ (u_preV hw 3 (by decide) rfl rfl) rfl rfl hl.1 rfl (lv_room (Nat.le_of_ble_eq_true rfl)) d_Ds_count_96 ⟨Nat.zero_le _, Nat.zero_le _⟩) (fun r35 mem34 H locs hp hw => ?_)
              obtain ⟨hp, rfl⟩ := hp
              refine u_top (y := (s_Sp_size (mem 3 9))) hp ?_
              exact u_iret S hr hlk hw ⟨fun h => absurd h hA1, fun h => absurd h hz0, fun h => absurd h hz1, fun _ _ _ => ⟨fun h => absurd h (by omega), fun _ => ⟨fun _ => hsz, fun y => absurd (c33.symm.trans y) (by decide), fun y => absurd (c33.symm.trans y) (by decide), fun y => absurd (c33.symm.trans y) (by decide), fun y => absurd (c33.symm.trans y) (by decide), fun y => absurd c33 y⟩⟩, rfl⟩ d_Ds_count_99
            · skip
              by_cases c36 : a0 = (3 : Int32)
              · skip
                refine u_tab S (k := (3 : Int32)) (off := 44) (tgt := 100) c36 d_Ds_count_56 (by decide) (by decide) (by decide) (by decide) ?_
                refine lv_aload_n S.1 S.2.1 d_Ds_count_100 rfl (lv_at hl 0 rfl) ?_
                refine u_get (v := .ref (G.2.1 3)) S hw 0 (by decide) rfl rfl in_Ds 2 (by decide) lf_Ds_26 rfl d_Ds_count_101 ?_
                refine u_calli hw (va_runV (As := []) (rest := []) S (c_Sp_pairs l G mem k hk hsz) ⟨u_cB S.2.2.2.2 t_Sp_pairs ln_Sp lm_Ds_155 hd_Sp_pairs rfl rfl ⟨Nat.le_of_ble_eq_true rfl, Nat.le_of_ble_eq_true rfl⟩, S.2.2.2.2 _ li_Sp_pairs, S.2.2.2.2 _ ls_Sp_pairs⟩ (u_preV hw 3 (by decide) rfl rfl) rfl rfl hl.1 rfl (lv_room (Nat.le_of_ble_eq_true rfl)) d_Ds_count_104 ⟨Nat.zero_le _, Nat.zero_le _⟩) (fun r38 mem37 H locs hp hw => ?_)
                obtain ⟨hp, rfl⟩ := hp
                refine u_top (y := (sm (mem 8) k)) hp ?_
                exact u_iret S hr hlk hw ⟨fun h => absurd h hA1, fun h => absurd h hz0, fun h => absurd h hz1, fun _ _ _ => ⟨fun h => absurd h (by omega), fun _ => ⟨fun y => absurd y c33, fun _ => rfl, fun y => absurd (c36.symm.trans y) (by decide), fun y => absurd (c36.symm.trans y) (by decide), fun y => absurd (c36.symm.trans y) (by decide), fun _ y => absurd c36 y⟩⟩, rfl⟩ d_Ds_count_107
              · skip
                by_cases c39 : a0 = (4 : Int32)
                · skip
                  refine u_tab S (k := (4 : Int32)) (off := 52) (tgt := 108) c39 d_Ds_count_56 (by decide) (by decide) (by decide) (by decide) ?_
                  refine lv_aload_n S.1 S.2.1 d_Ds_count_108 rfl (lv_at hl 0 rfl) ?_
                  refine u_get (v := .ref (G.2.1 3)) S hw 0 (by decide) rfl rfl in_Ds 2 (by decide) lf_Ds_26 rfl d_Ds_count_109 ?_
                  refine u_calli hw (va_runV (As := []) (rest := []) S (c_Sp_longestWay l G mem k hk hsz) ⟨u_cB S.2.2.2.2 t_Sp_longestWay ln_Sp lm_Ds_158 hd_Sp_longestWay rfl rfl ⟨Nat.le_of_ble_eq_true rfl, Nat.le_of_ble_eq_true rfl⟩, S.2.2.2.2 _ li_Sp_longestWay, S.2.2.2.2 _ ls_Sp_longestWay⟩ (u_preV hw 3 (by decide) rfl rfl) rfl rfl hl.1 rfl (lv_room (Nat.le_of_ble_eq_true rfl)) d_Ds_count_112 ⟨Nat.zero_le _, Nat.zero_le _⟩) (fun r41 mem40 H locs hp hw => ?_)
                  obtain ⟨hp, rfl⟩ := hp
                  refine u_top (y := (mx (mem 7) k)) hp ?_
                  exact u_iret S hr hlk hw ⟨fun h => absurd h hA1, fun h => absurd h hz0, fun h => absurd h hz1, fun _ _ _ => ⟨fun h => absurd h (by omega), fun _ => ⟨fun y => absurd y c33, fun y => absurd y c36, fun _ => rfl, fun y => absurd (c39.symm.trans y) (by decide), fun y => absurd (c39.symm.trans y) (by decide), fun _ _ y => absurd c39 y⟩⟩, rfl⟩ d_Ds_count_115
                · skip
                  by_cases c42 : a0 = (5 : Int32)
                  · skip
                    refine u_tab S (k := (5 : Int32)) (off := 60) (tgt := 116) c42 d_Ds_count_56 (by decide) (by decide) (by decide) (by decide) ?_
                    refine lv_aload_n S.1 S.2.1 d_Ds_count_116 rfl (lv_at hl 0 rfl) ?_
                    refine u_get (v := .ref (G.2.1 3)) S hw 0 (by decide) rfl rfl in_Ds 2 (by decide) lf_Ds_26 rfl d_Ds_count_117 ?_
                    refine lv_iconst (v := (0 : Int32)) S.1 S.2.1 d_Ds_count_120 (by decide) ?_
                    refine u_calli hw (va_runV (As := [.int (0 : Int32)]) (rest := []) S (c_Sp_stuckStates l G mem (0 : Int32) k hk hsz) ⟨u_cB S.2.2.2.2 t_Sp_stuckStates ln_Sp lm_Ds_161 hd_Sp_stuckStates rfl rfl ⟨Nat.le_of_ble_eq_true rfl, Nat.le_of_ble_eq_true rfl⟩, S.2.2.2.2 _ li_Sp_stuckStates, S.2.2.2.2 _ ls_Sp_stuckStates⟩ (u_preV hw 3 (by decide) rfl rfl) rfl rfl hl.1 rfl (lv_room (Nat.le_of_ble_eq_true rfl)) d_Ds_count_121 ⟨Nat.zero_le _, Nat.zero_le _⟩) (fun r44 mem43 H locs hp hw => ?_)
                    obtain ⟨hp, rfl⟩ := hp
                    refine u_top (y := (nI (cnt (fun i => decide (mem 8 i = 0 ∧ ((0 : Int32) = 0 ∨ ¬ s_Pk_allAtLastPlace (mem 4 i) = 0))) k))) hp ?_
                    exact u_iret S hr hlk hw ⟨fun h => absurd h hA1, fun h => absurd h hz0, fun h => absurd h hz1, fun _ _ _ => ⟨fun h => absurd h (by omega), fun _ => ⟨fun y => absurd y c33, fun y => absurd y c36, fun y => absurd y c39, fun _ => rfl, fun y => absurd (c42.symm.trans y) (by decide), fun _ _ _ y => absurd c42 y⟩⟩, rfl⟩ d_Ds_count_124
                  · skip
                    by_cases c45 : a0 = (6 : Int32)
                    · skip
                      refine u_tab S (k := (6 : Int32)) (off := 69) (tgt := 125) c45 d_Ds_count_56 (by decide) (by decide) (by decide) (by decide) ?_
                      refine lv_aload_n S.1 S.2.1 d_Ds_count_125 rfl (lv_at hl 0 rfl) ?_
                      refine u_get (v := .ref (G.2.1 3)) S hw 0 (by decide) rfl rfl in_Ds 2 (by decide) lf_Ds_26 rfl d_Ds_count_126 ?_
                      refine lv_iconst (v := (1 : Int32)) S.1 S.2.1 d_Ds_count_129 (by decide) ?_
                      refine u_calli hw (va_runV (As := [.int (1 : Int32)]) (rest := []) S (c_Sp_stuckStates l G mem (1 : Int32) k hk hsz) ⟨u_cB S.2.2.2.2 t_Sp_stuckStates ln_Sp lm_Ds_161 hd_Sp_stuckStates rfl rfl ⟨Nat.le_of_ble_eq_true rfl, Nat.le_of_ble_eq_true rfl⟩, S.2.2.2.2 _ li_Sp_stuckStates, S.2.2.2.2 _ ls_Sp_stuckStates⟩ (u_preV hw 3 (by decide) rfl rfl) rfl rfl hl.1 rfl (lv_room (Nat.le_of_ble_eq_true rfl)) d_Ds_count_130 ⟨Nat.zero_le _, Nat.zero_le _⟩) (fun r47 mem46 H locs hp hw => ?_)
                      obtain ⟨hp, rfl⟩ := hp
                      refine u_top (y := (nI (cnt (fun i => decide (mem 8 i = 0 ∧ ((1 : Int32) = 0 ∨ ¬ s_Pk_allAtLastPlace (mem 4 i) = 0))) k))) hp ?_
                      exact u_iret S hr hlk hw ⟨fun h => absurd h hA1, fun h => absurd h hz0, fun h => absurd h hz1, fun _ _ _ => ⟨fun h => absurd h (by omega), fun _ => ⟨fun y => absurd y c33, fun y => absurd y c36, fun y => absurd y c39, fun y => absurd y c42, fun _ => rfl, fun _ _ _ _ y => absurd c45 y⟩⟩, rfl⟩ d_Ds_count_133
                    · skip
                      refine lv_tableOut (tgt := 134) S.1 S.2.1 d_Ds_count_56 (by have q0 := lv_neT c33 (a := 2) (by decide); have q1 := lv_neT c36 (a := 3) (by decide); have q2 := lv_neT c39 (a := 4) (by decide); have q3 := lv_neT c42 (a := 5) (by decide); have q4 := lv_neT c45 (a := 6) (by decide); omega) (by decide) ?_
                      refine lv_iload_n S.1 S.2.1 d_Ds_count_134 rfl (lv_at hl 1 rfl) ?_
                      refine lv_bipush (v := (10 : Int32)) S.1 S.2.1 d_Ds_count_135 (by decide) ?_
                      refine lv_isub S.1 S.2.1 d_Ds_count_137 ?_
                      refine lv_aload_n S.1 S.2.1 d_Ds_count_138 rfl (lv_at hl 0 rfl) ?_
                      refine u_get (v := .int (mem 0 4)) S hw 0 (by decide) rfl rfl in_Ds 4 (by decide) lf_Ds_61 rfl d_Ds_count_139 ?_
                      refine u_top (y := (nI n)) hnn ?_
                      refine lv_icmp_ge (tgt := 159) S.1 S.2.1 d_Ds_count_142 (by decide) (fun c48 => ?_) (fun c48 => ?_)
                      · skip
                        have hge := c48
                        refine lv_bipush (v := (-2 : Int32)) S.1 S.2.1 d_Ds_count_159 (by decide) ?_
                        exact u_iret S hr hlk hw ⟨fun h => absurd h hA1, fun h => absurd h hz0, fun h => absurd h hz1, fun _ _ _ => ⟨fun h => absurd h (by omega), fun _ => ⟨fun y => absurd y c33, fun y => absurd y c36, fun y => absurd y c39, fun y => absurd y c42, fun y => absurd y c45, fun _ _ _ _ _ => ⟨fun _ => rfl, fun t ht h => absurd (by rw [h] at hge; exact nle hge (by omega) (by omega)) (Nat.not_le.mpr ht)⟩⟩⟩, rfl⟩ d_Ds_count_161
                      · skip
                        have hge := c48
                        obtain ⟨t, ht24, hzt⟩ : ∃ t, t < 24 ∧ a0 - 10 = nI t := hA3.elim (fun y => (b7 y hz0 hz1 c33 c36 c39 c42 c45).elim) (fun y => ib_t (n := 24) (by decide) y)
                        refine lv_aload_n S.1 S.2.1 d_Ds_count_145 rfl (lv_at hl 0 rfl) ?_
                        refine u_get (v := .ref (G.2.1 3)) S hw 0 (by decide) rfl rfl in_Ds 2 (by decide) lf_Ds_26 rfl d_Ds_count_146 ?_
                        refine lv_iload_n S.1 S.2.1 d_Ds_count_149 rfl (lv_at hl 1 rfl) ?_
                        refine lv_bipush (v := (10 : Int32)) S.1 S.2.1 d_Ds_count_150 (by decide) ?_
                        refine lv_isub S.1 S.2.1 d_Ds_count_152 ?_
                        refine u_top (y := (nI t)) hzt ?_
                        refine u_calli hw (va_runV (As := [.int (nI t)]) (rest := []) S (c_Sp_statesWhereOpen l G mem t (by omega) k hk hsz) ⟨u_cB S.2.2.2.2 t_Sp_statesWhereOpen ln_Sp lm_Ds_164 hd_Sp_statesWhereOpen rfl rfl ⟨Nat.le_of_ble_eq_true rfl, Nat.le_of_ble_eq_true rfl⟩, S.2.2.2.2 _ li_Sp_statesWhereOpen, S.2.2.2.2 _ ls_Sp_statesWhereOpen⟩ (u_preV hw 3 (by decide) rfl rfl) rfl rfl hl.1 rfl (lv_room (Nat.le_of_ble_eq_true rfl)) d_Ds_count_153 ⟨Nat.zero_le _, Nat.zero_le _⟩) (fun r50 mem49 H locs hp hw => ?_)
                        obtain ⟨hp, rfl⟩ := hp
                        refine u_top (y := (nI (cnt (fun i => decide (¬ mem 9 (i * 24 + t) = (-2 : Int32))) k))) hp ?_
                        refine lv_goto (tgt := 161) S.1 S.2.1 d_Ds_count_156 (by decide) ?_
                        exact u_iret S hr hlk hw ⟨fun h => absurd h hA1, fun h => absurd h hz0, fun h => absurd h hz1, fun _ _ _ => ⟨fun h => absurd h (by omega), fun _ => ⟨fun y => absurd y c33, fun y => absurd y c36, fun y => absurd y c39, fun y => absurd y c42, fun y => absurd y c45, fun _ _ _ _ _ => ⟨fun h => absurd h hge, fun t ht h => by have e := (nI_eq (by omega) (by omega)).mp (hzt.symm.trans h); subst e; rfl⟩⟩⟩, rfl⟩ d_Ds_count_161
          · skip
            have hk0 : k = 0 := isth_f hk c31
            refine lv_bipush (v := (-2 : Int32)) S.1 S.2.1 d_Ds_count_52 (by decide) ?_
            exact u_iret S hr hlk hw ⟨fun h => absurd h hA1, fun h => absurd h hz0, fun h => absurd h hz1, fun _ _ _ => ⟨fun _ => rfl, fun h => absurd h (by omega)⟩, rfl⟩ d_Ds_count_54
        · skip
          have hz1 := c28
          refine lv_aload_n S.1 S.2.1 d_Ds_count_37 rfl (lv_at hl 0 rfl) ?_
          refine u_get (v := .int (mem 0 5)) S hw 0 (by decide) rfl rfl in_Ds 5 (by decide) lf_Ds_68 rfl d_Ds_count_38 ?_
          exact u_iret S hr hlk hw ⟨fun h => absurd hz1 (cnt_x1 h), fun h => absurd h hz0, fun _ => hcc, fun _ _ h => absurd hz1 h, rfl⟩ d_Ds_count_41
      · skip
        have hz0 := c27
        refine lv_aload_n S.1 S.2.1 d_Ds_count_27 rfl (lv_at hl 0 rfl) ?_
        refine u_get (v := .int (mem 0 4)) S hw 0 (by decide) rfl rfl in_Ds 4 (by decide) lf_Ds_61 rfl d_Ds_count_28 ?_
        exact u_iret S hr hlk hw ⟨fun h => absurd hz0 (cnt_x0 h), fun _ => hnn, fun h => absurd (hz0.symm.trans h) (by decide), fun _ h => absurd hz0 h, rfl⟩ d_Ds_count_31
    · skip
      have hA1 : s_Ds_isBelow a0 7 = 0 ∧ s_Ds_isBelow (a0 - 10) 24 = 0 := ⟨hb1, c26⟩
      refine lv_iconst (v := (-1 : Int32)) S.1 S.2.1 d_Ds_count_21 (by decide) ?_
      exact u_iret S hr hlk hw ⟨fun _ => rfl, fun h => absurd h (cnt_x0 hA1), fun h => absurd h (cnt_x1 hA1), fun h => absurd hA1 h, rfl⟩ d_Ds_count_22
