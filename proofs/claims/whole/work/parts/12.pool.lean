def s_Tr_allows (g : Nat → Int32) (a0 : Int32) : Int32 := (if (g 3) = (1 : Int32) then (if (s_Pk_variable a0 (g 4)) = (g 5) then (1 : Int32) else (0 : Int32)) else (if (g 3) = (2 : Int32) then (if (s_Pk_variable a0 (g 4)) = (g 5) then (0 : Int32) else (1 : Int32)) else (if (g 3) = (3 : Int32) then (1 : Int32) else (if (g 3) = (4 : Int32) then (1 : Int32) else (if (g 3) = (5 : Int32) then (1 : Int32) else (if (g 3) = (6 : Int32) then (if (2 : Int32) ≤ (s_Pk_channelLength a0) then (0 : Int32) else (1 : Int32)) else (if (g 3) = (7 : Int32) then (if (s_Pk_channelLength a0) ≤ (0 : Int32) then (0 : Int32) else (1 : Int32)) else (1 : Int32))))))))
set_option maxHeartbeats 4000000 in
set_option maxRecDepth 100000 in
theorem c_Tr_allows (l : Launch) (G : UG) (mem : um_M) (t : Nat) (ht : t < 24) (a0 : Int32) : MetX l G y_Tr_allows b_Tr_allows 2 (some .boolean) ({ frames := 1, cells := 0, slots := 0, locals := 21 }) [.ref (G.2.1 (17 + t)), .int a0] mem (fun r mem' => r = s_Tr_allows (mem (17 + t)) a0 ∧ mem = mem') := by
  refine u_start [.ref (G.2.1 (17 + t)), .int a0] (by decide) (Nat.le_of_ble_eq_true rfl) ?_
  intro p_ e_ s_ m_ bl_ me_ c_ ls S hr hlk hin hl hB
  have hw := uH_start hB
  have hl : lv_has ls 2 [(0, .ref (G.2.1 (17 + t))), (1, .int a0)] := hl
  refine lv_aload_n S.1 S.2.1 d_Tr_allows_0 rfl (lv_at hl 0 rfl) ?_
  refine u_get (v := .int (mem (17 + t) 3)) S hw (17 + t) (by omega) (sh_Tr t ht) rfl in_Tr 3 (by decide) lf_Tr_25 rfl d_Tr_allows_1 ?_
  by_cases c2 : (mem (17 + t) 3) = (1 : Int32)
  · skip
    refine u_tab S (k := (1 : Int32)) (off := 44) (tgt := 48) c2 d_Tr_allows_4 (by decide) (by decide) (by decide) (by decide) ?_
    refine lv_iload_n S.1 S.2.1 d_Tr_allows_48 rfl (lv_at hl 1 rfl) ?_
    refine lv_aload_n S.1 S.2.1 d_Tr_allows_49 rfl (lv_at hl 0 rfl) ?_
    refine u_get (v := .int (mem (17 + t) 4)) S hw (17 + t) (by omega) (sh_Tr t ht) rfl in_Tr 4 (by decide) lf_Tr_28 rfl d_Tr_allows_50 ?_
    refine u_callp hw (va_runS (As := [.int a0, .int (mem (17 + t) 4)]) (rest := []) S (c_Pk_variable l a0 (mem (17 + t) 4)) ⟨u_cB S.2.2.2.2 t_Pk_variable ln_Pk lm_Tr_44 hd_Pk_variable rfl rfl ⟨Nat.le_of_ble_eq_true rfl, Nat.le_of_ble_eq_true rfl⟩, S.2.2.2.2 _ lt_Pk_variable⟩ (u_preP hw.1.2) rfl rfl hl.1 rfl (lv_room (Nat.le_of_ble_eq_true rfl)) d_Tr_allows_53 ⟨Nat.zero_le _, Nat.zero_le _⟩) (fun r H locs hp hw => ?_)
    refine u_top (y := (s_Pk_variable a0 (mem (17 + t) 4))) hp ?_
    refine lv_aload_n S.1 S.2.1 d_Tr_allows_56 rfl (lv_at hl 0 rfl) ?_
    refine u_get (v := .int (mem (17 + t) 5)) S hw (17 + t) (by omega) (sh_Tr t ht) rfl in_Tr 5 (by decide) lf_Tr_31 rfl d_Tr_allows_57 ?_
    refine lv_icmp_ne (tgt := 67) S.1 S.2.1 d_Tr_allows_60 (by decide) (fun c3 => ?_) (fun c3 => ?_)
    · skip
      refine lv_iconst (v := (0 : Int32)) S.1 S.2.1 d_Tr_allows_67 (by decide) ?_
      exact u_zret S hr hlk hw (by first | rfl | assumption | exact nb01 (z_Ds_isBelow _ _)) ⟨by unfold s_Tr_allows; simp only [if_pos c2, if_neg c3], rfl⟩ d_Tr_allows_68
    · skip
      refine lv_iconst (v := (1 : Int32)) S.1 S.2.1 d_Tr_allows_63 (by decide) ?_
      refine lv_goto (tgt := 68) S.1 S.2.1 d_Tr_allows_64 (by decide) ?_
      exact u_zret S hr hlk hw (by first | rfl | assumption | exact nb01 (z_Ds_isBelow _ _)) ⟨by unfold s_Tr_allows; simp only [if_pos c2, if_pos c3], rfl⟩ d_Tr_allows_68
  · skip
    by_cases c4 : (mem (17 + t) 3) = (2 : Int32)
    · skip
      refine u_tab S (k := (2 : Int32)) (off := 65) (tgt := 69) c4 d_Tr_allows_4 (by decide) (by decide) (by decide) (by decide) ?_
      refine lv_iload_n S.1 S.2.1 d_Tr_allows_69 rfl (lv_at hl 1 rfl) ?_
      refine lv_aload_n S.1 S.2.1 d_Tr_allows_70 rfl (lv_at hl 0 rfl) ?_
      refine u_get (v := .int (mem (17 + t) 4)) S hw (17 + t) (by omega) (sh_Tr t ht) rfl in_Tr 4 (by decide) lf_Tr_28 rfl d_Tr_allows_71 ?_
      refine u_callp hw (va_runS (As := [.int a0, .int (mem (17 + t) 4)]) (rest := []) S (c_Pk_variable l a0 (mem (17 + t) 4)) ⟨u_cB S.2.2.2.2 t_Pk_variable ln_Pk lm_Tr_44 hd_Pk_variable rfl rfl ⟨Nat.le_of_ble_eq_true rfl, Nat.le_of_ble_eq_true rfl⟩, S.2.2.2.2 _ lt_Pk_variable⟩ (u_preP hw.1.2) rfl rfl hl.1 rfl (lv_room (Nat.le_of_ble_eq_true rfl)) d_Tr_allows_74 ⟨Nat.zero_le _, Nat.zero_le _⟩) (fun r H locs hp hw => ?_)
      refine u_top (y := (s_Pk_variable a0 (mem (17 + t) 4))) hp ?_
      refine lv_aload_n S.1 S.2.1 d_Tr_allows_77 rfl (lv_at hl 0 rfl) ?_
      refine u_get (v := .int (mem (17 + t) 5)) S hw (17 + t) (by omega) (sh_Tr t ht) rfl in_Tr 5 (by decide) lf_Tr_31 rfl d_Tr_allows_78 ?_
      refine lv_icmp_eq (tgt := 88) S.1 S.2.1 d_Tr_allows_81 (by decide) (fun c5 => ?_) (fun c5 => ?_)
      · skip
        refine lv_iconst (v := (0 : Int32)) S.1 S.2.1 d_Tr_allows_88 (by decide) ?_
        exact u_zret S hr hlk hw (by first | rfl | assumption | exact nb01 (z_Ds_isBelow _ _)) ⟨by unfold s_Tr_allows; simp only [if_neg c2, if_pos c4, if_pos c5], rfl⟩ d_Tr_allows_89
      · skip
        refine lv_iconst (v := (1 : Int32)) S.1 S.2.1 d_Tr_allows_84 (by decide) ?_
        refine lv_goto (tgt := 89) S.1 S.2.1 d_Tr_allows_85 (by decide) ?_
        exact u_zret S hr hlk hw (by first | rfl | assumption | exact nb01 (z_Ds_isBelow _ _)) ⟨by unfold s_Tr_allows; simp only [if_neg c2, if_pos c4, if_neg c5], rfl⟩ d_Tr_allows_89
    · skip
      by_cases c6 : (mem (17 + t) 3) = (3 : Int32)
      · skip
        refine u_tab S (k := (3 : Int32)) (off := 113) (tgt := 117) c6 d_Tr_allows_4 (by decide) (by decide) (by decide) (by decide) ?_
        refine lv_iconst (v := (1 : Int32)) S.1 S.2.1 d_Tr_allows_117 (by decide) ?_
        exact u_zret S hr hlk hw (by first | rfl | assumption | exact nb01 (z_Ds_isBelow _ _)) ⟨by unfold s_Tr_allows; simp only [if_neg c2, if_neg c4, if_pos c6], rfl⟩ d_Tr_allows_118
      · skip
        by_cases c7 : (mem (17 + t) 3) = (4 : Int32)
        · skip
          refine u_tab S (k := (4 : Int32)) (off := 113) (tgt := 117) c7 d_Tr_allows_4 (by decide) (by decide) (by decide) (by decide) ?_
          refine lv_iconst (v := (1 : Int32)) S.1 S.2.1 d_Tr_allows_117 (by decide) ?_
          exact u_zret S hr hlk hw (by first | rfl | assumption | exact nb01 (z_Ds_isBelow _ _)) ⟨by unfold s_Tr_allows; simp only [if_neg c2, if_neg c4, if_neg c6, if_pos c7], rfl⟩ d_Tr_allows_118
        · skip
          by_cases c8 : (mem (17 + t) 3) = (5 : Int32)
          · skip
            refine u_tab S (k := (5 : Int32)) (off := 113) (tgt := 117) c8 d_Tr_allows_4 (by decide) (by decide) (by decide) (by decide) ?_
            refine lv_iconst (v := (1 : Int32)) S.1 S.2.1 d_Tr_allows_117 (by decide) ?_
            exact u_zret S hr hlk hw (by first | rfl | assumption | exact nb01 (z_Ds_isBelow _ _)) ⟨by unfold s_Tr_allows; simp only [if_neg c2, if_neg c4, if_neg c6, if_neg c7, if_pos c8], rfl⟩ d_Tr_allows_118
          · skip
            by_cases c9 : (mem (17 + t) 3) = (6 : Int32)
            · skip
              refine u_tab S (k := (6 : Int32)) (off := 86) (tgt := 90) c9 d_Tr_allows_4 (by decide) (by decide) (by decide) (by decide) ?_
              refine lv_iload_n S.1 S.2.1 d_Tr_allows_90 rfl (lv_at hl 1 rfl) ?_
              refine u_callp hw (va_runS (As := [.int a0]) (rest := []) S (c_Pk_channelLength l a0) ⟨u_cB S.2.2.2.2 t_Pk_channelLength ln_Pk lm_Tr_47 hd_Pk_channelLength rfl rfl ⟨Nat.le_of_ble_eq_true rfl, Nat.le_of_ble_eq_true rfl⟩, S.2.2.2.2 _ lt_Pk_channelLength⟩ (u_preP hw.1.2) rfl rfl hl.1 rfl (lv_room (Nat.le_of_ble_eq_true rfl)) d_Tr_allows_91 ⟨Nat.zero_le _, Nat.zero_le _⟩) (fun r H locs hp hw => ?_)
              refine u_top (y := (s_Pk_channelLength a0)) hp ?_
              refine lv_iconst (v := (2 : Int32)) S.1 S.2.1 d_Tr_allows_94 (by decide) ?_
              refine lv_icmp_ge (tgt := 102) S.1 S.2.1 d_Tr_allows_95 (by decide) (fun c10 => ?_) (fun c10 => ?_)
              · skip
                refine lv_iconst (v := (0 : Int32)) S.1 S.2.1 d_Tr_allows_102 (by decide) ?_
                exact u_zret S hr hlk hw (by first | rfl | assumption | exact nb01 (z_Ds_isBelow _ _)) ⟨by unfold s_Tr_allows; simp only [if_neg c2, if_neg c4, if_neg c6, if_neg c7, if_neg c8, if_pos c9, if_pos c10], rfl⟩ d_Tr_allows_103
              · skip
                refine lv_iconst (v := (1 : Int32)) S.1 S.2.1 d_Tr_allows_98 (by decide) ?_
                refine lv_goto (tgt := 103) S.1 S.2.1 d_Tr_allows_99 (by decide) ?_
                exact u_zret S hr hlk hw (by first | rfl | assumption | exact nb01 (z_Ds_isBelow _ _)) ⟨by unfold s_Tr_allows; simp only [if_neg c2, if_neg c4, if_neg c6, if_neg c7, if_neg c8, if_pos c9, if_neg c10], rfl⟩ d_Tr_allows_103
            · skip
              by_cases c11 : (mem (17 + t) 3) = (7 : Int32)
              · skip
                refine u_tab S (k := (7 : Int32)) (off := 100) (tgt := 104) c11 d_Tr_allows_4 (by decide) (by decide) (by decide) (by decide) ?_
                refine lv_iload_n S.1 S.2.1 d_Tr_allows_104 rfl (lv_at hl 1 rfl) ?_
                refine u_callp hw (va_runS (As := [.int a0]) (rest := []) S (c_Pk_channelLength l a0) ⟨u_cB S.2.2.2.2 t_Pk_channelLength ln_Pk lm_Tr_47 hd_Pk_channelLength rfl rfl ⟨Nat.le_of_ble_eq_true rfl, Nat.le_of_ble_eq_true rfl⟩, S.2.2.2.2 _ lt_Pk_channelLength⟩ (u_preP hw.1.2) rfl rfl hl.1 rfl (lv_room (Nat.le_of_ble_eq_true rfl)) d_Tr_allows_105 ⟨Nat.zero_le _, Nat.zero_le _⟩) (fun r H locs hp hw => ?_)
                refine u_top (y := (s_Pk_channelLength a0)) hp ?_
                refine lv_if_le (tgt := 115) S.1 S.2.1 d_Tr_allows_108 (by decide) (fun c12 => ?_) (fun c12 => ?_)
                · skip
                  refine lv_iconst (v := (0 : Int32)) S.1 S.2.1 d_Tr_allows_115 (by decide) ?_
                  exact u_zret S hr hlk hw (by first | rfl | assumption | exact nb01 (z_Ds_isBelow _ _)) ⟨by unfold s_Tr_allows; simp only [if_neg c2, if_neg c4, if_neg c6, if_neg c7, if_neg c8, if_neg c9, if_pos c11, if_pos c12], rfl⟩ d_Tr_allows_116
                · skip
                  refine lv_iconst (v := (1 : Int32)) S.1 S.2.1 d_Tr_allows_111 (by decide) ?_
                  refine lv_goto (tgt := 116) S.1 S.2.1 d_Tr_allows_112 (by decide) ?_
                  exact u_zret S hr hlk hw (by first | rfl | assumption | exact nb01 (z_Ds_isBelow _ _)) ⟨by unfold s_Tr_allows; simp only [if_neg c2, if_neg c4, if_neg c6, if_neg c7, if_neg c8, if_neg c9, if_pos c11, if_neg c12], rfl⟩ d_Tr_allows_116
              · skip
                refine lv_tableOut (tgt := 117) S.1 S.2.1 d_Tr_allows_4 (by have q0 := lv_neT c2 (a := 1) (by decide); have q1 := lv_neT c4 (a := 2) (by decide); have q2 := lv_neT c6 (a := 3) (by decide); have q3 := lv_neT c7 (a := 4) (by decide); have q4 := lv_neT c8 (a := 5) (by decide); have q5 := lv_neT c9 (a := 6) (by decide); have q6 := lv_neT c11 (a := 7) (by decide); omega) (by decide) ?_
                refine lv_iconst (v := (1 : Int32)) S.1 S.2.1 d_Tr_allows_117 (by decide) ?_
                exact u_zret S hr hlk hw (by first | rfl | assumption | exact nb01 (z_Ds_isBelow _ _)) ⟨by unfold s_Tr_allows; simp only [if_neg c2, if_neg c4, if_neg c6, if_neg c7, if_neg c8, if_neg c9, if_neg c11], rfl⟩ d_Tr_allows_118
theorem z_Tr_allows (g : Nat → Int32) (a0 : Int32) : s_Tr_allows g a0 = 0 ∨ s_Tr_allows g a0 = 1 := by
  unfold s_Tr_allows
  (repeat' split) <;> first | exact Or.inl rfl | exact Or.inr rfl | exact z_Ds_isBelow _ _
def s_Tr_isOpenIn (g : Nat → Int32) (a0 : Int32) : Int32 := (if (s_Pk_place a0 (g 0)) = (g 1) then (if (s_Tr_allows g a0) = (0 : Int32) then (0 : Int32) else (1 : Int32)) else (0 : Int32))
set_option maxHeartbeats 4000000 in
set_option maxRecDepth 100000 in
theorem c_Tr_isOpenIn (l : Launch) (G : UG) (mem : um_M) (t : Nat) (ht : t < 24) (a0 : Int32) : MetX l G y_Tr_isOpenIn b_Tr_isOpenIn 2 (some .boolean) ({ frames := 2, cells := 0, slots := 0, locals := 42 }) [.ref (G.2.1 (17 + t)), .int a0] mem (fun r mem' => r = s_Tr_isOpenIn (mem (17 + t)) a0 ∧ mem = mem') := by
  refine u_start [.ref (G.2.1 (17 + t)), .int a0] (by decide) (Nat.le_of_ble_eq_true rfl) ?_
  intro p_ e_ s_ m_ bl_ me_ c_ ls S hr hlk hin hl hB
  have hw := uH_start hB
  have hl : lv_has ls 2 [(0, .ref (G.2.1 (17 + t))), (1, .int a0)] := hl
  refine lv_iload_n S.1 S.2.1 d_Tr_isOpenIn_0 rfl (lv_at hl 1 rfl) ?_
  refine lv_aload_n S.1 S.2.1 d_Tr_isOpenIn_1 rfl (lv_at hl 0 rfl) ?_
  refine u_get (v := .int (mem (17 + t) 0)) S hw (17 + t) (by omega) (sh_Tr t ht) rfl in_Tr 0 (by decide) lf_Tr_13 rfl d_Tr_isOpenIn_2 ?_
  refine u_callp hw (va_runS (As := [.int a0, .int (mem (17 + t) 0)]) (rest := []) S (c_Pk_place l a0 (mem (17 + t) 0)) ⟨u_cB S.2.2.2.2 t_Pk_place ln_Pk lm_Tr_34 hd_Pk_place rfl rfl ⟨Nat.le_of_ble_eq_true rfl, Nat.le_of_ble_eq_true rfl⟩, S.2.2.2.2 _ lt_Pk_place⟩ (u_preP hw.1.2) rfl rfl hl.1 rfl (lv_room (Nat.le_of_ble_eq_true rfl)) d_Tr_isOpenIn_5 ⟨Nat.zero_le _, Nat.zero_le _⟩) (fun r H locs hp hw => ?_)
  refine u_top (y := (s_Pk_place a0 (mem (17 + t) 0))) hp ?_
  refine lv_aload_n S.1 S.2.1 d_Tr_isOpenIn_8 rfl (lv_at hl 0 rfl) ?_
  refine u_get (v := .int (mem (17 + t) 1)) S hw (17 + t) (by omega) (sh_Tr t ht) rfl in_Tr 1 (by decide) lf_Tr_19 rfl d_Tr_isOpenIn_9 ?_
  refine lv_icmp_ne (tgt := 27) S.1 S.2.1 d_Tr_isOpenIn_12 (by decide) (fun c1 => ?_) (fun c1 => ?_)
  · skip
    refine lv_iconst (v := (0 : Int32)) S.1 S.2.1 d_Tr_isOpenIn_27 (by decide) ?_
    exact u_zret S hr hlk hw (by first | rfl | assumption | exact nb01 (z_Ds_isBelow _ _)) ⟨by unfold s_Tr_isOpenIn; simp only [if_neg c1], rfl⟩ d_Tr_isOpenIn_28
  · skip
    refine lv_aload_n S.1 S.2.1 d_Tr_isOpenIn_15 rfl (lv_at hl 0 rfl) ?_
    refine lv_iload_n S.1 S.2.1 d_Tr_isOpenIn_16 rfl (lv_at hl 1 rfl) ?_
    refine u_calli hw (va_runV (As := [.int a0]) (rest := []) S (c_Tr_allows l G mem t (by omega) a0) ⟨u_cB S.2.2.2.2 t_Tr_allows ln_Tr lm_Tr_40 hd_Tr_allows rfl rfl ⟨Nat.le_of_ble_eq_true rfl, Nat.le_of_ble_eq_true rfl⟩, S.2.2.2.2 _ li_Tr_allows, S.2.2.2.2 _ ls_Tr_allows⟩ (u_preV hw (17 + t) (by omega) (sh_Tr t ht) rfl) rfl rfl hl.1 rfl (lv_room (Nat.le_of_ble_eq_true rfl)) d_Tr_isOpenIn_17 ⟨Nat.zero_le _, Nat.zero_le _⟩) (fun r3 mem2 H locs hp hw => ?_)
    obtain ⟨hp, rfl⟩ := hp
    refine u_top (y := (s_Tr_allows (mem (17 + t)) a0)) hp ?_
    refine lv_if_eq (tgt := 27) S.1 S.2.1 d_Tr_isOpenIn_20 (by decide) (fun c4 => ?_) (fun c4 => ?_)
    · skip
      refine lv_iconst (v := (0 : Int32)) S.1 S.2.1 d_Tr_isOpenIn_27 (by decide) ?_
      exact u_zret S hr hlk hw (by first | rfl | assumption | exact nb01 (z_Ds_isBelow _ _)) ⟨by unfold s_Tr_isOpenIn; simp only [if_pos c1, if_pos c4], rfl⟩ d_Tr_isOpenIn_28
    · skip
      refine lv_iconst (v := (1 : Int32)) S.1 S.2.1 d_Tr_isOpenIn_23 (by decide) ?_
      refine lv_goto (tgt := 28) S.1 S.2.1 d_Tr_isOpenIn_24 (by decide) ?_
      exact u_zret S hr hlk hw (by first | rfl | assumption | exact nb01 (z_Ds_isBelow _ _)) ⟨by unfold s_Tr_isOpenIn; simp only [if_pos c1, if_neg c4], rfl⟩ d_Tr_isOpenIn_28
theorem z_Tr_isOpenIn (g : Nat → Int32) (a0 : Int32) : s_Tr_isOpenIn g a0 = 0 ∨ s_Tr_isOpenIn g a0 = 1 := by
  unfold s_Tr_isOpenIn
  (repeat' split) <;> first | exact Or.inl rfl | exact Or.inr rfl | exact z_Ds_isBelow _ _
def s_Tr_withEffect (g : Nat → Int32) (a0 : Int32) : Int32 := (if (g 3) = (3 : Int32) then (s_Pk_withVariable a0 (g 4) (g 5)) else (if (g 3) = (4 : Int32) then (s_Pk_withVariable a0 (g 4) (((s_Pk_variable a0 (g 4)) + (g 5)) - ((s_Pk_variable a0 (g 4)) + (g 5)) / (4 : Int32) * (4 : Int32))) else (if (g 3) = (5 : Int32) then (s_Pk_withVariable a0 (g 4) (s_Pk_variable a0 (g 5))) else (if (g 3) = (6 : Int32) then (s_Pk_withSent a0 (s_Pk_variable a0 (g 4))) else (if (g 3) = (7 : Int32) then (s_Pk_withVariable (s_Pk_withoutFirst a0) (g 4) (s_Pk_channelValue a0 (0 : Int32))) else a0)))))
set_option maxHeartbeats 4000000 in
set_option maxRecDepth 100000 in
theorem c_Tr_withEffect (l : Launch) (G : UG) (mem : um_M) (t : Nat) (ht : t < 24) (a0 : Int32) : MetX l G y_Tr_withEffect b_Tr_withEffect 3 (some .int) ({ frames := 2, cells := 0, slots := 0, locals := 43 }) [.ref (G.2.1 (17 + t)), .int a0] mem (fun r mem' => r = s_Tr_withEffect (mem (17 + t)) a0 ∧ mem = mem') := by
  refine u_start [.ref (G.2.1 (17 + t)), .int a0] (by decide) (Nat.le_of_ble_eq_true rfl) ?_
  intro p_ e_ s_ m_ bl_ me_ c_ ls S hr hlk hin hl hB
  have hw := uH_start hB
  have hl : lv_has ls 3 [(0, .ref (G.2.1 (17 + t))), (1, .int a0)] := hl
  refine lv_iload_n S.1 S.2.1 d_Tr_withEffect_0 rfl (lv_at hl 1 rfl) ?_
  refine lv_aload_n S.1 S.2.1 d_Tr_withEffect_1 rfl (lv_at hl 0 rfl) ?_
  refine u_get (v := .int (mem (17 + t) 4)) S hw (17 + t) (by omega) (sh_Tr t ht) rfl in_Tr 4 (by decide) lf_Tr_28 rfl d_Tr_withEffect_2 ?_
  refine u_callp hw (va_runS (As := [.int a0, .int (mem (17 + t) 4)]) (rest := []) S (c_Pk_variable l a0 (mem (17 + t) 4)) ⟨u_cB S.2.2.2.2 t_Pk_variable ln_Pk lm_Tr_44 hd_Pk_variable rfl rfl ⟨Nat.le_of_ble_eq_true rfl, Nat.le_of_ble_eq_true rfl⟩, S.2.2.2.2 _ lt_Pk_variable⟩ (u_preP hw.1.2) rfl rfl hl.1 rfl (lv_room (Nat.le_of_ble_eq_true rfl)) d_Tr_withEffect_5 ⟨Nat.zero_le _, Nat.zero_le _⟩) (fun r H locs hp hw => ?_)
  refine u_top (y := (s_Pk_variable a0 (mem (17 + t) 4))) hp ?_
  refine lv_istore_n (lv' := [(2, .int (s_Pk_variable a0 (mem (17 + t) 4))), (0, .ref (G.2.1 (17 + t))), (1, .int a0)]) S.1 S.2.1 d_Tr_withEffect_8 rfl hl (by decide) rfl (fun ls hl => ?_)
  refine lv_aload_n S.1 S.2.1 d_Tr_withEffect_9 rfl (lv_at hl 1 rfl) ?_
  refine u_get (v := .int (mem (17 + t) 3)) S hw (17 + t) (by omega) (sh_Tr t ht) rfl in_Tr 3 (by decide) lf_Tr_25 rfl d_Tr_withEffect_10 ?_
  by_cases c2 : (mem (17 + t) 3) = (3 : Int32)
  · skip
    refine u_tab S (k := (3 : Int32)) (off := 35) (tgt := 48) c2 d_Tr_withEffect_13 (by decide) (by decide) (by decide) (by decide) ?_
    refine lv_iload_n S.1 S.2.1 d_Tr_withEffect_48 rfl (lv_at hl 2 rfl) ?_
    refine lv_aload_n S.1 S.2.1 d_Tr_withEffect_49 rfl (lv_at hl 1 rfl) ?_
    refine u_get (v := .int (mem (17 + t) 4)) S hw (17 + t) (by omega) (sh_Tr t ht) rfl in_Tr 4 (by decide) lf_Tr_28 rfl d_Tr_withEffect_50 ?_
    refine lv_aload_n S.1 S.2.1 d_Tr_withEffect_53 rfl (lv_at hl 1 rfl) ?_
    refine u_get (v := .int (mem (17 + t) 5)) S hw (17 + t) (by omega) (sh_Tr t ht) rfl in_Tr 5 (by decide) lf_Tr_31 rfl d_Tr_withEffect_54 ?_
    refine u_callp hw (va_runS (As := [.int a0, .int (mem (17 + t) 4), .int (mem (17 + t) 5)]) (rest := []) S (c_Pk_withVariable l a0 (mem (17 + t) 4) (mem (17 + t) 5)) ⟨u_cB S.2.2.2.2 t_Pk_withVariable ln_Pk lm_Tr_58 hd_Pk_withVariable rfl rfl ⟨Nat.le_of_ble_eq_true rfl, Nat.le_of_ble_eq_true rfl⟩, S.2.2.2.2 _ lt_Pk_withVariable⟩ (u_preP hw.1.2) rfl rfl hl.1 rfl (lv_room (Nat.le_of_ble_eq_true rfl)) d_Tr_withEffect_57 ⟨Nat.zero_le _, Nat.zero_le _⟩) (fun r H locs hp hw => ?_)
    refine u_top (y := (s_Pk_withVariable a0 (mem (17 + t) 4) (mem (17 + t) 5))) hp ?_
    exact u_iret S hr hlk hw ⟨by unfold s_Tr_withEffect; simp only [if_pos c2], rfl⟩ d_Tr_withEffect_60
  · skip
    by_cases c3 : (mem (17 + t) 3) = (4 : Int32)
    · skip
      refine u_tab S (k := (4 : Int32)) (off := 48) (tgt := 61) c3 d_Tr_withEffect_13 (by decide) (by decide) (by decide) (by decide) ?_
      refine lv_iload_n S.1 S.2.1 d_Tr_withEffect_61 rfl (lv_at hl 2 rfl) ?_
      refine lv_aload_n S.1 S.2.1 d_Tr_withEffect_62 rfl (lv_at hl 1 rfl) ?_
      refine u_get (v := .int (mem (17 + t) 4)) S hw (17 + t) (by omega) (sh_Tr t ht) rfl in_Tr 4 (by decide) lf_Tr_28 rfl d_Tr_withEffect_63 ?_
      refine lv_iload_n S.1 S.2.1 d_Tr_withEffect_66 rfl (lv_at hl 0 rfl) ?_
      refine lv_aload_n S.1 S.2.1 d_Tr_withEffect_67 rfl (lv_at hl 1 rfl) ?_
      refine u_get (v := .int (mem (17 + t) 5)) S hw (17 + t) (by omega) (sh_Tr t ht) rfl in_Tr 5 (by decide) lf_Tr_31 rfl d_Tr_withEffect_68 ?_
      refine lv_iadd S.1 S.2.1 d_Tr_withEffect_71 ?_
      refine lv_iconst (v := (4 : Int32)) S.1 S.2.1 d_Tr_withEffect_72 (by decide) ?_
      refine lv_irem S.1 S.2.1 d_Tr_withEffect_73 (by decide) ?_
      refine u_callp hw (va_runS (As := [.int a0, .int (mem (17 + t) 4), .int (((s_Pk_variable a0 (mem (17 + t) 4)) + (mem (17 + t) 5)) - ((s_Pk_variable a0 (mem (17 + t) 4)) + (mem (17 + t) 5)) / (4 : Int32) * (4 : Int32))]) (rest := []) S (c_Pk_withVariable l a0 (mem (17 + t) 4) (((s_Pk_variable a0 (mem (17 + t) 4)) + (mem (17 + t) 5)) - ((s_Pk_variable a0 (mem (17 + t) 4)) + (mem (17 + t) 5)) / (4 : Int32) * (4 : Int32))) ⟨u_cB S.2.2.2.2 t_Pk_withVariable ln_Pk lm_Tr_58 hd_Pk_withVariable rfl rfl ⟨Nat.le_of_ble_eq_true rfl, Nat.le_of_ble_eq_true rfl⟩, S.2.2.2.2 _ lt_Pk_withVariable⟩ (u_preP hw.1.2) rfl rfl hl.1 rfl (lv_room (Nat.le_of_ble_eq_true rfl)) d_Tr_withEffect_74 ⟨Nat.zero_le _, Nat.zero_le _⟩) (fun r H locs hp hw => ?_)
      refine u_top (y := (s_Pk_withVariable a0 (mem (17 + t) 4) (((s_Pk_variable a0 (mem (17 + t) 4)) + (mem (17 + t) 5)) - ((s_Pk_variable a0 (mem (17 + t) 4)) + (mem (17 + t) 5)) / (4 : Int32) * (4 : Int32)))) hp ?_
      exact u_iret S hr hlk hw ⟨by unfold s_Tr_withEffect; simp only [if_neg c2, if_pos c3], rfl⟩ d_Tr_withEffect_77
    · skip
      by_cases c4 : (mem (17 + t) 3) = (5 : Int32)
      · skip
        refine u_tab S (k := (5 : Int32)) (off := 65) (tgt := 78) c4 d_Tr_withEffect_13 (by decide) (by decide) (by decide) (by decide) ?_
        refine lv_iload_n S.1 S.2.1 d_Tr_withEffect_78 rfl (lv_at hl 2 rfl) ?_
        refine lv_aload_n S.1 S.2.1 d_Tr_withEffect_79 rfl (lv_at hl 1 rfl) ?_
        refine u_get (v := .int (mem (17 + t) 4)) S hw (17 + t) (by omega) (sh_Tr t ht) rfl in_Tr 4 (by decide) lf_Tr_28 rfl d_Tr_withEffect_80 ?_
        refine lv_iload_n S.1 S.2.1 d_Tr_withEffect_83 rfl (lv_at hl 2 rfl) ?_
        refine lv_aload_n S.1 S.2.1 d_Tr_withEffect_84 rfl (lv_at hl 1 rfl) ?_
        refine u_get (v := .int (mem (17 + t) 5)) S hw (17 + t) (by omega) (sh_Tr t ht) rfl in_Tr 5 (by decide) lf_Tr_31 rfl d_Tr_withEffect_85 ?_
        refine u_callp hw (va_runS (As := [.int a0, .int (mem (17 + t) 5)]) (rest := [.int (mem (17 + t) 4), .int a0]) S (c_Pk_variable l a0 (mem (17 + t) 5)) ⟨u_cB S.2.2.2.2 t_Pk_variable ln_Pk lm_Tr_44 hd_Pk_variable rfl rfl ⟨Nat.le_of_ble_eq_true rfl, Nat.le_of_ble_eq_true rfl⟩, S.2.2.2.2 _ lt_Pk_variable⟩ (u_preP hw.1.2) rfl rfl hl.1 rfl (lv_room (Nat.le_of_ble_eq_true rfl)) d_Tr_withEffect_88 ⟨Nat.zero_le _, Nat.zero_le _⟩) (fun r H locs hp hw => ?_)
        refine u_top (y := (s_Pk_variable a0 (mem (17 + t) 5))) hp ?_
        refine u_callp hw (va_runS (As := [.int a0, .int (mem (17 + t) 4), .int (s_Pk_variable a0 (mem (17 + t) 5))]) (rest := []) S (c_Pk_withVariable l a0 (mem (17 + t) 4) (s_Pk_variable a0 (mem (17 + t) 5))) ⟨u_cB S.2.2.2.2 t_Pk_withVariable ln_Pk lm_Tr_58 hd_Pk_withVariable rfl rfl ⟨Nat.le_of_ble_eq_true rfl, Nat.le_of_ble_eq_true rfl⟩, S.2.2.2.2 _ lt_Pk_withVariable⟩ (u_preP hw.1.2) rfl rfl hl.1 rfl (lv_room (Nat.le_of_ble_eq_true rfl)) d_Tr_withEffect_91 ⟨Nat.zero_le _, Nat.zero_le _⟩) (fun r H locs hp hw => ?_)
        refine u_top (y := (s_Pk_withVariable a0 (mem (17 + t) 4) (s_Pk_variable a0 (mem (17 + t) 5)))) hp ?_
        exact u_iret S hr hlk hw ⟨by unfold s_Tr_withEffect; simp only [if_neg c2, if_neg c3, if_pos c4], rfl⟩ d_Tr_withEffect_94
      · skip
        by_cases c5 : (mem (17 + t) 3) = (6 : Int32)
        · skip
          refine u_tab S (k := (6 : Int32)) (off := 82) (tgt := 95) c5 d_Tr_withEffect_13 (by decide) (by decide) (by decide) (by decide) ?_
          refine lv_iload_n S.1 S.2.1 d_Tr_withEffect_95 rfl (lv_at hl 2 rfl) ?_
          refine lv_iload_n S.1 S.2.1 d_Tr_withEffect_96 rfl (lv_at hl 0 rfl) ?_
          refine u_callp hw (va_runS (As := [.int a0, .int (s_Pk_variable a0 (mem (17 + t) 4))]) (rest := []) S (c_Pk_withSent l a0 (s_Pk_variable a0 (mem (17 + t) 4))) ⟨u_cB S.2.2.2.2 t_Pk_withSent ln_Pk lm_Tr_61 hd_Pk_withSent rfl rfl ⟨Nat.le_of_ble_eq_true rfl, Nat.le_of_ble_eq_true rfl⟩, S.2.2.2.2 _ lt_Pk_withSent⟩ (u_preP hw.1.2) rfl rfl hl.1 rfl (lv_room (Nat.le_of_ble_eq_true rfl)) d_Tr_withEffect_97 ⟨Nat.zero_le _, Nat.zero_le _⟩) (fun r H locs hp hw => ?_)
          refine u_top (y := (s_Pk_withSent a0 (s_Pk_variable a0 (mem (17 + t) 4)))) hp ?_
          exact u_iret S hr hlk hw ⟨by unfold s_Tr_withEffect; simp only [if_neg c2, if_neg c3, if_neg c4, if_pos c5], rfl⟩ d_Tr_withEffect_100
        · skip
          by_cases c6 : (mem (17 + t) 3) = (7 : Int32)
          · skip
            refine u_tab S (k := (7 : Int32)) (off := 88) (tgt := 101) c6 d_Tr_withEffect_13 (by decide) (by decide) (by decide) (by decide) ?_
            refine lv_iload_n S.1 S.2.1 d_Tr_withEffect_101 rfl (lv_at hl 2 rfl) ?_
            refine u_callp hw (va_runS (As := [.int a0]) (rest := []) S (c_Pk_withoutFirst l a0) ⟨u_cB S.2.2.2.2 t_Pk_withoutFirst ln_Pk lm_Tr_64 hd_Pk_withoutFirst rfl rfl ⟨Nat.le_of_ble_eq_true rfl, Nat.le_of_ble_eq_true rfl⟩, S.2.2.2.2 _ lt_Pk_withoutFirst⟩ (u_preP hw.1.2) rfl rfl hl.1 rfl (lv_room (Nat.le_of_ble_eq_true rfl)) d_Tr_withEffect_102 ⟨Nat.zero_le _, Nat.zero_le _⟩) (fun r H locs hp hw => ?_)
            refine u_top (y := (s_Pk_withoutFirst a0)) hp ?_
            refine lv_aload_n S.1 S.2.1 d_Tr_withEffect_105 rfl (lv_at hl 1 rfl) ?_
            refine u_get (v := .int (mem (17 + t) 4)) S hw (17 + t) (by omega) (sh_Tr t ht) rfl in_Tr 4 (by decide) lf_Tr_28 rfl d_Tr_withEffect_106 ?_
            refine lv_iload_n S.1 S.2.1 d_Tr_withEffect_109 rfl (lv_at hl 2 rfl) ?_
            refine lv_iconst (v := (0 : Int32)) S.1 S.2.1 d_Tr_withEffect_110 (by decide) ?_
            refine u_callp hw (va_runS (As := [.int a0, .int (0 : Int32)]) (rest := [.int (mem (17 + t) 4), .int (s_Pk_withoutFirst a0)]) S (c_Pk_channelValue l a0 (0 : Int32)) ⟨u_cB S.2.2.2.2 t_Pk_channelValue ln_Pk lm_Tr_67 hd_Pk_channelValue rfl rfl ⟨Nat.le_of_ble_eq_true rfl, Nat.le_of_ble_eq_true rfl⟩, S.2.2.2.2 _ lt_Pk_channelValue⟩ (u_preP hw.1.2) rfl rfl hl.1 rfl (lv_room (Nat.le_of_ble_eq_true rfl)) d_Tr_withEffect_111 ⟨Nat.zero_le _, Nat.zero_le _⟩) (fun r H locs hp hw => ?_)
            refine u_top (y := (s_Pk_channelValue a0 (0 : Int32))) hp ?_
            refine u_callp hw (va_runS (As := [.int (s_Pk_withoutFirst a0), .int (mem (17 + t) 4), .int (s_Pk_channelValue a0 (0 : Int32))]) (rest := []) S (c_Pk_withVariable l (s_Pk_withoutFirst a0) (mem (17 + t) 4) (s_Pk_channelValue a0 (0 : Int32))) ⟨u_cB S.2.2.2.2 t_Pk_withVariable ln_Pk lm_Tr_58 hd_Pk_withVariable rfl rfl ⟨Nat.le_of_ble_eq_true rfl, Nat.le_of_ble_eq_true rfl⟩, S.2.2.2.2 _ lt_Pk_withVariable⟩ (u_preP hw.1.2) rfl rfl hl.1 rfl (lv_room (Nat.le_of_ble_eq_true rfl)) d_Tr_withEffect_114 ⟨Nat.zero_le _, Nat.zero_le _⟩) (fun r H locs hp hw => ?_)
            refine u_top (y := (s_Pk_withVariable (s_Pk_withoutFirst a0) (mem (17 + t) 4) (s_Pk_channelValue a0 (0 : Int32)))) hp ?_
            exact u_iret S hr hlk hw ⟨by unfold s_Tr_withEffect; simp only [if_neg c2, if_neg c3, if_neg c4, if_neg c5, if_pos c6], rfl⟩ d_Tr_withEffect_117
          · skip
            refine lv_tableOut (tgt := 118) S.1 S.2.1 d_Tr_withEffect_13 (by have q0 := lv_neT c2 (a := 3) (by decide); have q1 := lv_neT c3 (a := 4) (by decide); have q2 := lv_neT c4 (a := 5) (by decide); have q3 := lv_neT c5 (a := 6) (by decide); have q4 := lv_neT c6 (a := 7) (by decide); omega) (by decide) ?_
            refine lv_iload_n S.1 S.2.1 d_Tr_withEffect_118 rfl (lv_at hl 2 rfl) ?_
            exact u_iret S hr hlk hw ⟨by unfold s_Tr_withEffect; simp only [if_neg c2, if_neg c3, if_neg c4, if_neg c5, if_neg c6], rfl⟩ d_Tr_withEffect_119
def s_Tr_leadsFrom (g : Nat → Int32) (a0 : Int32) : Int32 := (s_Pk_withPlace (s_Tr_withEffect g a0) (g 0) (g 2))
set_option maxHeartbeats 4000000 in
set_option maxRecDepth 100000 in
theorem c_Tr_leadsFrom (l : Launch) (G : UG) (mem : um_M) (t : Nat) (ht : t < 24) (a0 : Int32) : MetX l G y_Tr_leadsFrom b_Tr_leadsFrom 2 (some .int) ({ frames := 3, cells := 0, slots := 0, locals := 65 }) [.ref (G.2.1 (17 + t)), .int a0] mem (fun r mem' => r = s_Tr_leadsFrom (mem (17 + t)) a0 ∧ mem = mem') := by
  refine u_start [.ref (G.2.1 (17 + t)), .int a0] (by decide) (Nat.le_of_ble_eq_true rfl) ?_
  intro p_ e_ s_ m_ bl_ me_ c_ ls S hr hlk hin hl hB
  have hw := uH_start hB
  have hl : lv_has ls 2 [(0, .ref (G.2.1 (17 + t))), (1, .int a0)] := hl
  refine lv_aload_n S.1 S.2.1 d_Tr_leadsFrom_0 rfl (lv_at hl 0 rfl) ?_
  refine lv_iload_n S.1 S.2.1 d_Tr_leadsFrom_1 rfl (lv_at hl 1 rfl) ?_
  refine u_calli hw (va_runV (As := [.int a0]) (rest := []) S (c_Tr_withEffect l G mem t (by omega) a0) ⟨u_cB S.2.2.2.2 t_Tr_withEffect ln_Tr lm_Tr_51 hd_Tr_withEffect rfl rfl ⟨Nat.le_of_ble_eq_true rfl, Nat.le_of_ble_eq_true rfl⟩, S.2.2.2.2 _ li_Tr_withEffect, S.2.2.2.2 _ ls_Tr_withEffect⟩ (u_preV hw (17 + t) (by omega) (sh_Tr t ht) rfl) rfl rfl hl.1 rfl (lv_room (Nat.le_of_ble_eq_true rfl)) d_Tr_leadsFrom_2 ⟨Nat.zero_le _, Nat.zero_le _⟩) (fun r2 mem1 H locs hp hw => ?_)
  obtain ⟨hp, rfl⟩ := hp
  refine u_top (y := (s_Tr_withEffect (mem (17 + t)) a0)) hp ?_
  refine lv_aload_n S.1 S.2.1 d_Tr_leadsFrom_5 rfl (lv_at hl 0 rfl) ?_
  refine u_get (v := .int (mem (17 + t) 0)) S hw (17 + t) (by omega) (sh_Tr t ht) rfl in_Tr 0 (by decide) lf_Tr_13 rfl d_Tr_leadsFrom_6 ?_
  refine lv_aload_n S.1 S.2.1 d_Tr_leadsFrom_9 rfl (lv_at hl 0 rfl) ?_
  refine u_get (v := .int (mem (17 + t) 2)) S hw (17 + t) (by omega) (sh_Tr t ht) rfl in_Tr 2 (by decide) lf_Tr_22 rfl d_Tr_leadsFrom_10 ?_
  refine u_callp hw (va_runS (As := [.int (s_Tr_withEffect (mem (17 + t)) a0), .int (mem (17 + t) 0), .int (mem (17 + t) 2)]) (rest := []) S (c_Pk_withPlace l (s_Tr_withEffect (mem (17 + t)) a0) (mem (17 + t) 0) (mem (17 + t) 2)) ⟨u_cB S.2.2.2.2 t_Pk_withPlace ln_Pk lm_Tr_54 hd_Pk_withPlace rfl rfl ⟨Nat.le_of_ble_eq_true rfl, Nat.le_of_ble_eq_true rfl⟩, S.2.2.2.2 _ lt_Pk_withPlace⟩ (u_preP hw.1.2) rfl rfl hl.1 rfl (lv_room (Nat.le_of_ble_eq_true rfl)) d_Tr_leadsFrom_13 ⟨Nat.zero_le _, Nat.zero_le _⟩) (fun r H locs hp hw => ?_)
  refine u_top (y := (s_Pk_withPlace (s_Tr_withEffect (mem (17 + t)) a0) (mem (17 + t) 0) (mem (17 + t) 2))) hp ?_
  exact u_iret S hr hlk hw ⟨rfl, rfl⟩ d_Tr_leadsFrom_16
def n_Tr_become (mem : um_M) (t : Nat) (a0 a1 a2 a3 : Int32) : um_M := (um_set (um_set (um_set (um_set (um_set (um_set mem (17 + t) 0 a0) (17 + t) 1 a1) (17 + t) 2 a2) (17 + t) 3 (a3 / (16 : Int32))) (17 + t) 4 ((a3 / (4 : Int32)) - (a3 / (4 : Int32)) / (4 : Int32) * (4 : Int32))) (17 + t) 5 (a3 - a3 / (4 : Int32) * (4 : Int32)))
set_option maxHeartbeats 4000000 in
set_option maxRecDepth 100000 in
theorem c_Tr_become (l : Launch) (G : UG) (mem : um_M) (t : Nat) (ht : t < 24) (a0 a1 a2 a3 : Int32) : MetXv l G y_Tr_become b_Tr_become 5 ({ frames := 0, cells := 0, slots := 0, locals := 0 }) [.ref (G.2.1 (17 + t)), .int a0, .int a1, .int a2, .int a3] mem (fun mem' => n_Tr_become mem t a0 a1 a2 a3 = mem') := by
  refine u_start [.ref (G.2.1 (17 + t)), .int a0, .int a1, .int a2, .int a3] (by decide) (Nat.le_of_ble_eq_true rfl) ?_
  intro p_ e_ s_ m_ bl_ me_ c_ ls S hr hlk hin hl hB
  have hw := uH_start hB
  have hl : lv_has ls 5 [(0, .ref (G.2.1 (17 + t))), (1, .int a0), (2, .int a1), (3, .int a2), (4, .int a3)] := hl
  refine lv_aload_n S.1 S.2.1 d_Tr_become_0 rfl (lv_at hl 0 rfl) ?_
  refine lv_iload_n S.1 S.2.1 d_Tr_become_1 rfl (lv_at hl 1 rfl) ?_
  refine u_put S hw (17 + t) (by omega) (sh_Tr t ht) rfl in_Tr ty_Tr tk_Tr nm_Tr 0 (by decide) lf_Tr_13 rfl rfl rfl rfl (Nat.le_of_ble_eq_true rfl) (sh_Tr t ht) d_Tr_become_2 (fun H locs hw => ?_)
  refine lv_aload_n S.1 S.2.1 d_Tr_become_5 rfl (lv_at hl 0 rfl) ?_
  refine lv_iload_n S.1 S.2.1 d_Tr_become_6 rfl (lv_at hl 2 rfl) ?_
  refine u_put S hw (17 + t) (by omega) (sh_Tr t ht) rfl in_Tr ty_Tr tk_Tr nm_Tr 1 (by decide) lf_Tr_19 rfl rfl rfl rfl (Nat.le_of_ble_eq_true rfl) (sh_Tr t ht) d_Tr_become_7 (fun H locs hw => ?_)
  refine lv_aload_n S.1 S.2.1 d_Tr_become_10 rfl (lv_at hl 0 rfl) ?_
  refine lv_iload_n S.1 S.2.1 d_Tr_become_11 rfl (lv_at hl 3 rfl) ?_
  refine u_put S hw (17 + t) (by omega) (sh_Tr t ht) rfl in_Tr ty_Tr tk_Tr nm_Tr 2 (by decide) lf_Tr_22 rfl rfl rfl rfl (Nat.le_of_ble_eq_true rfl) (sh_Tr t ht) d_Tr_become_12 (fun H locs hw => ?_)
  refine lv_aload_n S.1 S.2.1 d_Tr_become_15 rfl (lv_at hl 0 rfl) ?_
  refine lv_iload S.1 S.2.1 d_Tr_become_16 (lv_at hl 4 rfl) ?_
  refine lv_bipush (v := (16 : Int32)) S.1 S.2.1 d_Tr_become_18 (by decide) ?_
  refine lv_idiv S.1 S.2.1 d_Tr_become_20 (by decide) ?_
  refine u_put S hw (17 + t) (by omega) (sh_Tr t ht) rfl in_Tr ty_Tr tk_Tr nm_Tr 3 (by decide) lf_Tr_25 rfl rfl rfl rfl (Nat.le_of_ble_eq_true rfl) (sh_Tr t ht) d_Tr_become_21 (fun H locs hw => ?_)
  refine lv_aload_n S.1 S.2.1 d_Tr_become_24 rfl (lv_at hl 0 rfl) ?_
  refine lv_iload S.1 S.2.1 d_Tr_become_25 (lv_at hl 4 rfl) ?_
  refine lv_iconst (v := (4 : Int32)) S.1 S.2.1 d_Tr_become_27 (by decide) ?_
  refine lv_idiv S.1 S.2.1 d_Tr_become_28 (by decide) ?_
  refine lv_iconst (v := (4 : Int32)) S.1 S.2.1 d_Tr_become_29 (by decide) ?_
  refine lv_irem S.1 S.2.1 d_Tr_become_30 (by decide) ?_
  refine u_put S hw (17 + t) (by omega) (sh_Tr t ht) rfl in_Tr ty_Tr tk_Tr nm_Tr 4 (by decide) lf_Tr_28 rfl rfl rfl rfl (Nat.le_of_ble_eq_true rfl) (sh_Tr t ht) d_Tr_become_31 (fun H locs hw => ?_)
  refine lv_aload_n S.1 S.2.1 d_Tr_become_34 rfl (lv_at hl 0 rfl) ?_
  refine lv_iload S.1 S.2.1 d_Tr_become_35 (lv_at hl 4 rfl) ?_
  refine lv_iconst (v := (4 : Int32)) S.1 S.2.1 d_Tr_become_37 (by decide) ?_
  refine lv_irem S.1 S.2.1 d_Tr_become_38 (by decide) ?_
  refine u_put S hw (17 + t) (by omega) (sh_Tr t ht) rfl in_Tr ty_Tr tk_Tr nm_Tr 5 (by decide) lf_Tr_31 rfl rfl rfl rfl (Nat.le_of_ble_eq_true rfl) (sh_Tr t ht) d_Tr_become_39 (fun H locs hw => ?_)
  exact u_vret S hr hlk hw rfl d_Tr_become_42
def s_Cm_failsIn (g : Nat → Int32) (a0 : Int32) : Int32 := (if (g 0) = (0 : Int32) then (if (s_Pk_variable a0 (g 1)) = (g 2) then (1 : Int32) else (0 : Int32)) else (if (g 0) = (1 : Int32) then (if (s_Pk_place a0 (g 1)) = (g 2) then (1 : Int32) else (0 : Int32)) else (if (g 0) = (2 : Int32) then (if (s_Pk_place a0 (g 1)) = (s_Pk_place a0 (g 2)) then (1 : Int32) else (0 : Int32)) else (if (g 0) = (3 : Int32) then (if (s_Pk_channelLength a0) < (g 1) then (0 : Int32) else (1 : Int32)) else (if (s_Pk_variable a0 (g 1)) ≤ (s_Pk_variable a0 (g 2)) then (0 : Int32) else (1 : Int32))))))
set_option maxHeartbeats 4000000 in
set_option maxRecDepth 100000 in
theorem c_Cm_failsIn (l : Launch) (G : UG) (mem : um_M) (t : Nat) (ht : t < 6) (a0 : Int32) : MetX l G y_Cm_failsIn b_Cm_failsIn 2 (some .boolean) ({ frames := 1, cells := 0, slots := 0, locals := 21 }) [.ref (G.2.1 (41 + t)), .int a0] mem (fun r mem' => r = s_Cm_failsIn (mem (41 + t)) a0 ∧ mem = mem') := by
  refine u_start [.ref (G.2.1 (41 + t)), .int a0] (by decide) (Nat.le_of_ble_eq_true rfl) ?_
  intro p_ e_ s_ m_ bl_ me_ c_ ls S hr hlk hin hl hB
  have hw := uH_start hB
  have hl : lv_has ls 2 [(0, .ref (G.2.1 (41 + t))), (1, .int a0)] := hl
  refine lv_aload_n S.1 S.2.1 d_Cm_failsIn_0 rfl (lv_at hl 0 rfl) ?_
  refine u_get (v := .int (mem (41 + t) 0)) S hw (41 + t) (by omega) (sh_Cm t ht) rfl in_Cm 0 (by decide) lf_Cm_13 rfl d_Cm_failsIn_1 ?_
  by_cases c2 : (mem (41 + t) 0) = (0 : Int32)
  · skip
    refine u_tab S (k := (0 : Int32)) (off := 32) (tgt := 36) c2 d_Cm_failsIn_4 (by decide) (by decide) (by decide) (by decide) ?_
    refine lv_iload_n S.1 S.2.1 d_Cm_failsIn_36 rfl (lv_at hl 1 rfl) ?_
    refine lv_aload_n S.1 S.2.1 d_Cm_failsIn_37 rfl (lv_at hl 0 rfl) ?_
    refine u_get (v := .int (mem (41 + t) 1)) S hw (41 + t) (by omega) (sh_Cm t ht) rfl in_Cm 1 (by decide) lf_Cm_19 rfl d_Cm_failsIn_38 ?_
    refine u_callp hw (va_runS (As := [.int a0, .int (mem (41 + t) 1)]) (rest := []) S (c_Pk_variable l a0 (mem (41 + t) 1)) ⟨u_cB S.2.2.2.2 t_Pk_variable ln_Pk lm_Cm_25 hd_Pk_variable rfl rfl ⟨Nat.le_of_ble_eq_true rfl, Nat.le_of_ble_eq_true rfl⟩, S.2.2.2.2 _ lt_Pk_variable⟩ (u_preP hw.1.2) rfl rfl hl.1 rfl (lv_room (Nat.le_of_ble_eq_true rfl)) d_Cm_failsIn_41 ⟨Nat.zero_le _, Nat.zero_le _⟩) (fun r H locs hp hw => ?_)
    refine u_top (y := (s_Pk_variable a0 (mem (41 + t) 1))) hp ?_
    refine lv_aload_n S.1 S.2.1 d_Cm_failsIn_44 rfl (lv_at hl 0 rfl) ?_
    refine u_get (v := .int (mem (41 + t) 2)) S hw (41 + t) (by omega) (sh_Cm t ht) rfl in_Cm 2 (by decide) lf_Cm_22 rfl d_Cm_failsIn_45 ?_
    refine lv_icmp_ne (tgt := 55) S.1 S.2.1 d_Cm_failsIn_48 (by decide) (fun c3 => ?_) (fun c3 => ?_)
    · skip
      refine lv_iconst (v := (0 : Int32)) S.1 S.2.1 d_Cm_failsIn_55 (by decide) ?_
      exact u_zret S hr hlk hw (by first | rfl | assumption | exact nb01 (z_Ds_isBelow _ _)) ⟨by unfold s_Cm_failsIn; simp only [if_pos c2, if_neg c3], rfl⟩ d_Cm_failsIn_56
    · skip
      refine lv_iconst (v := (1 : Int32)) S.1 S.2.1 d_Cm_failsIn_51 (by decide) ?_
      refine lv_goto (tgt := 56) S.1 S.2.1 d_Cm_failsIn_52 (by decide) ?_
      exact u_zret S hr hlk hw (by first | rfl | assumption | exact nb01 (z_Ds_isBelow _ _)) ⟨by unfold s_Cm_failsIn; simp only [if_pos c2, if_pos c3], rfl⟩ d_Cm_failsIn_56
  · skip
    by_cases c4 : (mem (41 + t) 0) = (1 : Int32)
    · skip
      refine u_tab S (k := (1 : Int32)) (off := 53) (tgt := 57) c4 d_Cm_failsIn_4 (by decide) (by decide) (by decide) (by decide) ?_
      refine lv_iload_n S.1 S.2.1 d_Cm_failsIn_57 rfl (lv_at hl 1 rfl) ?_
      refine lv_aload_n S.1 S.2.1 d_Cm_failsIn_58 rfl (lv_at hl 0 rfl) ?_
      refine u_get (v := .int (mem (41 + t) 1)) S hw (41 + t) (by omega) (sh_Cm t ht) rfl in_Cm 1 (by decide) lf_Cm_19 rfl d_Cm_failsIn_59 ?_
      refine u_callp hw (va_runS (As := [.int a0, .int (mem (41 + t) 1)]) (rest := []) S (c_Pk_place l a0 (mem (41 + t) 1)) ⟨u_cB S.2.2.2.2 t_Pk_place ln_Pk lm_Cm_31 hd_Pk_place rfl rfl ⟨Nat.le_of_ble_eq_true rfl, Nat.le_of_ble_eq_true rfl⟩, S.2.2.2.2 _ lt_Pk_place⟩ (u_preP hw.1.2) rfl rfl hl.1 rfl (lv_room (Nat.le_of_ble_eq_true rfl)) d_Cm_failsIn_62 ⟨Nat.zero_le _, Nat.zero_le _⟩) (fun r H locs hp hw => ?_)
      refine u_top (y := (s_Pk_place a0 (mem (41 + t) 1))) hp ?_
      refine lv_aload_n S.1 S.2.1 d_Cm_failsIn_65 rfl (lv_at hl 0 rfl) ?_
      refine u_get (v := .int (mem (41 + t) 2)) S hw (41 + t) (by omega) (sh_Cm t ht) rfl in_Cm 2 (by decide) lf_Cm_22 rfl d_Cm_failsIn_66 ?_
      refine lv_icmp_ne (tgt := 76) S.1 S.2.1 d_Cm_failsIn_69 (by decide) (fun c5 => ?_) (fun c5 => ?_)
      · skip
        refine lv_iconst (v := (0 : Int32)) S.1 S.2.1 d_Cm_failsIn_76 (by decide) ?_
        exact u_zret S hr hlk hw (by first | rfl | assumption | exact nb01 (z_Ds_isBelow _ _)) ⟨by unfold s_Cm_failsIn; simp only [if_neg c2, if_pos c4, if_neg c5], rfl⟩ d_Cm_failsIn_77
      · skip
        refine lv_iconst (v := (1 : Int32)) S.1 S.2.1 d_Cm_failsIn_72 (by decide) ?_
        refine lv_goto (tgt := 77) S.1 S.2.1 d_Cm_failsIn_73 (by decide) ?_
        exact u_zret S hr hlk hw (by first | rfl | assumption | exact nb01 (z_Ds_isBelow _ _)) ⟨by unfold s_Cm_failsIn; simp only [if_neg c2, if_pos c4, if_pos c5], rfl⟩ d_Cm_failsIn_77
    · skip
      by_cases c6 : (mem (41 + t) 0) = (2 : Int32)
      · skip
        refine u_tab S (k := (2 : Int32)) (off := 74) (tgt := 78) c6 d_Cm_failsIn_4 (by decide) (by decide) (by decide) (by decide) ?_
        refine lv_iload_n S.1 S.2.1 d_Cm_failsIn_78 rfl (lv_at hl 1 rfl) ?_
        refine lv_aload_n S.1 S.2.1 d_Cm_failsIn_79 rfl (lv_at hl 0 rfl) ?_
        refine u_get (v := .int (mem (41 + t) 1)) S hw (41 + t) (by omega) (sh_Cm t ht) rfl in_Cm 1 (by decide) lf_Cm_19 rfl d_Cm_failsIn_80 ?_
        refine u_callp hw (va_runS (As := [.int a0, .int (mem (41 + t) 1)]) (rest := []) S (c_Pk_place l a0 (mem (41 + t) 1)) ⟨u_cB S.2.2.2.2 t_Pk_place ln_Pk lm_Cm_31 hd_Pk_place rfl rfl ⟨Nat.le_of_ble_eq_true rfl, Nat.le_of_ble_eq_true rfl⟩, S.2.2.2.2 _ lt_Pk_place⟩ (u_preP hw.1.2) rfl rfl hl.1 rfl (lv_room (Nat.le_of_ble_eq_true rfl)) d_Cm_failsIn_83 ⟨Nat.zero_le _, Nat.zero_le _⟩) (fun r H locs hp hw => ?_)
        refine u_top (y := (s_Pk_place a0 (mem (41 + t) 1))) hp ?_
        refine lv_iload_n S.1 S.2.1 d_Cm_failsIn_86 rfl (lv_at hl 1 rfl) ?_
        refine lv_aload_n S.1 S.2.1 d_Cm_failsIn_87 rfl (lv_at hl 0 rfl) ?_
        refine u_get (v := .int (mem (41 + t) 2)) S hw (41 + t) (by omega) (sh_Cm t ht) rfl in_Cm 2 (by decide) lf_Cm_22 rfl d_Cm_failsIn_88 ?_
        refine u_callp hw (va_runS (As := [.int a0, .int (mem (41 + t) 2)]) (rest := [.int (s_Pk_place a0 (mem (41 + t) 1))]) S (c_Pk_place l a0 (mem (41 + t) 2)) ⟨u_cB S.2.2.2.2 t_Pk_place ln_Pk lm_Cm_31 hd_Pk_place rfl rfl ⟨Nat.le_of_ble_eq_true rfl, Nat.le_of_ble_eq_true rfl⟩, S.2.2.2.2 _ lt_Pk_place⟩ (u_preP hw.1.2) rfl rfl hl.1 rfl (lv_room (Nat.le_of_ble_eq_true rfl)) d_Cm_failsIn_91 ⟨Nat.zero_le _, Nat.zero_le _⟩) (fun r H locs hp hw => ?_)
        refine u_top (y := (s_Pk_place a0 (mem (41 + t) 2))) hp ?_
        refine lv_icmp_ne (tgt := 101) S.1 S.2.1 d_Cm_failsIn_94 (by decide) (fun c7 => ?_) (fun c7 => ?_)
        · skip
          refine lv_iconst (v := (0 : Int32)) S.1 S.2.1 d_Cm_failsIn_101 (by decide) ?_
          exact u_zret S hr hlk hw (by first | rfl | assumption | exact nb01 (z_Ds_isBelow _ _)) ⟨by unfold s_Cm_failsIn; simp only [if_neg c2, if_neg c4, if_pos c6, if_neg c7], rfl⟩ d_Cm_failsIn_102
        · skip
          refine lv_iconst (v := (1 : Int32)) S.1 S.2.1 d_Cm_failsIn_97 (by decide) ?_
          refine lv_goto (tgt := 102) S.1 S.2.1 d_Cm_failsIn_98 (by decide) ?_
          exact u_zret S hr hlk hw (by first | rfl | assumption | exact nb01 (z_Ds_isBelow _ _)) ⟨by unfold s_Cm_failsIn; simp only [if_neg c2, if_neg c4, if_pos c6, if_pos c7], rfl⟩ d_Cm_failsIn_102
      · skip
        by_cases c8 : (mem (41 + t) 0) = (3 : Int32)
        · skip
          refine u_tab S (k := (3 : Int32)) (off := 99) (tgt := 103) c8 d_Cm_failsIn_4 (by decide) (by decide) (by decide) (by decide) ?_
          refine lv_iload_n S.1 S.2.1 d_Cm_failsIn_103 rfl (lv_at hl 1 rfl) ?_
          refine u_callp hw (va_runS (As := [.int a0]) (rest := []) S (c_Pk_channelLength l a0) ⟨u_cB S.2.2.2.2 t_Pk_channelLength ln_Pk lm_Cm_34 hd_Pk_channelLength rfl rfl ⟨Nat.le_of_ble_eq_true rfl, Nat.le_of_ble_eq_true rfl⟩, S.2.2.2.2 _ lt_Pk_channelLength⟩ (u_preP hw.1.2) rfl rfl hl.1 rfl (lv_room (Nat.le_of_ble_eq_true rfl)) d_Cm_failsIn_104 ⟨Nat.zero_le _, Nat.zero_le _⟩) (fun r H locs hp hw => ?_)
          refine u_top (y := (s_Pk_channelLength a0)) hp ?_
          refine lv_aload_n S.1 S.2.1 d_Cm_failsIn_107 rfl (lv_at hl 0 rfl) ?_
          refine u_get (v := .int (mem (41 + t) 1)) S hw (41 + t) (by omega) (sh_Cm t ht) rfl in_Cm 1 (by decide) lf_Cm_19 rfl d_Cm_failsIn_108 ?_
          refine lv_icmp_lt (tgt := 118) S.1 S.2.1 d_Cm_failsIn_111 (by decide) (fun c9 => ?_) (fun c9 => ?_)
          · skip
            refine lv_iconst (v := (0 : Int32)) S.1 S.2.1 d_Cm_failsIn_118 (by decide) ?_
            exact u_zret S hr hlk hw (by first | rfl | assumption | exact nb01 (z_Ds_isBelow _ _)) ⟨by unfold s_Cm_failsIn; simp only [if_neg c2, if_neg c4, if_neg c6, if_pos c8, if_pos c9], rfl⟩ d_Cm_failsIn_119
          · skip
            refine lv_iconst (v := (1 : Int32)) S.1 S.2.1 d_Cm_failsIn_114 (by decide) ?_
            refine lv_goto (tgt := 119) S.1 S.2.1 d_Cm_failsIn_115 (by decide) ?_
            exact u_zret S hr hlk hw (by first | rfl | assumption | exact nb01 (z_Ds_isBelow _ _)) ⟨by unfold s_Cm_failsIn; simp only [if_neg c2, if_neg c4, if_neg c6, if_pos c8, if_neg c9], rfl⟩ d_Cm_failsIn_119
        · skip
          refine lv_tableOut (tgt := 120) S.1 S.2.1 d_Cm_failsIn_4 (by have q0 := lv_neT c2 (a := 0) (by decide); have q1 := lv_neT c4 (a := 1) (by decide); have q2 := lv_neT c6 (a := 2) (by decide); have q3 := lv_neT c8 (a := 3) (by decide); omega) (by decide) ?_
          refine lv_iload_n S.1 S.2.1 d_Cm_failsIn_120 rfl (lv_at hl 1 rfl) ?_
          refine lv_aload_n S.1 S.2.1 d_Cm_failsIn_121 rfl (lv_at hl 0 rfl) ?_
          refine u_get (v := .int (mem (41 + t) 1)) S hw (41 + t) (by omega) (sh_Cm t ht) rfl in_Cm 1 (by decide) lf_Cm_19 rfl d_Cm_failsIn_122 ?_
          refine u_callp hw (va_runS (As := [.int a0, .int (mem (41 + t) 1)]) (rest := []) S (c_Pk_variable l a0 (mem (41 + t) 1)) ⟨u_cB S.2.2.2.2 t_Pk_variable ln_Pk lm_Cm_25 hd_Pk_variable rfl rfl ⟨Nat.le_of_ble_eq_true rfl, Nat.le_of_ble_eq_true rfl⟩, S.2.2.2.2 _ lt_Pk_variable⟩ (u_preP hw.1.2) rfl rfl hl.1 rfl (lv_room (Nat.le_of_ble_eq_true rfl)) d_Cm_failsIn_125 ⟨Nat.zero_le _, Nat.zero_le _⟩) (fun r H locs hp hw => ?_)
          refine u_top (y := (s_Pk_variable a0 (mem (41 + t) 1))) hp ?_
          refine lv_iload_n S.1 S.2.1 d_Cm_failsIn_128 rfl (lv_at hl 1 rfl) ?_
          refine lv_aload_n S.1 S.2.1 d_Cm_failsIn_129 rfl (lv_at hl 0 rfl) ?_
          refine u_get (v := .int (mem (41 + t) 2)) S hw (41 + t) (by omega) (sh_Cm t ht) rfl in_Cm 2 (by decide) lf_Cm_22 rfl d_Cm_failsIn_130 ?_
          refine u_callp hw (va_runS (As := [.int a0, .int (mem (41 + t) 2)]) (rest := [.int (s_Pk_variable a0 (mem (41 + t) 1))]) S (c_Pk_variable l a0 (mem (41 + t) 2)) ⟨u_cB S.2.2.2.2 t_Pk_variable ln_Pk lm_Cm_25 hd_Pk_variable rfl rfl ⟨Nat.le_of_ble_eq_true rfl, Nat.le_of_ble_eq_true rfl⟩, S.2.2.2.2 _ lt_Pk_variable⟩ (u_preP hw.1.2) rfl rfl hl.1 rfl (lv_room (Nat.le_of_ble_eq_true rfl)) d_Cm_failsIn_133 ⟨Nat.zero_le _, Nat.zero_le _⟩) (fun r H locs hp hw => ?_)
          refine u_top (y := (s_Pk_variable a0 (mem (41 + t) 2))) hp ?_
          refine lv_icmp_le (tgt := 143) S.1 S.2.1 d_Cm_failsIn_136 (by decide) (fun c10 => ?_) (fun c10 => ?_)
          · skip
            refine lv_iconst (v := (0 : Int32)) S.1 S.2.1 d_Cm_failsIn_143 (by decide) ?_
            exact u_zret S hr hlk hw (by first | rfl | assumption | exact nb01 (z_Ds_isBelow _ _)) ⟨by unfold s_Cm_failsIn; simp only [if_neg c2, if_neg c4, if_neg c6, if_neg c8, if_pos c10], rfl⟩ d_Cm_failsIn_144
          · skip
            refine lv_iconst (v := (1 : Int32)) S.1 S.2.1 d_Cm_failsIn_139 (by decide) ?_
            refine lv_goto (tgt := 144) S.1 S.2.1 d_Cm_failsIn_140 (by decide) ?_
            exact u_zret S hr hlk hw (by first | rfl | assumption | exact nb01 (z_Ds_isBelow _ _)) ⟨by unfold s_Cm_failsIn; simp only [if_neg c2, if_neg c4, if_neg c6, if_neg c8, if_neg c10], rfl⟩ d_Cm_failsIn_144
theorem z_Cm_failsIn (g : Nat → Int32) (a0 : Int32) : s_Cm_failsIn g a0 = 0 ∨ s_Cm_failsIn g a0 = 1 := by
  unfold s_Cm_failsIn
  (repeat' split) <;> first | exact Or.inl rfl | exact Or.inr rfl | exact z_Ds_isBelow _ _
def n_Cm_become (mem : um_M) (t : Nat) (a0 a1 a2 : Int32) : um_M := (um_set (um_set (um_set mem (41 + t) 0 a0) (41 + t) 1 a1) (41 + t) 2 a2)
set_option maxHeartbeats 4000000 in
set_option maxRecDepth 100000 in
theorem c_Cm_become (l : Launch) (G : UG) (mem : um_M) (t : Nat) (ht : t < 6) (a0 a1 a2 : Int32) : MetXv l G y_Cm_become b_Cm_become 4 ({ frames := 0, cells := 0, slots := 0, locals := 0 }) [.ref (G.2.1 (41 + t)), .int a0, .int a1, .int a2] mem (fun mem' => n_Cm_become mem t a0 a1 a2 = mem') := by
  refine u_start [.ref (G.2.1 (41 + t)), .int a0, .int a1, .int a2] (by decide) (Nat.le_of_ble_eq_true rfl) ?_
  intro p_ e_ s_ m_ bl_ me_ c_ ls S hr hlk hin hl hB
  have hw := uH_start hB
  have hl : lv_has ls 4 [(0, .ref (G.2.1 (41 + t))), (1, .int a0), (2, .int a1), (3, .int a2)] := hl
  refine lv_aload_n S.1 S.2.1 d_Cm_become_0 rfl (lv_at hl 0 rfl) ?_
  refine lv_iload_n S.1 S.2.1 d_Cm_become_1 rfl (lv_at hl 1 rfl) ?_
  refine u_put S hw (41 + t) (by omega) (sh_Cm t ht) rfl in_Cm ty_Cm tk_Cm nm_Cm 0 (by decide) lf_Cm_13 rfl rfl rfl rfl (Nat.le_of_ble_eq_true rfl) (sh_Cm t ht) d_Cm_become_2 (fun H locs hw => ?_)
  refine lv_aload_n S.1 S.2.1 d_Cm_become_5 rfl (lv_at hl 0 rfl) ?_
  refine lv_iload_n S.1 S.2.1 d_Cm_become_6 rfl (lv_at hl 2 rfl) ?_
  refine u_put S hw (41 + t) (by omega) (sh_Cm t ht) rfl in_Cm ty_Cm tk_Cm nm_Cm 1 (by decide) lf_Cm_19 rfl rfl rfl rfl (Nat.le_of_ble_eq_true rfl) (sh_Cm t ht) d_Cm_become_7 (fun H locs hw => ?_)
  refine lv_aload_n S.1 S.2.1 d_Cm_become_10 rfl (lv_at hl 0 rfl) ?_
  refine lv_iload_n S.1 S.2.1 d_Cm_become_11 rfl (lv_at hl 3 rfl) ?_
  refine u_put S hw (41 + t) (by omega) (sh_Cm t ht) rfl in_Cm ty_Cm tk_Cm nm_Cm 2 (by decide) lf_Cm_22 rfl rfl rfl rfl (Nat.le_of_ble_eq_true rfl) (sh_Cm t ht) d_Cm_become_12 (fun H locs hw => ?_)
  exact u_vret S hr hlk hw rfl d_Cm_become_15
