def s_Mo_isOpen (q1_t q2_t q4_t : Int32) (a0 : Int32) : Int32 := (if (s_Mo_placeOf a0 q1_t) = q2_t then (if (q4_t / (16 : Int32)) = (1 : Int32) then (if (s_Mo_valueOf a0 ((q4_t / (4 : Int32)) - (q4_t / (4 : Int32)) / (4 : Int32) * (4 : Int32))) = (q4_t - q4_t / (4 : Int32) * (4 : Int32)) then (1 : Int32) else (0 : Int32)) else (if (q4_t / (16 : Int32)) = (2 : Int32) then (if (s_Mo_valueOf a0 ((q4_t / (4 : Int32)) - (q4_t / (4 : Int32)) / (4 : Int32) * (4 : Int32))) = (q4_t - q4_t / (4 : Int32) * (4 : Int32)) then (0 : Int32) else (1 : Int32)) else (if (q4_t / (16 : Int32)) < (6 : Int32) then (1 : Int32) else (if (q4_t / (16 : Int32)) = (6 : Int32) then (if (2 : Int32) ≤ (s_Mo_sent a0) then (0 : Int32) else (1 : Int32)) else (if (s_Mo_sent a0) ≤ (0 : Int32) then (0 : Int32) else (1 : Int32)))))) else (0 : Int32))
set_option maxHeartbeats 4000000 in
set_option maxRecDepth 100000 in
theorem c_Mo_isOpen (l : Launch) (G : UG) (mem : um_M)  (a0 : Int32) (t : Nat) (ht : t < 24)  : MetM l G y_Mo_isOpen b_Mo_isOpen 6 (some .boolean) ({ frames := 1, cells := 0, slots := 0, locals := 21 }) [.ref (G.2.1 0), .int a0, .int (nI t)] mem (fun r mem' => r = s_Mo_isOpen (mem 1 t) (mem 2 t) (mem 4 t) a0 ∧ mem = mem') := by
  refine u_start [.ref (G.2.1 0), .int a0, .int (nI t)] (by decide) (Nat.le_of_ble_eq_true rfl) ?_
  intro p_ e_ s_ m_ bl_ me_ c_ ls S hr hlk hin hl hB
  have hw := uH_start hB
  have hl : lv_has ls 6 [(0, .ref (G.2.1 0)), (1, .int a0), (2, .int (nI t))] := hl
  refine lv_aload_n S.1 S.2.1 d_Mo_isOpen_0 rfl (lv_at hl 0 rfl) ?_
  refine u_get (v := .ref (G.2.1 4)) S hw 0 (by decide) rfl rfl in_Mo 3 (by decide) lf_Mo_19 rfl d_Mo_isOpen_1 ?_
  refine lv_iload_n S.1 S.2.1 d_Mo_isOpen_4 rfl (lv_at hl 2 rfl) ?_
  refine u_iaN S hw 4 0 (by decide) rfl rfl (j := t) rfl (by omega) (by decide) d_Mo_isOpen_5 ?_
  refine lv_bipush (v := (16 : Int32)) S.1 S.2.1 d_Mo_isOpen_6 (by decide) ?_
  refine lv_idiv S.1 S.2.1 d_Mo_isOpen_8 (by decide) ?_
  refine lv_istore_n (lv' := [(3, .int ((mem 4 t) / (16 : Int32))), (0, .ref (G.2.1 0)), (1, .int a0), (2, .int (nI t))]) S.1 S.2.1 d_Mo_isOpen_9 rfl hl (by decide) rfl (fun ls hl => ?_)
  refine lv_aload_n S.1 S.2.1 d_Mo_isOpen_10 rfl (lv_at hl 1 rfl) ?_
  refine u_get (v := .ref (G.2.1 4)) S hw 0 (by decide) rfl rfl in_Mo 3 (by decide) lf_Mo_19 rfl d_Mo_isOpen_11 ?_
  refine lv_iload_n S.1 S.2.1 d_Mo_isOpen_14 rfl (lv_at hl 3 rfl) ?_
  refine u_iaN S hw 4 0 (by decide) rfl rfl (j := t) rfl (by omega) (by decide) d_Mo_isOpen_15 ?_
  refine lv_iconst (v := (4 : Int32)) S.1 S.2.1 d_Mo_isOpen_16 (by decide) ?_
  refine lv_idiv S.1 S.2.1 d_Mo_isOpen_17 (by decide) ?_
  refine lv_iconst (v := (4 : Int32)) S.1 S.2.1 d_Mo_isOpen_18 (by decide) ?_
  refine lv_irem S.1 S.2.1 d_Mo_isOpen_19 (by decide) ?_
  refine lv_istore (lv' := [(4, .int (((mem 4 t) / (4 : Int32)) - ((mem 4 t) / (4 : Int32)) / (4 : Int32) * (4 : Int32))), (3, .int ((mem 4 t) / (16 : Int32))), (0, .ref (G.2.1 0)), (1, .int a0), (2, .int (nI t))]) S.1 S.2.1 d_Mo_isOpen_20 hl (by decide) rfl (fun ls hl => ?_)
  refine lv_aload_n S.1 S.2.1 d_Mo_isOpen_22 rfl (lv_at hl 2 rfl) ?_
  refine u_get (v := .ref (G.2.1 4)) S hw 0 (by decide) rfl rfl in_Mo 3 (by decide) lf_Mo_19 rfl d_Mo_isOpen_23 ?_
  refine lv_iload_n S.1 S.2.1 d_Mo_isOpen_26 rfl (lv_at hl 4 rfl) ?_
  refine u_iaN S hw 4 0 (by decide) rfl rfl (j := t) rfl (by omega) (by decide) d_Mo_isOpen_27 ?_
  refine lv_iconst (v := (4 : Int32)) S.1 S.2.1 d_Mo_isOpen_28 (by decide) ?_
  refine lv_irem S.1 S.2.1 d_Mo_isOpen_29 (by decide) ?_
  refine lv_istore (lv' := [(5, .int ((mem 4 t) - (mem 4 t) / (4 : Int32) * (4 : Int32))), (4, .int (((mem 4 t) / (4 : Int32)) - ((mem 4 t) / (4 : Int32)) / (4 : Int32) * (4 : Int32))), (3, .int ((mem 4 t) / (16 : Int32))), (0, .ref (G.2.1 0)), (1, .int a0), (2, .int (nI t))]) S.1 S.2.1 d_Mo_isOpen_30 hl (by decide) rfl (fun ls hl => ?_)
  refine lv_iload_n S.1 S.2.1 d_Mo_isOpen_32 rfl (lv_at hl 4 rfl) ?_
  refine lv_aload_n S.1 S.2.1 d_Mo_isOpen_33 rfl (lv_at hl 3 rfl) ?_
  refine u_get (v := .ref (G.2.1 1)) S hw 0 (by decide) rfl rfl in_Mo 0 (by decide) lf_Mo_7 rfl d_Mo_isOpen_34 ?_
  refine lv_iload_n S.1 S.2.1 d_Mo_isOpen_37 rfl (lv_at hl 5 rfl) ?_
  refine u_iaN S hw 1 0 (by decide) rfl rfl (j := t) rfl (by omega) (by decide) d_Mo_isOpen_38 ?_
  refine u_callp hw (va_runS (As := [.int a0, .int (mem 1 t)]) (rest := []) S (c_Mo_placeOf l a0 (mem 1 t)) ⟨u_cB S.2.2.2.2 t_Mo_placeOf ln_Mo lm_Mo_57 hd_Mo_placeOf rfl rfl ⟨Nat.le_of_ble_eq_true rfl, Nat.le_of_ble_eq_true rfl⟩, S.2.2.2.2 _ lt_Mo_placeOf⟩ (u_preP hw.1.2) rfl rfl hl.1 rfl (lv_room (Nat.le_of_ble_eq_true rfl)) d_Mo_isOpen_39 ⟨Nat.zero_le _, Nat.zero_le _⟩) (fun r H locs hp hw => ?_)
  refine u_top (y := (s_Mo_placeOf a0 (mem 1 t))) hp ?_
  refine lv_aload_n S.1 S.2.1 d_Mo_isOpen_42 rfl (lv_at hl 3 rfl) ?_
  refine u_get (v := .ref (G.2.1 2)) S hw 0 (by decide) rfl rfl in_Mo 1 (by decide) lf_Mo_13 rfl d_Mo_isOpen_43 ?_
  refine lv_iload_n S.1 S.2.1 d_Mo_isOpen_46 rfl (lv_at hl 5 rfl) ?_
  refine u_iaN S hw 2 0 (by decide) rfl rfl (j := t) rfl (by omega) (by decide) d_Mo_isOpen_47 ?_
  refine lv_icmp_eq (tgt := 53) S.1 S.2.1 d_Mo_isOpen_48 (by decide) (fun c1 => ?_) (fun c1 => ?_)
  · skip
    refine lv_iload_n S.1 S.2.1 d_Mo_isOpen_53 rfl (lv_at hl 2 rfl) ?_
    refine lv_iconst (v := (1 : Int32)) S.1 S.2.1 d_Mo_isOpen_54 (by decide) ?_
    refine lv_icmp_eq (tgt := 63) S.1 S.2.1 d_Mo_isOpen_55 (by decide) (fun c2 => ?_) (fun c2 => ?_)
    · skip
      refine lv_iload_n S.1 S.2.1 d_Mo_isOpen_63 rfl (lv_at hl 4 rfl) ?_
      refine lv_iload S.1 S.2.1 d_Mo_isOpen_64 (lv_at hl 1 rfl) ?_
      refine u_callp hw (va_runS (As := [.int a0, .int (((mem 4 t) / (4 : Int32)) - ((mem 4 t) / (4 : Int32)) / (4 : Int32) * (4 : Int32))]) (rest := []) S (c_Mo_valueOf l a0 (((mem 4 t) / (4 : Int32)) - ((mem 4 t) / (4 : Int32)) / (4 : Int32) * (4 : Int32))) ⟨u_cB S.2.2.2.2 t_Mo_valueOf ln_Mo lm_Mo_61 hd_Mo_valueOf rfl rfl ⟨Nat.le_of_ble_eq_true rfl, Nat.le_of_ble_eq_true rfl⟩, S.2.2.2.2 _ lt_Mo_valueOf⟩ (u_preP hw.1.2) rfl rfl hl.1 rfl (lv_room (Nat.le_of_ble_eq_true rfl)) d_Mo_isOpen_66 ⟨Nat.zero_le _, Nat.zero_le _⟩) (fun r H locs hp hw => ?_)
      refine u_top (y := (s_Mo_valueOf a0 (((mem 4 t) / (4 : Int32)) - ((mem 4 t) / (4 : Int32)) / (4 : Int32) * (4 : Int32)))) hp ?_
      refine lv_iload S.1 S.2.1 d_Mo_isOpen_69 (lv_at hl 0 rfl) ?_
      refine lv_icmp_ne (tgt := 78) S.1 S.2.1 d_Mo_isOpen_71 (by decide) (fun c3 => ?_) (fun c3 => ?_)
      · skip
        refine lv_iconst (v := (0 : Int32)) S.1 S.2.1 d_Mo_isOpen_78 (by decide) ?_
        refine lv_iload_n S.1 S.2.1 d_Mo_isOpen_79 rfl (lv_at hl 2 rfl) ?_
        refine lv_iconst (v := (1 : Int32)) S.1 S.2.1 d_Mo_isOpen_80 (by decide) ?_
        refine lv_icmp_ne (tgt := 88) S.1 S.2.1 d_Mo_isOpen_81 (by decide) (fun c4 => ?_) (fun c4 => ?_)
        · skip
          exact absurd c2 c4
        · skip
          refine lv_iconst (v := (1 : Int32)) S.1 S.2.1 d_Mo_isOpen_84 (by decide) ?_
          refine lv_goto (tgt := 89) S.1 S.2.1 d_Mo_isOpen_85 (by decide) ?_
          refine lv_icmp_ne (tgt := 96) S.1 S.2.1 d_Mo_isOpen_89 (by decide) (fun c5 => ?_) (fun c5 => ?_)
          · skip
            refine lv_iconst (v := (0 : Int32)) S.1 S.2.1 d_Mo_isOpen_96 (by decide) ?_
            exact u_zret S hr hlk hw (by first | rfl | assumption | exact nb01 (z_Ds_isBelow _ _)) ⟨by unfold s_Mo_isOpen; simp only [if_pos c1, if_pos c2, if_neg c3], rfl⟩ d_Mo_isOpen_97
          · skip
            exact absurd c5 (by decide)
      · skip
        refine lv_iconst (v := (1 : Int32)) S.1 S.2.1 d_Mo_isOpen_74 (by decide) ?_
        refine lv_goto (tgt := 79) S.1 S.2.1 d_Mo_isOpen_75 (by decide) ?_
        refine lv_iload_n S.1 S.2.1 d_Mo_isOpen_79 rfl (lv_at hl 2 rfl) ?_
        refine lv_iconst (v := (1 : Int32)) S.1 S.2.1 d_Mo_isOpen_80 (by decide) ?_
        refine lv_icmp_ne (tgt := 88) S.1 S.2.1 d_Mo_isOpen_81 (by decide) (fun c6 => ?_) (fun c6 => ?_)
        · skip
          exact absurd c2 c6
        · skip
          refine lv_iconst (v := (1 : Int32)) S.1 S.2.1 d_Mo_isOpen_84 (by decide) ?_
          refine lv_goto (tgt := 89) S.1 S.2.1 d_Mo_isOpen_85 (by decide) ?_
          refine lv_icmp_ne (tgt := 96) S.1 S.2.1 d_Mo_isOpen_89 (by decide) (fun c7 => ?_) (fun c7 => ?_)
          · skip
            exact absurd (by decide) c7
          · skip
            refine lv_iconst (v := (1 : Int32)) S.1 S.2.1 d_Mo_isOpen_92 (by decide) ?_
            refine lv_goto (tgt := 97) S.1 S.2.1 d_Mo_isOpen_93 (by decide) ?_
            exact u_zret S hr hlk hw (by first | rfl | assumption | exact nb01 (z_Ds_isBelow _ _)) ⟨by unfold s_Mo_isOpen; simp only [if_pos c1, if_pos c2, if_pos c3], rfl⟩ d_Mo_isOpen_97
    · skip
      refine lv_iload_n S.1 S.2.1 d_Mo_isOpen_58 rfl (lv_at hl 2 rfl) ?_
      refine lv_iconst (v := (2 : Int32)) S.1 S.2.1 d_Mo_isOpen_59 (by decide) ?_
      refine lv_icmp_ne (tgt := 98) S.1 S.2.1 d_Mo_isOpen_60 (by decide) (fun c8 => ?_) (fun c8 => ?_)
      · skip
        refine lv_iload_n S.1 S.2.1 d_Mo_isOpen_98 rfl (lv_at hl 2 rfl) ?_
        refine lv_bipush (v := (6 : Int32)) S.1 S.2.1 d_Mo_isOpen_99 (by decide) ?_
        refine lv_icmp_lt (tgt := 128) S.1 S.2.1 d_Mo_isOpen_101 (by decide) (fun c9 => ?_) (fun c9 => ?_)
        · skip
          refine lv_iconst (v := (1 : Int32)) S.1 S.2.1 d_Mo_isOpen_128 (by decide) ?_
          refine lv_goto (tgt := 133) S.1 S.2.1 d_Mo_isOpen_129 (by decide) ?_
          exact u_zret S hr hlk hw (by first | rfl | assumption | exact nb01 (z_Ds_isBelow _ _)) ⟨by unfold s_Mo_isOpen; simp only [if_pos c1, if_neg c2, if_neg c8, if_pos c9], rfl⟩ d_Mo_isOpen_133
        · skip
          refine lv_iload_n S.1 S.2.1 d_Mo_isOpen_104 rfl (lv_at hl 2 rfl) ?_
          refine lv_bipush (v := (6 : Int32)) S.1 S.2.1 d_Mo_isOpen_105 (by decide) ?_
          refine lv_icmp_ne (tgt := 121) S.1 S.2.1 d_Mo_isOpen_107 (by decide) (fun c10 => ?_) (fun c10 => ?_)
          · skip
            refine lv_iload_n S.1 S.2.1 d_Mo_isOpen_121 rfl (lv_at hl 4 rfl) ?_
            refine u_callp hw (va_runS (As := [.int a0]) (rest := []) S (c_Mo_sent l a0) ⟨u_cB S.2.2.2.2 t_Mo_sent ln_Mo lm_Mo_64 hd_Mo_sent rfl rfl ⟨Nat.le_of_ble_eq_true rfl, Nat.le_of_ble_eq_true rfl⟩, S.2.2.2.2 _ lt_Mo_sent⟩ (u_preP hw.1.2) rfl rfl hl.1 rfl (lv_room (Nat.le_of_ble_eq_true rfl)) d_Mo_isOpen_122 ⟨Nat.zero_le _, Nat.zero_le _⟩) (fun r H locs hp hw => ?_)
            refine u_top (y := (s_Mo_sent a0)) hp ?_
            refine lv_if_le (tgt := 132) S.1 S.2.1 d_Mo_isOpen_125 (by decide) (fun c11 => ?_) (fun c11 => ?_)
            · skip
              refine lv_iconst (v := (0 : Int32)) S.1 S.2.1 d_Mo_isOpen_132 (by decide) ?_
              exact u_zret S hr hlk hw (by first | rfl | assumption | exact nb01 (z_Ds_isBelow _ _)) ⟨by unfold s_Mo_isOpen; simp only [if_pos c1, if_neg c2, if_neg c8, if_neg c9, if_neg c10, if_pos c11], rfl⟩ d_Mo_isOpen_133
            · skip
              refine lv_iconst (v := (1 : Int32)) S.1 S.2.1 d_Mo_isOpen_128 (by decide) ?_
              refine lv_goto (tgt := 133) S.1 S.2.1 d_Mo_isOpen_129 (by decide) ?_
              exact u_zret S hr hlk hw (by first | rfl | assumption | exact nb01 (z_Ds_isBelow _ _)) ⟨by unfold s_Mo_isOpen; simp only [if_pos c1, if_neg c2, if_neg c8, if_neg c9, if_neg c10, if_neg c11], rfl⟩ d_Mo_isOpen_133
          · skip
            refine lv_iload_n S.1 S.2.1 d_Mo_isOpen_110 rfl (lv_at hl 4 rfl) ?_
            refine u_callp hw (va_runS (As := [.int a0]) (rest := []) S (c_Mo_sent l a0) ⟨u_cB S.2.2.2.2 t_Mo_sent ln_Mo lm_Mo_64 hd_Mo_sent rfl rfl ⟨Nat.le_of_ble_eq_true rfl, Nat.le_of_ble_eq_true rfl⟩, S.2.2.2.2 _ lt_Mo_sent⟩ (u_preP hw.1.2) rfl rfl hl.1 rfl (lv_room (Nat.le_of_ble_eq_true rfl)) d_Mo_isOpen_111 ⟨Nat.zero_le _, Nat.zero_le _⟩) (fun r H locs hp hw => ?_)
            refine u_top (y := (s_Mo_sent a0)) hp ?_
            refine lv_iconst (v := (2 : Int32)) S.1 S.2.1 d_Mo_isOpen_114 (by decide) ?_
            refine lv_icmp_ge (tgt := 132) S.1 S.2.1 d_Mo_isOpen_115 (by decide) (fun c12 => ?_) (fun c12 => ?_)
            · skip
              refine lv_iconst (v := (0 : Int32)) S.1 S.2.1 d_Mo_isOpen_132 (by decide) ?_
              exact u_zret S hr hlk hw (by first | rfl | assumption | exact nb01 (z_Ds_isBelow _ _)) ⟨by unfold s_Mo_isOpen; simp only [if_pos c1, if_neg c2, if_neg c8, if_neg c9, if_pos c10, if_pos c12], rfl⟩ d_Mo_isOpen_133
            · skip
              refine lv_goto (tgt := 128) S.1 S.2.1 d_Mo_isOpen_118 (by decide) ?_
              refine lv_iconst (v := (1 : Int32)) S.1 S.2.1 d_Mo_isOpen_128 (by decide) ?_
              refine lv_goto (tgt := 133) S.1 S.2.1 d_Mo_isOpen_129 (by decide) ?_
              exact u_zret S hr hlk hw (by first | rfl | assumption | exact nb01 (z_Ds_isBelow _ _)) ⟨by unfold s_Mo_isOpen; simp only [if_pos c1, if_neg c2, if_neg c8, if_neg c9, if_pos c10, if_neg c12], rfl⟩ d_Mo_isOpen_133
      · skip
        refine lv_iload_n S.1 S.2.1 d_Mo_isOpen_63 rfl (lv_at hl 4 rfl) ?_
        refine lv_iload S.1 S.2.1 d_Mo_isOpen_64 (lv_at hl 1 rfl) ?_
        refine u_callp hw (va_runS (As := [.int a0, .int (((mem 4 t) / (4 : Int32)) - ((mem 4 t) / (4 : Int32)) / (4 : Int32) * (4 : Int32))]) (rest := []) S (c_Mo_valueOf l a0 (((mem 4 t) / (4 : Int32)) - ((mem 4 t) / (4 : Int32)) / (4 : Int32) * (4 : Int32))) ⟨u_cB S.2.2.2.2 t_Mo_valueOf ln_Mo lm_Mo_61 hd_Mo_valueOf rfl rfl ⟨Nat.le_of_ble_eq_true rfl, Nat.le_of_ble_eq_true rfl⟩, S.2.2.2.2 _ lt_Mo_valueOf⟩ (u_preP hw.1.2) rfl rfl hl.1 rfl (lv_room (Nat.le_of_ble_eq_true rfl)) d_Mo_isOpen_66 ⟨Nat.zero_le _, Nat.zero_le _⟩) (fun r H locs hp hw => ?_)
        refine u_top (y := (s_Mo_valueOf a0 (((mem 4 t) / (4 : Int32)) - ((mem 4 t) / (4 : Int32)) / (4 : Int32) * (4 : Int32)))) hp ?_
        refine lv_iload S.1 S.2.1 d_Mo_isOpen_69 (lv_at hl 0 rfl) ?_
        refine lv_icmp_ne (tgt := 78) S.1 S.2.1 d_Mo_isOpen_71 (by decide) (fun c13 => ?_) (fun c13 => ?_)
        · skip
          refine lv_iconst (v := (0 : Int32)) S.1 S.2.1 d_Mo_isOpen_78 (by decide) ?_
          refine lv_iload_n S.1 S.2.1 d_Mo_isOpen_79 rfl (lv_at hl 2 rfl) ?_
          refine lv_iconst (v := (1 : Int32)) S.1 S.2.1 d_Mo_isOpen_80 (by decide) ?_
          refine lv_icmp_ne (tgt := 88) S.1 S.2.1 d_Mo_isOpen_81 (by decide) (fun c14 => ?_) (fun c14 => ?_)
          · skip
            refine lv_iconst (v := (0 : Int32)) S.1 S.2.1 d_Mo_isOpen_88 (by decide) ?_
            refine lv_icmp_ne (tgt := 96) S.1 S.2.1 d_Mo_isOpen_89 (by decide) (fun c15 => ?_) (fun c15 => ?_)
            · skip
              exact absurd (by decide) c15
            · skip
              refine lv_iconst (v := (1 : Int32)) S.1 S.2.1 d_Mo_isOpen_92 (by decide) ?_
              refine lv_goto (tgt := 97) S.1 S.2.1 d_Mo_isOpen_93 (by decide) ?_
              exact u_zret S hr hlk hw (by first | rfl | assumption | exact nb01 (z_Ds_isBelow _ _)) ⟨by unfold s_Mo_isOpen; simp only [if_pos c1, if_neg c2, if_pos c8, if_neg c13], rfl⟩ d_Mo_isOpen_97
          · skip
            exact absurd c14 c2
        · skip
          refine lv_iconst (v := (1 : Int32)) S.1 S.2.1 d_Mo_isOpen_74 (by decide) ?_
          refine lv_goto (tgt := 79) S.1 S.2.1 d_Mo_isOpen_75 (by decide) ?_
          refine lv_iload_n S.1 S.2.1 d_Mo_isOpen_79 rfl (lv_at hl 2 rfl) ?_
          refine lv_iconst (v := (1 : Int32)) S.1 S.2.1 d_Mo_isOpen_80 (by decide) ?_
          refine lv_icmp_ne (tgt := 88) S.1 S.2.1 d_Mo_isOpen_81 (by decide) (fun c16 => ?_) (fun c16 => ?_)
          · skip
            refine lv_iconst (v := (0 : Int32)) S.1 S.2.1 d_Mo_isOpen_88 (by decide) ?_
            refine lv_icmp_ne (tgt := 96) S.1 S.2.1 d_Mo_isOpen_89 (by decide) (fun c17 => ?_) (fun c17 => ?_)
            · skip
              refine lv_iconst (v := (0 : Int32)) S.1 S.2.1 d_Mo_isOpen_96 (by decide) ?_
              exact u_zret S hr hlk hw (by first | rfl | assumption | exact nb01 (z_Ds_isBelow _ _)) ⟨by unfold s_Mo_isOpen; simp only [if_pos c1, if_neg c2, if_pos c8, if_pos c13], rfl⟩ d_Mo_isOpen_97
            · skip
              exact absurd c17 (by decide)
          · skip
            exact absurd c16 c2
  · skip
    refine lv_iconst (v := (0 : Int32)) S.1 S.2.1 d_Mo_isOpen_51 (by decide) ?_
    exact u_zret S hr hlk hw (by first | rfl | assumption | exact nb01 (z_Ds_isBelow _ _)) ⟨by unfold s_Mo_isOpen; simp only [if_neg c1], rfl⟩ d_Mo_isOpen_52
theorem z_Mo_isOpen (q1_t q2_t q4_t : Int32) (a0 : Int32) : s_Mo_isOpen q1_t q2_t q4_t a0 = 0 ∨ s_Mo_isOpen q1_t q2_t q4_t a0 = 1 := by
  unfold s_Mo_isOpen
  (repeat' split) <;> first | exact Or.inl rfl | exact Or.inr rfl | exact z_Ds_isBelow _ _ | exact z_Tr_allows _ _ | exact z_Mo_in _ _ _
def s_Mo_leads (q4_t q1_t q3_t : Int32) (a0 : Int32) : Int32 := (if (q4_t / (16 : Int32)) = (3 : Int32) then (s_Mo_with ((a0 &&& (((7 : Int32) <<< (((3 : Int32) * q1_t) &&& 31)) ^^^ (-1 : Int32))) ||| (q3_t <<< (((3 : Int32) * q1_t) &&& 31))) ((q4_t / (4 : Int32)) - (q4_t / (4 : Int32)) / (4 : Int32) * (4 : Int32)) (q4_t - q4_t / (4 : Int32) * (4 : Int32))) else (if (q4_t / (16 : Int32)) = (4 : Int32) then (s_Mo_with ((a0 &&& (((7 : Int32) <<< (((3 : Int32) * q1_t) &&& 31)) ^^^ (-1 : Int32))) ||| (q3_t <<< (((3 : Int32) * q1_t) &&& 31))) ((q4_t / (4 : Int32)) - (q4_t / (4 : Int32)) / (4 : Int32) * (4 : Int32)) (((s_Mo_valueOf a0 ((q4_t / (4 : Int32)) - (q4_t / (4 : Int32)) / (4 : Int32) * (4 : Int32))) + (q4_t - q4_t / (4 : Int32) * (4 : Int32))) - ((s_Mo_valueOf a0 ((q4_t / (4 : Int32)) - (q4_t / (4 : Int32)) / (4 : Int32) * (4 : Int32))) + (q4_t - q4_t / (4 : Int32) * (4 : Int32))) / (4 : Int32) * (4 : Int32))) else (if (q4_t / (16 : Int32)) = (5 : Int32) then (s_Mo_with ((a0 &&& (((7 : Int32) <<< (((3 : Int32) * q1_t) &&& 31)) ^^^ (-1 : Int32))) ||| (q3_t <<< (((3 : Int32) * q1_t) &&& 31))) ((q4_t / (4 : Int32)) - (q4_t / (4 : Int32)) / (4 : Int32) * (4 : Int32)) (s_Mo_valueOf a0 (q4_t - q4_t / (4 : Int32) * (4 : Int32)))) else (if (q4_t / (16 : Int32)) = (6 : Int32) then ((((a0 &&& (((7 : Int32) <<< (((3 : Int32) * q1_t) &&& 31)) ^^^ (-1 : Int32))) ||| (q3_t <<< (((3 : Int32) * q1_t) &&& 31))) + (131072 : Int32)) ||| ((s_Mo_valueOf a0 ((q4_t / (4 : Int32)) - (q4_t / (4 : Int32)) / (4 : Int32) * (4 : Int32))) <<< (((19 : Int32) + ((2 : Int32) * (s_Mo_sent a0))) &&& 31))) else (if (q4_t / (16 : Int32)) = (7 : Int32) then (if (s_Mo_sent a0) = (2 : Int32) then ((((s_Mo_with ((a0 &&& (((7 : Int32) <<< (((3 : Int32) * q1_t) &&& 31)) ^^^ (-1 : Int32))) ||| (q3_t <<< (((3 : Int32) * q1_t) &&& 31))) ((q4_t / (4 : Int32)) - (q4_t / (4 : Int32)) / (4 : Int32) * (4 : Int32)) (s_Mo_inChannel a0 (0 : Int32))) &&& (131071 : Int32)) ||| (((s_Mo_sent a0) - (1 : Int32)) <<< ((17 : Int32) &&& 31))) ||| ((s_Mo_inChannel a0 (1 : Int32)) <<< ((19 : Int32) &&& 31))) else ((((s_Mo_with ((a0 &&& (((7 : Int32) <<< (((3 : Int32) * q1_t) &&& 31)) ^^^ (-1 : Int32))) ||| (q3_t <<< (((3 : Int32) * q1_t) &&& 31))) ((q4_t / (4 : Int32)) - (q4_t / (4 : Int32)) / (4 : Int32) * (4 : Int32)) (s_Mo_inChannel a0 (0 : Int32))) &&& (131071 : Int32)) ||| (((s_Mo_sent a0) - (1 : Int32)) <<< ((17 : Int32) &&& 31))) ||| (0 : Int32))) else ((a0 &&& (((7 : Int32) <<< (((3 : Int32) * q1_t) &&& 31)) ^^^ (-1 : Int32))) ||| (q3_t <<< (((3 : Int32) * q1_t) &&& 31))))))))
set_option maxHeartbeats 4000000 in
set_option maxRecDepth 100000 in
theorem c_Mo_leads (l : Launch) (G : UG) (mem : um_M)  (a0 : Int32) (t : Nat) (ht : t < 24)  : MetM l G y_Mo_leads b_Mo_leads 10 (some .int) ({ frames := 1, cells := 0, slots := 0, locals := 22 }) [.ref (G.2.1 0), .int a0, .int (nI t)] mem (fun r mem' => r = s_Mo_leads (mem 4 t) (mem 1 t) (mem 3 t) a0 ∧ mem = mem') := by
  refine u_start [.ref (G.2.1 0), .int a0, .int (nI t)] (by decide) (Nat.le_of_ble_eq_true rfl) ?_
  intro p_ e_ s_ m_ bl_ me_ c_ ls S hr hlk hin hl hB
  have hw := uH_start hB
  have hl : lv_has ls 10 [(0, .ref (G.2.1 0)), (1, .int a0), (2, .int (nI t))] := hl
  refine lv_aload_n S.1 S.2.1 d_Mo_leads_0 rfl (lv_at hl 0 rfl) ?_
  refine u_get (v := .ref (G.2.1 4)) S hw 0 (by decide) rfl rfl in_Mo 3 (by decide) lf_Mo_19 rfl d_Mo_leads_1 ?_
  refine lv_iload_n S.1 S.2.1 d_Mo_leads_4 rfl (lv_at hl 2 rfl) ?_
  refine u_iaN S hw 4 0 (by decide) rfl rfl (j := t) rfl (by omega) (by decide) d_Mo_leads_5 ?_
  refine lv_bipush (v := (16 : Int32)) S.1 S.2.1 d_Mo_leads_6 (by decide) ?_
  refine lv_idiv S.1 S.2.1 d_Mo_leads_8 (by decide) ?_
  refine lv_istore_n (lv' := [(3, .int ((mem 4 t) / (16 : Int32))), (0, .ref (G.2.1 0)), (1, .int a0), (2, .int (nI t))]) S.1 S.2.1 d_Mo_leads_9 rfl hl (by decide) rfl (fun ls hl => ?_)
  refine lv_aload_n S.1 S.2.1 d_Mo_leads_10 rfl (lv_at hl 1 rfl) ?_
  refine u_get (v := .ref (G.2.1 4)) S hw 0 (by decide) rfl rfl in_Mo 3 (by decide) lf_Mo_19 rfl d_Mo_leads_11 ?_
  refine lv_iload_n S.1 S.2.1 d_Mo_leads_14 rfl (lv_at hl 3 rfl) ?_
  refine u_iaN S hw 4 0 (by decide) rfl rfl (j := t) rfl (by omega) (by decide) d_Mo_leads_15 ?_
  refine lv_iconst (v := (4 : Int32)) S.1 S.2.1 d_Mo_leads_16 (by decide) ?_
  refine lv_idiv S.1 S.2.1 d_Mo_leads_17 (by decide) ?_
  refine lv_iconst (v := (4 : Int32)) S.1 S.2.1 d_Mo_leads_18 (by decide) ?_
  refine lv_irem S.1 S.2.1 d_Mo_leads_19 (by decide) ?_
  refine lv_istore (lv' := [(4, .int (((mem 4 t) / (4 : Int32)) - ((mem 4 t) / (4 : Int32)) / (4 : Int32) * (4 : Int32))), (3, .int ((mem 4 t) / (16 : Int32))), (0, .ref (G.2.1 0)), (1, .int a0), (2, .int (nI t))]) S.1 S.2.1 d_Mo_leads_20 hl (by decide) rfl (fun ls hl => ?_)
  refine lv_aload_n S.1 S.2.1 d_Mo_leads_22 rfl (lv_at hl 2 rfl) ?_
  refine u_get (v := .ref (G.2.1 4)) S hw 0 (by decide) rfl rfl in_Mo 3 (by decide) lf_Mo_19 rfl d_Mo_leads_23 ?_
  refine lv_iload_n S.1 S.2.1 d_Mo_leads_26 rfl (lv_at hl 4 rfl) ?_
  refine u_iaN S hw 4 0 (by decide) rfl rfl (j := t) rfl (by omega) (by decide) d_Mo_leads_27 ?_
  refine lv_iconst (v := (4 : Int32)) S.1 S.2.1 d_Mo_leads_28 (by decide) ?_
  refine lv_irem S.1 S.2.1 d_Mo_leads_29 (by decide) ?_
  refine lv_istore (lv' := [(5, .int ((mem 4 t) - (mem 4 t) / (4 : Int32) * (4 : Int32))), (4, .int (((mem 4 t) / (4 : Int32)) - ((mem 4 t) / (4 : Int32)) / (4 : Int32) * (4 : Int32))), (3, .int ((mem 4 t) / (16 : Int32))), (0, .ref (G.2.1 0)), (1, .int a0), (2, .int (nI t))]) S.1 S.2.1 d_Mo_leads_30 hl (by decide) rfl (fun ls hl => ?_)
  refine lv_iload_n S.1 S.2.1 d_Mo_leads_32 rfl (lv_at hl 4 rfl) ?_
  refine lv_bipush (v := (7 : Int32)) S.1 S.2.1 d_Mo_leads_33 (by decide) ?_
  refine lv_iconst (v := (3 : Int32)) S.1 S.2.1 d_Mo_leads_35 (by decide) ?_
  refine lv_aload_n S.1 S.2.1 d_Mo_leads_36 rfl (lv_at hl 3 rfl) ?_
  refine u_get (v := .ref (G.2.1 1)) S hw 0 (by decide) rfl rfl in_Mo 0 (by decide) lf_Mo_7 rfl d_Mo_leads_37 ?_
  refine lv_iload_n S.1 S.2.1 d_Mo_leads_40 rfl (lv_at hl 5 rfl) ?_
  refine u_iaN S hw 1 0 (by decide) rfl rfl (j := t) rfl (by omega) (by decide) d_Mo_leads_41 ?_
  refine lv_imul S.1 S.2.1 d_Mo_leads_42 ?_
  refine lv_ishl S.1 S.2.1 d_Mo_leads_43 ?_
  refine lv_iconst (v := (-1 : Int32)) S.1 S.2.1 d_Mo_leads_44 (by decide) ?_
  refine lv_ixor S.1 S.2.1 d_Mo_leads_45 ?_
  refine lv_iand S.1 S.2.1 d_Mo_leads_46 ?_
  refine lv_aload_n S.1 S.2.1 d_Mo_leads_47 rfl (lv_at hl 3 rfl) ?_
  refine u_get (v := .ref (G.2.1 3)) S hw 0 (by decide) rfl rfl in_Mo 2 (by decide) lf_Mo_16 rfl d_Mo_leads_48 ?_
  refine lv_iload_n S.1 S.2.1 d_Mo_leads_51 rfl (lv_at hl 5 rfl) ?_
  refine u_iaN S hw 3 0 (by decide) rfl rfl (j := t) rfl (by omega) (by decide) d_Mo_leads_52 ?_
  refine lv_iconst (v := (3 : Int32)) S.1 S.2.1 d_Mo_leads_53 (by decide) ?_
  refine lv_aload_n S.1 S.2.1 d_Mo_leads_54 rfl (lv_at hl 3 rfl) ?_
  refine u_get (v := .ref (G.2.1 1)) S hw 0 (by decide) rfl rfl in_Mo 0 (by decide) lf_Mo_7 rfl d_Mo_leads_55 ?_
  refine lv_iload_n S.1 S.2.1 d_Mo_leads_58 rfl (lv_at hl 5 rfl) ?_
  refine u_iaN S hw 1 0 (by decide) rfl rfl (j := t) rfl (by omega) (by decide) d_Mo_leads_59 ?_
  refine lv_imul S.1 S.2.1 d_Mo_leads_60 ?_
  refine lv_ishl S.1 S.2.1 d_Mo_leads_61 ?_
  refine lv_ior S.1 S.2.1 d_Mo_leads_62 ?_
  refine lv_istore (lv' := [(6, .int ((a0 &&& (((7 : Int32) <<< (((3 : Int32) * (mem 1 t)) &&& 31)) ^^^ (-1 : Int32))) ||| ((mem 3 t) <<< (((3 : Int32) * (mem 1 t)) &&& 31)))), (5, .int ((mem 4 t) - (mem 4 t) / (4 : Int32) * (4 : Int32))), (4, .int (((mem 4 t) / (4 : Int32)) - ((mem 4 t) / (4 : Int32)) / (4 : Int32) * (4 : Int32))), (3, .int ((mem 4 t) / (16 : Int32))), (0, .ref (G.2.1 0)), (1, .int a0), (2, .int (nI t))]) S.1 S.2.1 d_Mo_leads_63 hl (by decide) rfl (fun ls hl => ?_)
  refine lv_iload_n S.1 S.2.1 d_Mo_leads_65 rfl (lv_at hl 5 rfl) ?_
  refine lv_iload S.1 S.2.1 d_Mo_leads_66 (lv_at hl 2 rfl) ?_
  refine u_callp hw (va_runS (As := [.int a0, .int (((mem 4 t) / (4 : Int32)) - ((mem 4 t) / (4 : Int32)) / (4 : Int32) * (4 : Int32))]) (rest := []) S (c_Mo_valueOf l a0 (((mem 4 t) / (4 : Int32)) - ((mem 4 t) / (4 : Int32)) / (4 : Int32) * (4 : Int32))) ⟨u_cB S.2.2.2.2 t_Mo_valueOf ln_Mo lm_Mo_61 hd_Mo_valueOf rfl rfl ⟨Nat.le_of_ble_eq_true rfl, Nat.le_of_ble_eq_true rfl⟩, S.2.2.2.2 _ lt_Mo_valueOf⟩ (u_preP hw.1.2) rfl rfl hl.1 rfl (lv_room (Nat.le_of_ble_eq_true rfl)) d_Mo_leads_68 ⟨Nat.zero_le _, Nat.zero_le _⟩) (fun r H locs hp hw => ?_)
  refine u_top (y := (s_Mo_valueOf a0 (((mem 4 t) / (4 : Int32)) - ((mem 4 t) / (4 : Int32)) / (4 : Int32) * (4 : Int32)))) hp ?_
  refine lv_istore (lv' := [(7, .int (s_Mo_valueOf a0 (((mem 4 t) / (4 : Int32)) - ((mem 4 t) / (4 : Int32)) / (4 : Int32) * (4 : Int32)))), (6, .int ((a0 &&& (((7 : Int32) <<< (((3 : Int32) * (mem 1 t)) &&& 31)) ^^^ (-1 : Int32))) ||| ((mem 3 t) <<< (((3 : Int32) * (mem 1 t)) &&& 31)))), (5, .int ((mem 4 t) - (mem 4 t) / (4 : Int32) * (4 : Int32))), (4, .int (((mem 4 t) / (4 : Int32)) - ((mem 4 t) / (4 : Int32)) / (4 : Int32) * (4 : Int32))), (3, .int ((mem 4 t) / (16 : Int32))), (0, .ref (G.2.1 0)), (1, .int a0), (2, .int (nI t))]) S.1 S.2.1 d_Mo_leads_71 hl (by decide) rfl (fun ls hl => ?_)
  refine lv_iload_n S.1 S.2.1 d_Mo_leads_73 rfl (lv_at hl 6 rfl) ?_
  refine u_callp hw (va_runS (As := [.int a0]) (rest := []) S (c_Mo_sent l a0) ⟨u_cB S.2.2.2.2 t_Mo_sent ln_Mo lm_Mo_64 hd_Mo_sent rfl rfl ⟨Nat.le_of_ble_eq_true rfl, Nat.le_of_ble_eq_true rfl⟩, S.2.2.2.2 _ lt_Mo_sent⟩ (u_preP hw.1.2) rfl rfl hl.1 rfl (lv_room (Nat.le_of_ble_eq_true rfl)) d_Mo_leads_74 ⟨Nat.zero_le _, Nat.zero_le _⟩) (fun r H locs hp hw => ?_)
  refine u_top (y := (s_Mo_sent a0)) hp ?_
  refine lv_istore (lv' := [(8, .int (s_Mo_sent a0)), (7, .int (s_Mo_valueOf a0 (((mem 4 t) / (4 : Int32)) - ((mem 4 t) / (4 : Int32)) / (4 : Int32) * (4 : Int32)))), (6, .int ((a0 &&& (((7 : Int32) <<< (((3 : Int32) * (mem 1 t)) &&& 31)) ^^^ (-1 : Int32))) ||| ((mem 3 t) <<< (((3 : Int32) * (mem 1 t)) &&& 31)))), (5, .int ((mem 4 t) - (mem 4 t) / (4 : Int32) * (4 : Int32))), (4, .int (((mem 4 t) / (4 : Int32)) - ((mem 4 t) / (4 : Int32)) / (4 : Int32) * (4 : Int32))), (3, .int ((mem 4 t) / (16 : Int32))), (0, .ref (G.2.1 0)), (1, .int a0), (2, .int (nI t))]) S.1 S.2.1 d_Mo_leads_77 hl (by decide) rfl (fun ls hl => ?_)
  refine lv_iload_n S.1 S.2.1 d_Mo_leads_79 rfl (lv_at hl 5 rfl) ?_
  by_cases c2 : ((mem 4 t) / (16 : Int32)) = (3 : Int32)
  · skip
    refine u_tab S (k := (3 : Int32)) (off := 36) (tgt := 116) c2 d_Mo_leads_80 (by decide) (by decide) (by decide) (by decide) ?_
    refine lv_iload S.1 S.2.1 d_Mo_leads_116 (lv_at hl 2 rfl) ?_
    refine lv_iload S.1 S.2.1 d_Mo_leads_118 (lv_at hl 4 rfl) ?_
    refine lv_iload S.1 S.2.1 d_Mo_leads_120 (lv_at hl 3 rfl) ?_
    refine u_callp hw (va_runS (As := [.int ((a0 &&& (((7 : Int32) <<< (((3 : Int32) * (mem 1 t)) &&& 31)) ^^^ (-1 : Int32))) ||| ((mem 3 t) <<< (((3 : Int32) * (mem 1 t)) &&& 31))), .int (((mem 4 t) / (4 : Int32)) - ((mem 4 t) / (4 : Int32)) / (4 : Int32) * (4 : Int32)), .int ((mem 4 t) - (mem 4 t) / (4 : Int32) * (4 : Int32))]) (rest := []) S (c_Mo_with l ((a0 &&& (((7 : Int32) <<< (((3 : Int32) * (mem 1 t)) &&& 31)) ^^^ (-1 : Int32))) ||| ((mem 3 t) <<< (((3 : Int32) * (mem 1 t)) &&& 31))) (((mem 4 t) / (4 : Int32)) - ((mem 4 t) / (4 : Int32)) / (4 : Int32) * (4 : Int32)) ((mem 4 t) - (mem 4 t) / (4 : Int32) * (4 : Int32))) ⟨u_cB S.2.2.2.2 t_Mo_with ln_Mo lm_Mo_68 hd_Mo_with rfl rfl ⟨Nat.le_of_ble_eq_true rfl, Nat.le_of_ble_eq_true rfl⟩, S.2.2.2.2 _ lt_Mo_with⟩ (u_preP hw.1.2) rfl rfl hl.1 rfl (lv_room (Nat.le_of_ble_eq_true rfl)) d_Mo_leads_122 ⟨Nat.zero_le _, Nat.zero_le _⟩) (fun r H locs hp hw => ?_)
    refine u_top (y := (s_Mo_with ((a0 &&& (((7 : Int32) <<< (((3 : Int32) * (mem 1 t)) &&& 31)) ^^^ (-1 : Int32))) ||| ((mem 3 t) <<< (((3 : Int32) * (mem 1 t)) &&& 31))) (((mem 4 t) / (4 : Int32)) - ((mem 4 t) / (4 : Int32)) / (4 : Int32) * (4 : Int32)) ((mem 4 t) - (mem 4 t) / (4 : Int32) * (4 : Int32)))) hp ?_
    exact u_iret S hr hlk hw ⟨by unfold s_Mo_leads; simp only [if_pos c2], rfl⟩ d_Mo_leads_125
  · skip
    by_cases c3 : ((mem 4 t) / (16 : Int32)) = (4 : Int32)
    · skip
      refine u_tab S (k := (4 : Int32)) (off := 46) (tgt := 126) c3 d_Mo_leads_80 (by decide) (by decide) (by decide) (by decide) ?_
      refine lv_iload S.1 S.2.1 d_Mo_leads_126 (lv_at hl 2 rfl) ?_
      refine lv_iload S.1 S.2.1 d_Mo_leads_128 (lv_at hl 4 rfl) ?_
      refine lv_iload S.1 S.2.1 d_Mo_leads_130 (lv_at hl 1 rfl) ?_
      refine lv_iload S.1 S.2.1 d_Mo_leads_132 (lv_at hl 3 rfl) ?_
      refine lv_iadd S.1 S.2.1 d_Mo_leads_134 ?_
      refine lv_iconst (v := (4 : Int32)) S.1 S.2.1 d_Mo_leads_135 (by decide) ?_
      refine lv_irem S.1 S.2.1 d_Mo_leads_136 (by decide) ?_
      refine u_callp hw (va_runS (As := [.int ((a0 &&& (((7 : Int32) <<< (((3 : Int32) * (mem 1 t)) &&& 31)) ^^^ (-1 : Int32))) ||| ((mem 3 t) <<< (((3 : Int32) * (mem 1 t)) &&& 31))), .int (((mem 4 t) / (4 : Int32)) - ((mem 4 t) / (4 : Int32)) / (4 : Int32) * (4 : Int32)), .int (((s_Mo_valueOf a0 (((mem 4 t) / (4 : Int32)) - ((mem 4 t) / (4 : Int32)) / (4 : Int32) * (4 : Int32))) + ((mem 4 t) - (mem 4 t) / (4 : Int32) * (4 : Int32))) - ((s_Mo_valueOf a0 (((mem 4 t) / (4 : Int32)) - ((mem 4 t) / (4 : Int32)) / (4 : Int32) * (4 : Int32))) + ((mem 4 t) - (mem 4 t) / (4 : Int32) * (4 : Int32))) / (4 : Int32) * (4 : Int32))]) (rest := []) S (c_Mo_with l ((a0 &&& (((7 : Int32) <<< (((3 : Int32) * (mem 1 t)) &&& 31)) ^^^ (-1 : Int32))) ||| ((mem 3 t) <<< (((3 : Int32) * (mem 1 t)) &&& 31))) (((mem 4 t) / (4 : Int32)) - ((mem 4 t) / (4 : Int32)) / (4 : Int32) * (4 : Int32)) (((s_Mo_valueOf a0 (((mem 4 t) / (4 : Int32)) - ((mem 4 t) / (4 : Int32)) / (4 : Int32) * (4 : Int32))) + ((mem 4 t) - (mem 4 t) / (4 : Int32) * (4 : Int32))) - ((s_Mo_valueOf a0 (((mem 4 t) / (4 : Int32)) - ((mem 4 t) / (4 : Int32)) / (4 : Int32) * (4 : Int32))) + ((mem 4 t) - (mem 4 t) / (4 : Int32) * (4 : Int32))) / (4 : Int32) * (4 : Int32))) ⟨u_cB S.2.2.2.2 t_Mo_with ln_Mo lm_Mo_68 hd_Mo_with rfl rfl ⟨Nat.le_of_ble_eq_true rfl, Nat.le_of_ble_eq_true rfl⟩, S.2.2.2.2 _ lt_Mo_with⟩ (u_preP hw.1.2) rfl rfl hl.1 rfl (lv_room (Nat.le_of_ble_eq_true rfl)) d_Mo_leads_137 ⟨Nat.zero_le _, Nat.zero_le _⟩) (fun r H locs hp hw => ?_)
      refine u_top (y := (s_Mo_with ((a0 &&& (((7 : Int32) <<< (((3 : Int32) * (mem 1 t)) &&& 31)) ^^^ (-1 : Int32))) ||| ((mem 3 t) <<< (((3 : Int32) * (mem 1 t)) &&& 31))) (((mem 4 t) / (4 : Int32)) - ((mem 4 t) / (4 : Int32)) / (4 : Int32) * (4 : Int32)) (((s_Mo_valueOf a0 (((mem 4 t) / (4 : Int32)) - ((mem 4 t) / (4 : Int32)) / (4 : Int32) * (4 : Int32))) + ((mem 4 t) - (mem 4 t) / (4 : Int32) * (4 : Int32))) - ((s_Mo_valueOf a0 (((mem 4 t) / (4 : Int32)) - ((mem 4 t) / (4 : Int32)) / (4 : Int32) * (4 : Int32))) + ((mem 4 t) - (mem 4 t) / (4 : Int32) * (4 : Int32))) / (4 : Int32) * (4 : Int32)))) hp ?_
      exact u_iret S hr hlk hw ⟨by unfold s_Mo_leads; simp only [if_neg c2, if_pos c3], rfl⟩ d_Mo_leads_140
    · skip
      by_cases c4 : ((mem 4 t) / (16 : Int32)) = (5 : Int32)
      · skip
        refine u_tab S (k := (5 : Int32)) (off := 61) (tgt := 141) c4 d_Mo_leads_80 (by decide) (by decide) (by decide) (by decide) ?_
        refine lv_iload S.1 S.2.1 d_Mo_leads_141 (lv_at hl 2 rfl) ?_
        refine lv_iload S.1 S.2.1 d_Mo_leads_143 (lv_at hl 4 rfl) ?_
        refine lv_iload_n S.1 S.2.1 d_Mo_leads_145 rfl (lv_at hl 7 rfl) ?_
        refine lv_iload S.1 S.2.1 d_Mo_leads_146 (lv_at hl 3 rfl) ?_
        refine u_callp hw (va_runS (As := [.int a0, .int ((mem 4 t) - (mem 4 t) / (4 : Int32) * (4 : Int32))]) (rest := [.int (((mem 4 t) / (4 : Int32)) - ((mem 4 t) / (4 : Int32)) / (4 : Int32) * (4 : Int32)), .int ((a0 &&& (((7 : Int32) <<< (((3 : Int32) * (mem 1 t)) &&& 31)) ^^^ (-1 : Int32))) ||| ((mem 3 t) <<< (((3 : Int32) * (mem 1 t)) &&& 31)))]) S (c_Mo_valueOf l a0 ((mem 4 t) - (mem 4 t) / (4 : Int32) * (4 : Int32))) ⟨u_cB S.2.2.2.2 t_Mo_valueOf ln_Mo lm_Mo_61 hd_Mo_valueOf rfl rfl ⟨Nat.le_of_ble_eq_true rfl, Nat.le_of_ble_eq_true rfl⟩, S.2.2.2.2 _ lt_Mo_valueOf⟩ (u_preP hw.1.2) rfl rfl hl.1 rfl (lv_room (Nat.le_of_ble_eq_true rfl)) d_Mo_leads_148 ⟨Nat.zero_le _, Nat.zero_le _⟩) (fun r H locs hp hw => ?_)
        refine u_top (y := (s_Mo_valueOf a0 ((mem 4 t) - (mem 4 t) / (4 : Int32) * (4 : Int32)))) hp ?_
        refine u_callp hw (va_runS (As := [.int ((a0 &&& (((7 : Int32) <<< (((3 : Int32) * (mem 1 t)) &&& 31)) ^^^ (-1 : Int32))) ||| ((mem 3 t) <<< (((3 : Int32) * (mem 1 t)) &&& 31))), .int (((mem 4 t) / (4 : Int32)) - ((mem 4 t) / (4 : Int32)) / (4 : Int32) * (4 : Int32)), .int (s_Mo_valueOf a0 ((mem 4 t) - (mem 4 t) / (4 : Int32) * (4 : Int32)))]) (rest := []) S (c_Mo_with l ((a0 &&& (((7 : Int32) <<< (((3 : Int32) * (mem 1 t)) &&& 31)) ^^^ (-1 : Int32))) ||| ((mem 3 t) <<< (((3 : Int32) * (mem 1 t)) &&& 31))) (((mem 4 t) / (4 : Int32)) - ((mem 4 t) / (4 : Int32)) / (4 : Int32) * (4 : Int32)) (s_Mo_valueOf a0 ((mem 4 t) - (mem 4 t) / (4 : Int32) * (4 : Int32)))) ⟨u_cB S.2.2.2.2 t_Mo_with ln_Mo lm_Mo_68 hd_Mo_with rfl rfl ⟨Nat.le_of_ble_eq_true rfl, Nat.le_of_ble_eq_true rfl⟩, S.2.2.2.2 _ lt_Mo_with⟩ (u_preP hw.1.2) rfl rfl hl.1 rfl (lv_room (Nat.le_of_ble_eq_true rfl)) d_Mo_leads_151 ⟨Nat.zero_le _, Nat.zero_le _⟩) (fun r H locs hp hw => ?_)
        refine u_top (y := (s_Mo_with ((a0 &&& (((7 : Int32) <<< (((3 : Int32) * (mem 1 t)) &&& 31)) ^^^ (-1 : Int32))) ||| ((mem 3 t) <<< (((3 : Int32) * (mem 1 t)) &&& 31))) (((mem 4 t) / (4 : Int32)) - ((mem 4 t) / (4 : Int32)) / (4 : Int32) * (4 : Int32)) (s_Mo_valueOf a0 ((mem 4 t) - (mem 4 t) / (4 : Int32) * (4 : Int32))))) hp ?_
        exact u_iret S hr hlk hw ⟨by unfold s_Mo_leads; simp only [if_neg c2, if_neg c3, if_pos c4], rfl⟩ d_Mo_leads_154
      · skip
        by_cases c5 : ((mem 4 t) / (16 : Int32)) = (6 : Int32)
        · skip
          refine u_tab S (k := (6 : Int32)) (off := 75) (tgt := 155) c5 d_Mo_leads_80 (by decide) (by decide) (by decide) (by decide) ?_
          refine lv_iload S.1 S.2.1 d_Mo_leads_155 (lv_at hl 2 rfl) ?_
          refine lv_ldc S.1 S.2.1 S.2.2.2.1 (S.2.2.2.2 _ lk_Mo_72) d_Mo_leads_157 ?_
          refine lv_iadd S.1 S.2.1 d_Mo_leads_159 ?_
          refine lv_iload S.1 S.2.1 d_Mo_leads_160 (lv_at hl 1 rfl) ?_
          refine lv_bipush (v := (19 : Int32)) S.1 S.2.1 d_Mo_leads_162 (by decide) ?_
          refine lv_iconst (v := (2 : Int32)) S.1 S.2.1 d_Mo_leads_164 (by decide) ?_
          refine lv_iload S.1 S.2.1 d_Mo_leads_165 (lv_at hl 0 rfl) ?_
          refine lv_imul S.1 S.2.1 d_Mo_leads_167 ?_
          refine lv_iadd S.1 S.2.1 d_Mo_leads_168 ?_
          refine lv_ishl S.1 S.2.1 d_Mo_leads_169 ?_
          refine lv_ior S.1 S.2.1 d_Mo_leads_170 ?_
          exact u_iret S hr hlk hw ⟨by unfold s_Mo_leads; simp only [if_neg c2, if_neg c3, if_neg c4, if_pos c5], rfl⟩ d_Mo_leads_171
        · skip
          by_cases c6 : ((mem 4 t) / (16 : Int32)) = (7 : Int32)
          · skip
            refine u_tab S (k := (7 : Int32)) (off := 92) (tgt := 172) c6 d_Mo_leads_80 (by decide) (by decide) (by decide) (by decide) ?_
            refine lv_iload S.1 S.2.1 d_Mo_leads_172 (lv_at hl 0 rfl) ?_
            refine lv_iconst (v := (2 : Int32)) S.1 S.2.1 d_Mo_leads_174 (by decide) ?_
            refine lv_icmp_ne (tgt := 189) S.1 S.2.1 d_Mo_leads_175 (by decide) (fun c7 => ?_) (fun c7 => ?_)
            · skip
              refine lv_iconst (v := (0 : Int32)) S.1 S.2.1 d_Mo_leads_189 (by decide) ?_
              refine lv_istore (lv' := [(9, .int (0 : Int32)), (8, .int (s_Mo_sent a0)), (7, .int (s_Mo_valueOf a0 (((mem 4 t) / (4 : Int32)) - ((mem 4 t) / (4 : Int32)) / (4 : Int32) * (4 : Int32)))), (6, .int ((a0 &&& (((7 : Int32) <<< (((3 : Int32) * (mem 1 t)) &&& 31)) ^^^ (-1 : Int32))) ||| ((mem 3 t) <<< (((3 : Int32) * (mem 1 t)) &&& 31)))), (5, .int ((mem 4 t) - (mem 4 t) / (4 : Int32) * (4 : Int32))), (4, .int (((mem 4 t) / (4 : Int32)) - ((mem 4 t) / (4 : Int32)) / (4 : Int32) * (4 : Int32))), (3, .int ((mem 4 t) / (16 : Int32))), (0, .ref (G.2.1 0)), (1, .int a0), (2, .int (nI t))]) S.1 S.2.1 d_Mo_leads_190 hl (by decide) rfl (fun ls hl => ?_)
              refine lv_iload S.1 S.2.1 d_Mo_leads_192 (lv_at hl 3 rfl) ?_
              refine lv_iload S.1 S.2.1 d_Mo_leads_194 (lv_at hl 5 rfl) ?_
              refine lv_iload_n S.1 S.2.1 d_Mo_leads_196 rfl (lv_at hl 8 rfl) ?_
              refine lv_iconst (v := (0 : Int32)) S.1 S.2.1 d_Mo_leads_197 (by decide) ?_
              refine u_callp hw (va_runS (As := [.int a0, .int (0 : Int32)]) (rest := [.int (((mem 4 t) / (4 : Int32)) - ((mem 4 t) / (4 : Int32)) / (4 : Int32) * (4 : Int32)), .int ((a0 &&& (((7 : Int32) <<< (((3 : Int32) * (mem 1 t)) &&& 31)) ^^^ (-1 : Int32))) ||| ((mem 3 t) <<< (((3 : Int32) * (mem 1 t)) &&& 31)))]) S (c_Mo_inChannel l a0 (0 : Int32)) ⟨u_cB S.2.2.2.2 t_Mo_inChannel ln_Mo lm_Mo_73 hd_Mo_inChannel rfl rfl ⟨Nat.le_of_ble_eq_true rfl, Nat.le_of_ble_eq_true rfl⟩, S.2.2.2.2 _ lt_Mo_inChannel⟩ (u_preP hw.1.2) rfl rfl hl.1 rfl (lv_room (Nat.le_of_ble_eq_true rfl)) d_Mo_leads_198 ⟨Nat.zero_le _, Nat.zero_le _⟩) (fun r H locs hp hw => ?_)
              refine u_top (y := (s_Mo_inChannel a0 (0 : Int32))) hp ?_
              refine u_callp hw (va_runS (As := [.int ((a0 &&& (((7 : Int32) <<< (((3 : Int32) * (mem 1 t)) &&& 31)) ^^^ (-1 : Int32))) ||| ((mem 3 t) <<< (((3 : Int32) * (mem 1 t)) &&& 31))), .int (((mem 4 t) / (4 : Int32)) - ((mem 4 t) / (4 : Int32)) / (4 : Int32) * (4 : Int32)), .int (s_Mo_inChannel a0 (0 : Int32))]) (rest := []) S (c_Mo_with l ((a0 &&& (((7 : Int32) <<< (((3 : Int32) * (mem 1 t)) &&& 31)) ^^^ (-1 : Int32))) ||| ((mem 3 t) <<< (((3 : Int32) * (mem 1 t)) &&& 31))) (((mem 4 t) / (4 : Int32)) - ((mem 4 t) / (4 : Int32)) / (4 : Int32) * (4 : Int32)) (s_Mo_inChannel a0 (0 : Int32))) ⟨u_cB S.2.2.2.2 t_Mo_with ln_Mo lm_Mo_68 hd_Mo_with rfl rfl ⟨Nat.le_of_ble_eq_true rfl, Nat.le_of_ble_eq_true rfl⟩, S.2.2.2.2 _ lt_Mo_with⟩ (u_preP hw.1.2) rfl rfl hl.1 rfl (lv_room (Nat.le_of_ble_eq_true rfl)) d_Mo_leads_201 ⟨Nat.zero_le _, Nat.zero_le _⟩) (fun r H locs hp hw => ?_)
              refine u_top (y := (s_Mo_with ((a0 &&& (((7 : Int32) <<< (((3 : Int32) * (mem 1 t)) &&& 31)) ^^^ (-1 : Int32))) ||| ((mem 3 t) <<< (((3 : Int32) * (mem 1 t)) &&& 31))) (((mem 4 t) / (4 : Int32)) - ((mem 4 t) / (4 : Int32)) / (4 : Int32) * (4 : Int32)) (s_Mo_inChannel a0 (0 : Int32)))) hp ?_
              refine lv_ldc S.1 S.2.1 S.2.2.2.1 (S.2.2.2.2 _ lk_Mo_76) d_Mo_leads_204 ?_
              refine lv_iand S.1 S.2.1 d_Mo_leads_206 ?_
              refine lv_iload S.1 S.2.1 d_Mo_leads_207 (lv_at hl 1 rfl) ?_
              refine lv_iconst (v := (1 : Int32)) S.1 S.2.1 d_Mo_leads_209 (by decide) ?_
              refine lv_isub S.1 S.2.1 d_Mo_leads_210 ?_
              refine lv_bipush (v := (17 : Int32)) S.1 S.2.1 d_Mo_leads_211 (by decide) ?_
              refine lv_ishl S.1 S.2.1 d_Mo_leads_213 ?_
              refine lv_ior S.1 S.2.1 d_Mo_leads_214 ?_
              refine lv_iload S.1 S.2.1 d_Mo_leads_215 (lv_at hl 0 rfl) ?_
              refine lv_ior S.1 S.2.1 d_Mo_leads_217 ?_
              exact u_iret S hr hlk hw ⟨by unfold s_Mo_leads; simp only [if_neg c2, if_neg c3, if_neg c4, if_neg c5, if_pos c6, if_neg c7], rfl⟩ d_Mo_leads_218
            · skip
              refine lv_iload_n S.1 S.2.1 d_Mo_leads_178 rfl (lv_at hl 7 rfl) ?_
              refine lv_iconst (v := (1 : Int32)) S.1 S.2.1 d_Mo_leads_179 (by decide) ?_
              refine u_callp hw (va_runS (As := [.int a0, .int (1 : Int32)]) (rest := []) S (c_Mo_inChannel l a0 (1 : Int32)) ⟨u_cB S.2.2.2.2 t_Mo_inChannel ln_Mo lm_Mo_73 hd_Mo_inChannel rfl rfl ⟨Nat.le_of_ble_eq_true rfl, Nat.le_of_ble_eq_true rfl⟩, S.2.2.2.2 _ lt_Mo_inChannel⟩ (u_preP hw.1.2) rfl rfl hl.1 rfl (lv_room (Nat.le_of_ble_eq_true rfl)) d_Mo_leads_180 ⟨Nat.zero_le _, Nat.zero_le _⟩) (fun r H locs hp hw => ?_)
              refine u_top (y := (s_Mo_inChannel a0 (1 : Int32))) hp ?_
              refine lv_bipush (v := (19 : Int32)) S.1 S.2.1 d_Mo_leads_183 (by decide) ?_
              refine lv_ishl S.1 S.2.1 d_Mo_leads_185 ?_
              refine lv_goto (tgt := 190) S.1 S.2.1 d_Mo_leads_186 (by decide) ?_
              refine lv_istore (lv' := [(9, .int ((s_Mo_inChannel a0 (1 : Int32)) <<< ((19 : Int32) &&& 31))), (8, .int (s_Mo_sent a0)), (7, .int (s_Mo_valueOf a0 (((mem 4 t) / (4 : Int32)) - ((mem 4 t) / (4 : Int32)) / (4 : Int32) * (4 : Int32)))), (6, .int ((a0 &&& (((7 : Int32) <<< (((3 : Int32) * (mem 1 t)) &&& 31)) ^^^ (-1 : Int32))) ||| ((mem 3 t) <<< (((3 : Int32) * (mem 1 t)) &&& 31)))), (5, .int ((mem 4 t) - (mem 4 t) / (4 : Int32) * (4 : Int32))), (4, .int (((mem 4 t) / (4 : Int32)) - ((mem 4 t) / (4 : Int32)) / (4 : Int32) * (4 : Int32))), (3, .int ((mem 4 t) / (16 : Int32))), (0, .ref (G.2.1 0)), (1, .int a0), (2, .int (nI t))]) S.1 S.2.1 d_Mo_leads_190 hl (by decide) rfl (fun ls hl => ?_)
              refine lv_iload S.1 S.2.1 d_Mo_leads_192 (lv_at hl 3 rfl) ?_
              refine lv_iload S.1 S.2.1 d_Mo_leads_194 (lv_at hl 5 rfl) ?_
              refine lv_iload_n S.1 S.2.1 d_Mo_leads_196 rfl (lv_at hl 8 rfl) ?_
              refine lv_iconst (v := (0 : Int32)) S.1 S.2.1 d_Mo_leads_197 (by decide) ?_
              refine u_callp hw (va_runS (As := [.int a0, .int (0 : Int32)]) (rest := [.int (((mem 4 t) / (4 : Int32)) - ((mem 4 t) / (4 : Int32)) / (4 : Int32) * (4 : Int32)), .int ((a0 &&& (((7 : Int32) <<< (((3 : Int32) * (mem 1 t)) &&& 31)) ^^^ (-1 : Int32))) ||| ((mem 3 t) <<< (((3 : Int32) * (mem 1 t)) &&& 31)))]) S (c_Mo_inChannel l a0 (0 : Int32)) ⟨u_cB S.2.2.2.2 t_Mo_inChannel ln_Mo lm_Mo_73 hd_Mo_inChannel rfl rfl ⟨Nat.le_of_ble_eq_true rfl, Nat.le_of_ble_eq_true rfl⟩, S.2.2.2.2 _ lt_Mo_inChannel⟩ (u_preP hw.1.2) rfl rfl hl.1 rfl (lv_room (Nat.le_of_ble_eq_true rfl)) d_Mo_leads_198 ⟨Nat.zero_le _, Nat.zero_le _⟩) (fun r H locs hp hw => ?_)
              refine u_top (y := (s_Mo_inChannel a0 (0 : Int32))) hp ?_
              refine u_callp hw (va_runS (As := [.int ((a0 &&& (((7 : Int32) <<< (((3 : Int32) * (mem 1 t)) &&& 31)) ^^^ (-1 : Int32))) ||| ((mem 3 t) <<< (((3 : Int32) * (mem 1 t)) &&& 31))), .int (((mem 4 t) / (4 : Int32)) - ((mem 4 t) / (4 : Int32)) / (4 : Int32) * (4 : Int32)), .int (s_Mo_inChannel a0 (0 : Int32))]) (rest := []) S (c_Mo_with l ((a0 &&& (((7 : Int32) <<< (((3 : Int32) * (mem 1 t)) &&& 31)) ^^^ (-1 : Int32))) ||| ((mem 3 t) <<< (((3 : Int32) * (mem 1 t)) &&& 31))) (((mem 4 t) / (4 : Int32)) - ((mem 4 t) / (4 : Int32)) / (4 : Int32) * (4 : Int32)) (s_Mo_inChannel a0 (0 : Int32))) ⟨u_cB S.2.2.2.2 t_Mo_with ln_Mo lm_Mo_68 hd_Mo_with rfl rfl ⟨Nat.le_of_ble_eq_true rfl, Nat.le_of_ble_eq_true rfl⟩, S.2.2.2.2 _ lt_Mo_with⟩ (u_preP hw.1.2) rfl rfl hl.1 rfl (lv_room (Nat.le_of_ble_eq_true rfl)) d_Mo_leads_201 ⟨Nat.zero_le _, Nat.zero_le _⟩) (fun r H locs hp hw => ?_)
              refine u_top (y := (s_Mo_with ((a0 &&& (((7 : Int32) <<< (((3 : Int32) * (mem 1 t)) &&& 31)) ^^^ (-1 : Int32))) ||| ((mem 3 t) <<< (((3 : Int32) * (mem 1 t)) &&& 31))) (((mem 4 t) / (4 : Int32)) - ((mem 4 t) / (4 : Int32)) / (4 : Int32) * (4 : Int32)) (s_Mo_inChannel a0 (0 : Int32)))) hp ?_
              refine lv_ldc S.1 S.2.1 S.2.2.2.1 (S.2.2.2.2 _ lk_Mo_76) d_Mo_leads_204 ?_
              refine lv_iand S.1 S.2.1 d_Mo_leads_206 ?_
              refine lv_iload S.1 S.2.1 d_Mo_leads_207 (lv_at hl 1 rfl) ?_
              refine lv_iconst (v := (1 : Int32)) S.1 S.2.1 d_Mo_leads_209 (by decide) ?_
              refine lv_isub S.1 S.2.1 d_Mo_leads_210 ?_
              refine lv_bipush (v := (17 : Int32)) S.1 S.2.1 d_Mo_leads_211 (by decide) ?_
              refine lv_ishl S.1 S.2.1 d_Mo_leads_213 ?_
              refine lv_ior S.1 S.2.1 d_Mo_leads_214 ?_
              refine lv_iload S.1 S.2.1 d_Mo_leads_215 (lv_at hl 0 rfl) ?_
              refine lv_ior S.1 S.2.1 d_Mo_leads_217 ?_
              exact u_iret S hr hlk hw ⟨by unfold s_Mo_leads; simp only [if_neg c2, if_neg c3, if_neg c4, if_neg c5, if_pos c6, if_pos c7], rfl⟩ d_Mo_leads_218
          · skip
            refine lv_tableOut (tgt := 219) S.1 S.2.1 d_Mo_leads_80 (by have q0 := lv_neT c2 (a := 3) (by decide); have q1 := lv_neT c3 (a := 4) (by decide); have q2 := lv_neT c4 (a := 5) (by decide); have q3 := lv_neT c5 (a := 6) (by decide); have q4 := lv_neT c6 (a := 7) (by decide); omega) (by decide) ?_
            refine lv_iload S.1 S.2.1 d_Mo_leads_219 (lv_at hl 2 rfl) ?_
            exact u_iret S hr hlk hw ⟨by unfold s_Mo_leads; simp only [if_neg c2, if_neg c3, if_neg c4, if_neg c5, if_neg c6], rfl⟩ d_Mo_leads_221
def s_Mo_first (q0_9 : Int32) : Int32 := (q0_9 <<< ((9 : Int32) &&& 31))
set_option maxHeartbeats 4000000 in
set_option maxRecDepth 100000 in
theorem c_Mo_first (l : Launch) (G : UG) (mem : um_M)     : MetM l G y_Mo_first b_Mo_first 1 (some .int) ({ frames := 0, cells := 0, slots := 0, locals := 0 }) [.ref (G.2.1 0)] mem (fun r mem' => r = s_Mo_first (mem 0 9) ∧ mem = mem') := by
  refine u_start [.ref (G.2.1 0)] (by decide) (Nat.le_of_ble_eq_true rfl) ?_
  intro p_ e_ s_ m_ bl_ me_ c_ ls S hr hlk hin hl hB
  have hw := uH_start hB
  have hl : lv_has ls 1 [(0, .ref (G.2.1 0))] := hl
  refine lv_aload_n S.1 S.2.1 d_Mo_first_0 rfl (lv_at hl 0 rfl) ?_
  refine u_get (v := .int (mem 0 9)) S hw 0 (by decide) rfl rfl in_Mo 9 (by decide) lf_Mo_54 rfl d_Mo_first_1 ?_
  refine lv_bipush (v := (9 : Int32)) S.1 S.2.1 d_Mo_first_4 (by decide) ?_
  refine lv_ishl S.1 S.2.1 d_Mo_first_6 ?_
  exact u_iret S hr hlk hw ⟨rfl, rfl⟩ d_Mo_first_7
def n_Mo_set (mem : um_M) (t : Nat) (a1 : Int32) (a2 : Int32) (a3 : Int32) (a4 : Int32) : um_M := (um_set (um_set (um_set (um_set (um_set mem 1 t a1) 2 t a2) 3 t a3) 4 t a4) 0 18 (0 : Int32))
set_option maxHeartbeats 4000000 in
set_option maxRecDepth 100000 in
theorem c_Mo_set (l : Launch) (G : UG) (mem : um_M)  (t : Nat) (a1 : Int32) (a2 : Int32) (a3 : Int32) (a4 : Int32) (ht : t < 24)  : MetMv l G y_Mo_set b_Mo_set 6 ({ frames := 0, cells := 0, slots := 0, locals := 0 }) [.ref (G.2.1 0), .int (nI t), .int a1, .int a2, .int a3, .int a4] mem (fun mem' => n_Mo_set mem t a1 a2 a3 a4 = mem') := by
  refine u_start [.ref (G.2.1 0), .int (nI t), .int a1, .int a2, .int a3, .int a4] (by decide) (Nat.le_of_ble_eq_true rfl) ?_
  intro p_ e_ s_ m_ bl_ me_ c_ ls S hr hlk hin hl hB
  have hw := uH_start hB
  have hl : lv_has ls 6 [(0, .ref (G.2.1 0)), (1, .int (nI t)), (2, .int a1), (3, .int a2), (4, .int a3), (5, .int a4)] := hl
  refine lv_aload_n S.1 S.2.1 d_Mo_set_0 rfl (lv_at hl 0 rfl) ?_
  refine u_get (v := .ref (G.2.1 1)) S hw 0 (by decide) rfl rfl in_Mo 0 (by decide) lf_Mo_7 rfl d_Mo_set_1 ?_
  refine lv_iload_n S.1 S.2.1 d_Mo_set_4 rfl (lv_at hl 1 rfl) ?_
  refine lv_iload_n S.1 S.2.1 d_Mo_set_5 rfl (lv_at hl 2 rfl) ?_
  refine u_isN S hw 1 0 (by decide) (fun _ => rfl) rfl (j := t) rfl (by omega) (by decide) d_Mo_set_6 (fun H locs hw => ?_)
  refine lv_aload_n S.1 S.2.1 d_Mo_set_7 rfl (lv_at hl 0 rfl) ?_
  refine u_get (v := .ref (G.2.1 2)) S hw 0 (by decide) rfl rfl in_Mo 1 (by decide) lf_Mo_13 rfl d_Mo_set_8 ?_
  refine lv_iload_n S.1 S.2.1 d_Mo_set_11 rfl (lv_at hl 1 rfl) ?_
  refine lv_iload_n S.1 S.2.1 d_Mo_set_12 rfl (lv_at hl 3 rfl) ?_
  refine u_isN S hw 2 0 (by decide) (fun _ => rfl) rfl (j := t) rfl (by omega) (by decide) d_Mo_set_13 (fun H locs hw => ?_)
  refine lv_aload_n S.1 S.2.1 d_Mo_set_14 rfl (lv_at hl 0 rfl) ?_
  refine u_get (v := .ref (G.2.1 3)) S hw 0 (by decide) rfl rfl in_Mo 2 (by decide) lf_Mo_16 rfl d_Mo_set_15 ?_
  refine lv_iload_n S.1 S.2.1 d_Mo_set_18 rfl (lv_at hl 1 rfl) ?_
  refine lv_iload S.1 S.2.1 d_Mo_set_19 (lv_at hl 4 rfl) ?_
  refine u_isN S hw 3 0 (by decide) (fun _ => rfl) rfl (j := t) rfl (by omega) (by decide) d_Mo_set_21 (fun H locs hw => ?_)
  refine lv_aload_n S.1 S.2.1 d_Mo_set_22 rfl (lv_at hl 0 rfl) ?_
  refine u_get (v := .ref (G.2.1 4)) S hw 0 (by decide) rfl rfl in_Mo 3 (by decide) lf_Mo_19 rfl d_Mo_set_23 ?_
  refine lv_iload_n S.1 S.2.1 d_Mo_set_26 rfl (lv_at hl 1 rfl) ?_
  refine lv_iload S.1 S.2.1 d_Mo_set_27 (lv_at hl 5 rfl) ?_
  refine u_isN S hw 4 0 (by decide) (fun _ => rfl) rfl (j := t) rfl (by omega) (by decide) d_Mo_set_29 (fun H locs hw => ?_)
  refine lv_aload_n S.1 S.2.1 d_Mo_set_30 rfl (lv_at hl 0 rfl) ?_
  refine lv_iconst (v := (0 : Int32)) S.1 S.2.1 d_Mo_set_31 (by decide) ?_
  refine u_put S hw 0 (by decide) rfl rfl in_Mo ty_Mo tk_Mo nm_Mo 18 (by decide) lf_Mo_91 rfl rfl (by first | rfl | assumption) rfl (Nat.le_of_ble_eq_true rfl) rfl d_Mo_set_32 (fun H locs hw => ?_)
  exact u_vret S hr hlk hw rfl d_Mo_set_35
def s_Mo_failsIn (q5_t q6_t q7_t : Int32) (a1 : Int32) : Int32 := (if q5_t = (0 : Int32) then (if (s_Mo_valueOf a1 q6_t) = q7_t then (1 : Int32) else (0 : Int32)) else (if q5_t = (1 : Int32) then (if (s_Mo_placeOf a1 q6_t) = q7_t then (1 : Int32) else (0 : Int32)) else (if q5_t = (2 : Int32) then (if (s_Mo_placeOf a1 q6_t) = (s_Mo_placeOf a1 q7_t) then (1 : Int32) else (0 : Int32)) else (if q5_t = (3 : Int32) then (if (s_Mo_sent a1) < q6_t then (0 : Int32) else (1 : Int32)) else (if (s_Mo_valueOf a1 q6_t) ≤ (s_Mo_valueOf a1 q7_t) then (0 : Int32) else (1 : Int32))))))
set_option maxHeartbeats 4000000 in
set_option maxRecDepth 100000 in
theorem c_Mo_failsIn (l : Launch) (G : UG) (mem : um_M)  (t : Nat) (a1 : Int32) (ht : t < 6)  : MetM l G y_Mo_failsIn b_Mo_failsIn 5 (some .boolean) ({ frames := 1, cells := 0, slots := 0, locals := 21 }) [.ref (G.2.1 0), .int (nI t), .int a1] mem (fun r mem' => r = s_Mo_failsIn (mem 5 t) (mem 6 t) (mem 7 t) a1 ∧ mem = mem') := by
  refine u_start [.ref (G.2.1 0), .int (nI t), .int a1] (by decide) (Nat.le_of_ble_eq_true rfl) ?_
  intro p_ e_ s_ m_ bl_ me_ c_ ls S hr hlk hin hl hB
  have hw := uH_start hB
  have hl : lv_has ls 5 [(0, .ref (G.2.1 0)), (1, .int (nI t)), (2, .int a1)] := hl
  refine lv_aload_n S.1 S.2.1 d_Mo_failsIn_0 rfl (lv_at hl 0 rfl) ?_
  refine u_get (v := .ref (G.2.1 6)) S hw 0 (by decide) rfl rfl in_Mo 5 (by decide) lf_Mo_25 rfl d_Mo_failsIn_1 ?_
  refine lv_iload_n S.1 S.2.1 d_Mo_failsIn_4 rfl (lv_at hl 1 rfl) ?_
  refine u_iaN S hw 6 0 (by decide) rfl rfl (j := t) rfl (by omega) (by decide) d_Mo_failsIn_5 ?_
  refine lv_istore_n (lv' := [(3, .int (mem 6 t)), (0, .ref (G.2.1 0)), (1, .int (nI t)), (2, .int a1)]) S.1 S.2.1 d_Mo_failsIn_6 rfl hl (by decide) rfl (fun ls hl => ?_)
  refine lv_aload_n S.1 S.2.1 d_Mo_failsIn_7 rfl (lv_at hl 1 rfl) ?_
  refine u_get (v := .ref (G.2.1 7)) S hw 0 (by decide) rfl rfl in_Mo 6 (by decide) lf_Mo_28 rfl d_Mo_failsIn_8 ?_
  refine lv_iload_n S.1 S.2.1 d_Mo_failsIn_11 rfl (lv_at hl 2 rfl) ?_
  refine u_iaN S hw 7 0 (by decide) rfl rfl (j := t) rfl (by omega) (by decide) d_Mo_failsIn_12 ?_
  refine lv_istore (lv' := [(4, .int (mem 7 t)), (3, .int (mem 6 t)), (0, .ref (G.2.1 0)), (1, .int (nI t)), (2, .int a1)]) S.1 S.2.1 d_Mo_failsIn_13 hl (by decide) rfl (fun ls hl => ?_)
  refine lv_aload_n S.1 S.2.1 d_Mo_failsIn_15 rfl (lv_at hl 2 rfl) ?_
  refine u_get (v := .ref (G.2.1 5)) S hw 0 (by decide) rfl rfl in_Mo 4 (by decide) lf_Mo_22 rfl d_Mo_failsIn_16 ?_
  refine lv_iload_n S.1 S.2.1 d_Mo_failsIn_19 rfl (lv_at hl 3 rfl) ?_
  refine u_iaN S hw 5 0 (by decide) rfl rfl (j := t) rfl (by omega) (by decide) d_Mo_failsIn_20 ?_
  by_cases c2 : (mem 5 t) = (0 : Int32)
  · skip
    refine u_tab S (k := (0 : Int32)) (off := 31) (tgt := 52) c2 d_Mo_failsIn_21 (by decide) (by decide) (by decide) (by decide) ?_
    refine lv_iload_n S.1 S.2.1 d_Mo_failsIn_52 rfl (lv_at hl 4 rfl) ?_
    refine lv_iload_n S.1 S.2.1 d_Mo_failsIn_53 rfl (lv_at hl 1 rfl) ?_
    refine u_callp hw (va_runS (As := [.int a1, .int (mem 6 t)]) (rest := []) S (c_Mo_valueOf l a1 (mem 6 t)) ⟨u_cB S.2.2.2.2 t_Mo_valueOf ln_Mo lm_Mo_61 hd_Mo_valueOf rfl rfl ⟨Nat.le_of_ble_eq_true rfl, Nat.le_of_ble_eq_true rfl⟩, S.2.2.2.2 _ lt_Mo_valueOf⟩ (u_preP hw.1.2) rfl rfl hl.1 rfl (lv_room (Nat.le_of_ble_eq_true rfl)) d_Mo_failsIn_54 ⟨Nat.zero_le _, Nat.zero_le _⟩) (fun r H locs hp hw => ?_)
    refine u_top (y := (s_Mo_valueOf a1 (mem 6 t))) hp ?_
    refine lv_iload S.1 S.2.1 d_Mo_failsIn_57 (lv_at hl 0 rfl) ?_
    refine lv_icmp_ne (tgt := 66) S.1 S.2.1 d_Mo_failsIn_59 (by decide) (fun c3 => ?_) (fun c3 => ?_)
    · skip
      refine lv_iconst (v := (0 : Int32)) S.1 S.2.1 d_Mo_failsIn_66 (by decide) ?_
      exact u_zret S hr hlk hw (by first | rfl | assumption | exact nb01 (z_Ds_isBelow _ _)) ⟨by unfold s_Mo_failsIn; simp only [if_pos c2, if_neg c3], rfl⟩ d_Mo_failsIn_67
    · skip
      refine lv_iconst (v := (1 : Int32)) S.1 S.2.1 d_Mo_failsIn_62 (by decide) ?_
      refine lv_goto (tgt := 67) S.1 S.2.1 d_Mo_failsIn_63 (by decide) ?_
      exact u_zret S hr hlk hw (by first | rfl | assumption | exact nb01 (z_Ds_isBelow _ _)) ⟨by unfold s_Mo_failsIn; simp only [if_pos c2, if_pos c3], rfl⟩ d_Mo_failsIn_67
  · skip
    by_cases c4 : (mem 5 t) = (1 : Int32)
    · skip
      refine u_tab S (k := (1 : Int32)) (off := 47) (tgt := 68) c4 d_Mo_failsIn_21 (by decide) (by decide) (by decide) (by decide) ?_
      refine lv_iload_n S.1 S.2.1 d_Mo_failsIn_68 rfl (lv_at hl 4 rfl) ?_
      refine lv_iload_n S.1 S.2.1 d_Mo_failsIn_69 rfl (lv_at hl 1 rfl) ?_
      refine u_callp hw (va_runS (As := [.int a1, .int (mem 6 t)]) (rest := []) S (c_Mo_placeOf l a1 (mem 6 t)) ⟨u_cB S.2.2.2.2 t_Mo_placeOf ln_Mo lm_Mo_57 hd_Mo_placeOf rfl rfl ⟨Nat.le_of_ble_eq_true rfl, Nat.le_of_ble_eq_true rfl⟩, S.2.2.2.2 _ lt_Mo_placeOf⟩ (u_preP hw.1.2) rfl rfl hl.1 rfl (lv_room (Nat.le_of_ble_eq_true rfl)) d_Mo_failsIn_70 ⟨Nat.zero_le _, Nat.zero_le _⟩) (fun r H locs hp hw => ?_)
      refine u_top (y := (s_Mo_placeOf a1 (mem 6 t))) hp ?_
      refine lv_iload S.1 S.2.1 d_Mo_failsIn_73 (lv_at hl 0 rfl) ?_
      refine lv_icmp_ne (tgt := 82) S.1 S.2.1 d_Mo_failsIn_75 (by decide) (fun c5 => ?_) (fun c5 => ?_)
      · skip
        refine lv_iconst (v := (0 : Int32)) S.1 S.2.1 d_Mo_failsIn_82 (by decide) ?_
        exact u_zret S hr hlk hw (by first | rfl | assumption | exact nb01 (z_Ds_isBelow _ _)) ⟨by unfold s_Mo_failsIn; simp only [if_neg c2, if_pos c4, if_neg c5], rfl⟩ d_Mo_failsIn_83
      · skip
        refine lv_iconst (v := (1 : Int32)) S.1 S.2.1 d_Mo_failsIn_78 (by decide) ?_
        refine lv_goto (tgt := 83) S.1 S.2.1 d_Mo_failsIn_79 (by decide) ?_
        exact u_zret S hr hlk hw (by first | rfl | assumption | exact nb01 (z_Ds_isBelow _ _)) ⟨by unfold s_Mo_failsIn; simp only [if_neg c2, if_pos c4, if_pos c5], rfl⟩ d_Mo_failsIn_83
    · skip
      by_cases c6 : (mem 5 t) = (2 : Int32)
      · skip
        refine u_tab S (k := (2 : Int32)) (off := 63) (tgt := 84) c6 d_Mo_failsIn_21 (by decide) (by decide) (by decide) (by decide) ?_
        refine lv_iload_n S.1 S.2.1 d_Mo_failsIn_84 rfl (lv_at hl 4 rfl) ?_
        refine lv_iload_n S.1 S.2.1 d_Mo_failsIn_85 rfl (lv_at hl 1 rfl) ?_
        refine u_callp hw (va_runS (As := [.int a1, .int (mem 6 t)]) (rest := []) S (c_Mo_placeOf l a1 (mem 6 t)) ⟨u_cB S.2.2.2.2 t_Mo_placeOf ln_Mo lm_Mo_57 hd_Mo_placeOf rfl rfl ⟨Nat.le_of_ble_eq_true rfl, Nat.le_of_ble_eq_true rfl⟩, S.2.2.2.2 _ lt_Mo_placeOf⟩ (u_preP hw.1.2) rfl rfl hl.1 rfl (lv_room (Nat.le_of_ble_eq_true rfl)) d_Mo_failsIn_86 ⟨Nat.zero_le _, Nat.zero_le _⟩) (fun r H locs hp hw => ?_)
        refine u_top (y := (s_Mo_placeOf a1 (mem 6 t))) hp ?_
        refine lv_iload_n S.1 S.2.1 d_Mo_failsIn_89 rfl (lv_at hl 4 rfl) ?_
        refine lv_iload S.1 S.2.1 d_Mo_failsIn_90 (lv_at hl 0 rfl) ?_
        refine u_callp hw (va_runS (As := [.int a1, .int (mem 7 t)]) (rest := [.int (s_Mo_placeOf a1 (mem 6 t))]) S (c_Mo_placeOf l a1 (mem 7 t)) ⟨u_cB S.2.2.2.2 t_Mo_placeOf ln_Mo lm_Mo_57 hd_Mo_placeOf rfl rfl ⟨Nat.le_of_ble_eq_true rfl, Nat.le_of_ble_eq_true rfl⟩, S.2.2.2.2 _ lt_Mo_placeOf⟩ (u_preP hw.1.2) rfl rfl hl.1 rfl (lv_room (Nat.le_of_ble_eq_true rfl)) d_Mo_failsIn_92 ⟨Nat.zero_le _, Nat.zero_le _⟩) (fun r H locs hp hw => ?_)
        refine u_top (y := (s_Mo_placeOf a1 (mem 7 t))) hp ?_
        refine lv_icmp_ne (tgt := 102) S.1 S.2.1 d_Mo_failsIn_95 (by decide) (fun c7 => ?_) (fun c7 => ?_)
        · skip
          refine lv_iconst (v := (0 : Int32)) S.1 S.2.1 d_Mo_failsIn_102 (by decide) ?_
          exact u_zret S hr hlk hw (by first | rfl | assumption | exact nb01 (z_Ds_isBelow _ _)) ⟨by unfold s_Mo_failsIn; simp only [if_neg c2, if_neg c4, if_pos c6, if_neg c7], rfl⟩ d_Mo_failsIn_103
        · skip
          refine lv_iconst (v := (1 : Int32)) S.1 S.2.1 d_Mo_failsIn_98 (by decide) ?_
          refine lv_goto (tgt := 103) S.1 S.2.1 d_Mo_failsIn_99 (by decide) ?_
          exact u_zret S hr hlk hw (by first | rfl | assumption | exact nb01 (z_Ds_isBelow _ _)) ⟨by unfold s_Mo_failsIn; simp only [if_neg c2, if_neg c4, if_pos c6, if_pos c7], rfl⟩ d_Mo_failsIn_103
      · skip
        by_cases c8 : (mem 5 t) = (3 : Int32)
        · skip
          refine u_tab S (k := (3 : Int32)) (off := 83) (tgt := 104) c8 d_Mo_failsIn_21 (by decide) (by decide) (by decide) (by decide) ?_
          refine lv_iload_n S.1 S.2.1 d_Mo_failsIn_104 rfl (lv_at hl 4 rfl) ?_
          refine u_callp hw (va_runS (As := [.int a1]) (rest := []) S (c_Mo_sent l a1) ⟨u_cB S.2.2.2.2 t_Mo_sent ln_Mo lm_Mo_64 hd_Mo_sent rfl rfl ⟨Nat.le_of_ble_eq_true rfl, Nat.le_of_ble_eq_true rfl⟩, S.2.2.2.2 _ lt_Mo_sent⟩ (u_preP hw.1.2) rfl rfl hl.1 rfl (lv_room (Nat.le_of_ble_eq_true rfl)) d_Mo_failsIn_105 ⟨Nat.zero_le _, Nat.zero_le _⟩) (fun r H locs hp hw => ?_)
          refine u_top (y := (s_Mo_sent a1)) hp ?_
          refine lv_iload_n S.1 S.2.1 d_Mo_failsIn_108 rfl (lv_at hl 1 rfl) ?_
          refine lv_icmp_lt (tgt := 116) S.1 S.2.1 d_Mo_failsIn_109 (by decide) (fun c9 => ?_) (fun c9 => ?_)
          · skip
            refine lv_iconst (v := (0 : Int32)) S.1 S.2.1 d_Mo_failsIn_116 (by decide) ?_
            exact u_zret S hr hlk hw (by first | rfl | assumption | exact nb01 (z_Ds_isBelow _ _)) ⟨by unfold s_Mo_failsIn; simp only [if_neg c2, if_neg c4, if_neg c6, if_pos c8, if_pos c9], rfl⟩ d_Mo_failsIn_117
          · skip
            refine lv_iconst (v := (1 : Int32)) S.1 S.2.1 d_Mo_failsIn_112 (by decide) ?_
            refine lv_goto (tgt := 117) S.1 S.2.1 d_Mo_failsIn_113 (by decide) ?_
            exact u_zret S hr hlk hw (by first | rfl | assumption | exact nb01 (z_Ds_isBelow _ _)) ⟨by unfold s_Mo_failsIn; simp only [if_neg c2, if_neg c4, if_neg c6, if_pos c8, if_neg c9], rfl⟩ d_Mo_failsIn_117
        · skip
          refine lv_tableOut (tgt := 118) S.1 S.2.1 d_Mo_failsIn_21 (by have q0 := lv_neT c2 (a := 0) (by decide); have q1 := lv_neT c4 (a := 1) (by decide); have q2 := lv_neT c6 (a := 2) (by decide); have q3 := lv_neT c8 (a := 3) (by decide); omega) (by decide) ?_
          refine lv_iload_n S.1 S.2.1 d_Mo_failsIn_118 rfl (lv_at hl 4 rfl) ?_
          refine lv_iload_n S.1 S.2.1 d_Mo_failsIn_119 rfl (lv_at hl 1 rfl) ?_
          refine u_callp hw (va_runS (As := [.int a1, .int (mem 6 t)]) (rest := []) S (c_Mo_valueOf l a1 (mem 6 t)) ⟨u_cB S.2.2.2.2 t_Mo_valueOf ln_Mo lm_Mo_61 hd_Mo_valueOf rfl rfl ⟨Nat.le_of_ble_eq_true rfl, Nat.le_of_ble_eq_true rfl⟩, S.2.2.2.2 _ lt_Mo_valueOf⟩ (u_preP hw.1.2) rfl rfl hl.1 rfl (lv_room (Nat.le_of_ble_eq_true rfl)) d_Mo_failsIn_120 ⟨Nat.zero_le _, Nat.zero_le _⟩) (fun r H locs hp hw => ?_)
          refine u_top (y := (s_Mo_valueOf a1 (mem 6 t))) hp ?_
          refine lv_iload_n S.1 S.2.1 d_Mo_failsIn_123 rfl (lv_at hl 4 rfl) ?_
          refine lv_iload S.1 S.2.1 d_Mo_failsIn_124 (lv_at hl 0 rfl) ?_
          refine u_callp hw (va_runS (As := [.int a1, .int (mem 7 t)]) (rest := [.int (s_Mo_valueOf a1 (mem 6 t))]) S (c_Mo_valueOf l a1 (mem 7 t)) ⟨u_cB S.2.2.2.2 t_Mo_valueOf ln_Mo lm_Mo_61 hd_Mo_valueOf rfl rfl ⟨Nat.le_of_ble_eq_true rfl, Nat.le_of_ble_eq_true rfl⟩, S.2.2.2.2 _ lt_Mo_valueOf⟩ (u_preP hw.1.2) rfl rfl hl.1 rfl (lv_room (Nat.le_of_ble_eq_true rfl)) d_Mo_failsIn_126 ⟨Nat.zero_le _, Nat.zero_le _⟩) (fun r H locs hp hw => ?_)
          refine u_top (y := (s_Mo_valueOf a1 (mem 7 t))) hp ?_
          refine lv_icmp_le (tgt := 136) S.1 S.2.1 d_Mo_failsIn_129 (by decide) (fun c10 => ?_) (fun c10 => ?_)
          · skip
            refine lv_iconst (v := (0 : Int32)) S.1 S.2.1 d_Mo_failsIn_136 (by decide) ?_
            exact u_zret S hr hlk hw (by first | rfl | assumption | exact nb01 (z_Ds_isBelow _ _)) ⟨by unfold s_Mo_failsIn; simp only [if_neg c2, if_neg c4, if_neg c6, if_neg c8, if_pos c10], rfl⟩ d_Mo_failsIn_137
          · skip
            refine lv_iconst (v := (1 : Int32)) S.1 S.2.1 d_Mo_failsIn_132 (by decide) ?_
            refine lv_goto (tgt := 137) S.1 S.2.1 d_Mo_failsIn_133 (by decide) ?_
            exact u_zret S hr hlk hw (by first | rfl | assumption | exact nb01 (z_Ds_isBelow _ _)) ⟨by unfold s_Mo_failsIn; simp only [if_neg c2, if_neg c4, if_neg c6, if_neg c8, if_neg c10], rfl⟩ d_Mo_failsIn_137
theorem z_Mo_failsIn (q5_t q6_t q7_t : Int32) (a1 : Int32) : s_Mo_failsIn q5_t q6_t q7_t a1 = 0 ∨ s_Mo_failsIn q5_t q6_t q7_t a1 = 1 := by
  unfold s_Mo_failsIn
  (repeat' split) <;> first | exact Or.inl rfl | exact Or.inr rfl | exact z_Ds_isBelow _ _ | exact z_Tr_allows _ _ | exact z_Mo_in _ _ _
def s_Mo_isState (q0_18 q0_17 : Int32) (a0 : Int32) : Int32 := (if q0_18 = (0 : Int32) then (0 : Int32) else (if (s_Mo_in a0 (0 : Int32) (q0_17 - (1 : Int32))) = (0 : Int32) then (0 : Int32) else (1 : Int32)))
set_option maxHeartbeats 4000000 in
set_option maxRecDepth 100000 in
theorem c_Mo_isState (l : Launch) (G : UG) (mem : um_M)  (a0 : Int32)   : MetM l G y_Mo_isState b_Mo_isState 2 (some .boolean) ({ frames := 1, cells := 0, slots := 0, locals := 22 }) [.ref (G.2.1 0), .int a0] mem (fun r mem' => r = s_Mo_isState (mem 0 18) (mem 0 17) a0 ∧ mem = mem') := by
  refine u_start [.ref (G.2.1 0), .int a0] (by decide) (Nat.le_of_ble_eq_true rfl) ?_
  intro p_ e_ s_ m_ bl_ me_ c_ ls S hr hlk hin hl hB
  have hw := uH_start hB
  have hl : lv_has ls 2 [(0, .ref (G.2.1 0)), (1, .int a0)] := hl
  refine lv_aload_n S.1 S.2.1 d_Mo_isState_0 rfl (lv_at hl 0 rfl) ?_
  refine u_get (v := .int (mem 0 18)) S hw 0 (by decide) rfl rfl in_Mo 18 (by decide) lf_Mo_91 rfl d_Mo_isState_1 ?_
  refine lv_if_eq (tgt := 25) S.1 S.2.1 d_Mo_isState_4 (by decide) (fun c1 => ?_) (fun c1 => ?_)
  · skip
    refine lv_iconst (v := (0 : Int32)) S.1 S.2.1 d_Mo_isState_25 (by decide) ?_
    exact u_zret S hr hlk hw (by first | rfl | assumption | exact nb01 (z_Ds_isBelow _ _)) ⟨by unfold s_Mo_isState; simp only [if_pos c1], rfl⟩ d_Mo_isState_26
  · skip
    refine lv_iload_n S.1 S.2.1 d_Mo_isState_7 rfl (lv_at hl 1 rfl) ?_
    refine lv_iconst (v := (0 : Int32)) S.1 S.2.1 d_Mo_isState_8 (by decide) ?_
    refine lv_aload_n S.1 S.2.1 d_Mo_isState_9 rfl (lv_at hl 0 rfl) ?_
    refine u_get (v := .int (mem 0 17)) S hw 0 (by decide) rfl rfl in_Mo 17 (by decide) lf_Mo_106 rfl d_Mo_isState_10 ?_
    refine lv_iconst (v := (1 : Int32)) S.1 S.2.1 d_Mo_isState_13 (by decide) ?_
    refine lv_isub S.1 S.2.1 d_Mo_isState_14 ?_
    refine u_callp hw (va_runS (As := [.int a0, .int (0 : Int32), .int ((mem 0 17) - (1 : Int32))]) (rest := []) S (c_Mo_in l a0 (0 : Int32) ((mem 0 17) - (1 : Int32))) ⟨u_cB S.2.2.2.2 t_Mo_in ln_Mo lm_Mo_84 hd_Mo_in rfl rfl ⟨Nat.le_of_ble_eq_true rfl, Nat.le_of_ble_eq_true rfl⟩, S.2.2.2.2 _ lt_Mo_in⟩ (u_preP hw.1.2) rfl rfl hl.1 rfl (lv_room (Nat.le_of_ble_eq_true rfl)) d_Mo_isState_15 ⟨Nat.zero_le _, Nat.zero_le _⟩) (fun r H locs hp hw => ?_)
    refine u_top (y := (s_Mo_in a0 (0 : Int32) ((mem 0 17) - (1 : Int32)))) hp ?_
    refine lv_if_eq (tgt := 25) S.1 S.2.1 d_Mo_isState_18 (by decide) (fun c2 => ?_) (fun c2 => ?_)
    · skip
      refine lv_iconst (v := (0 : Int32)) S.1 S.2.1 d_Mo_isState_25 (by decide) ?_
      exact u_zret S hr hlk hw (by first | rfl | assumption | exact nb01 (z_Ds_isBelow _ _)) ⟨by unfold s_Mo_isState; simp only [if_neg c1, if_pos c2], rfl⟩ d_Mo_isState_26
    · skip
      refine lv_iconst (v := (1 : Int32)) S.1 S.2.1 d_Mo_isState_21 (by decide) ?_
      refine lv_goto (tgt := 26) S.1 S.2.1 d_Mo_isState_22 (by decide) ?_
      exact u_zret S hr hlk hw (by first | rfl | assumption | exact nb01 (z_Ds_isBelow _ _)) ⟨by unfold s_Mo_isState; simp only [if_neg c1, if_neg c2], rfl⟩ d_Mo_isState_26
theorem z_Mo_isState (q0_18 q0_17 : Int32) (a0 : Int32) : s_Mo_isState q0_18 q0_17 a0 = 0 ∨ s_Mo_isState q0_18 q0_17 a0 = 1 := by
  unfold s_Mo_isState
  (repeat' split) <;> first | exact Or.inl rfl | exact Or.inr rfl | exact z_Ds_isBelow _ _ | exact z_Tr_allows _ _ | exact z_Mo_in _ _ _
def s_Mo_told (a0 : Int32) (a1 : Int32) : Int32 := (if (3 : Int32) ≤ a1 then (if (7 : Int32) ≤ a1 then (if a1 = (7 : Int32) then (s_Mo_sent a0) else (if (s_Mo_sent a0) ≤ (a1 - (8 : Int32)) then (-2 : Int32) else (s_Mo_inChannel a0 (a1 - (8 : Int32))))) else (s_Mo_valueOf a0 (a1 - (3 : Int32)))) else (s_Mo_placeOf a0 a1))
set_option maxHeartbeats 4000000 in
set_option maxRecDepth 100000 in
theorem c_Mo_told (l : Launch) (G : UG) (mem : um_M)  (a0 : Int32) (a1 : Int32)   : MetM l G y_Mo_told b_Mo_told 3 (some .int) ({ frames := 1, cells := 0, slots := 0, locals := 21 }) [.ref (G.2.1 0), .int a0, .int a1] mem (fun r mem' => r = s_Mo_told a0 a1 ∧ mem = mem') := by
  refine u_start [.ref (G.2.1 0), .int a0, .int a1] (by decide) (Nat.le_of_ble_eq_true rfl) ?_
  intro p_ e_ s_ m_ bl_ me_ c_ ls S hr hlk hin hl hB
  have hw := uH_start hB
  have hl : lv_has ls 3 [(0, .ref (G.2.1 0)), (1, .int a0), (2, .int a1)] := hl
  refine lv_iload_n S.1 S.2.1 d_Mo_told_0 rfl (lv_at hl 2 rfl) ?_
  refine lv_iconst (v := (3 : Int32)) S.1 S.2.1 d_Mo_told_1 (by decide) ?_
  refine lv_icmp_ge (tgt := 11) S.1 S.2.1 d_Mo_told_2 (by decide) (fun c1 => ?_) (fun c1 => ?_)
  · skip
    refine lv_iload_n S.1 S.2.1 d_Mo_told_11 rfl (lv_at hl 2 rfl) ?_
    refine lv_bipush (v := (7 : Int32)) S.1 S.2.1 d_Mo_told_12 (by decide) ?_
    refine lv_icmp_ge (tgt := 25) S.1 S.2.1 d_Mo_told_14 (by decide) (fun c2 => ?_) (fun c2 => ?_)
    · skip
      refine lv_iload_n S.1 S.2.1 d_Mo_told_25 rfl (lv_at hl 2 rfl) ?_
      refine lv_bipush (v := (7 : Int32)) S.1 S.2.1 d_Mo_told_26 (by decide) ?_
      refine lv_icmp_ne (tgt := 36) S.1 S.2.1 d_Mo_told_28 (by decide) (fun c3 => ?_) (fun c3 => ?_)
      · skip
        refine lv_iload_n S.1 S.2.1 d_Mo_told_36 rfl (lv_at hl 2 rfl) ?_
        refine lv_bipush (v := (8 : Int32)) S.1 S.2.1 d_Mo_told_37 (by decide) ?_
        refine lv_isub S.1 S.2.1 d_Mo_told_39 ?_
        refine lv_iload_n S.1 S.2.1 d_Mo_told_40 rfl (lv_at hl 1 rfl) ?_
        refine u_callp hw (va_runS (As := [.int a0]) (rest := [.int (a1 - (8 : Int32))]) S (c_Mo_sent l a0) ⟨u_cB S.2.2.2.2 t_Mo_sent ln_Mo lm_Mo_64 hd_Mo_sent rfl rfl ⟨Nat.le_of_ble_eq_true rfl, Nat.le_of_ble_eq_true rfl⟩, S.2.2.2.2 _ lt_Mo_sent⟩ (u_preP hw.1.2) rfl rfl hl.1 rfl (lv_room (Nat.le_of_ble_eq_true rfl)) d_Mo_told_41 ⟨Nat.zero_le _, Nat.zero_le _⟩) (fun r H locs hp hw => ?_)
        refine u_top (y := (s_Mo_sent a0)) hp ?_
        refine lv_icmp_ge (tgt := 58) S.1 S.2.1 d_Mo_told_44 (by decide) (fun c4 => ?_) (fun c4 => ?_)
        · skip
          refine lv_bipush (v := (-2 : Int32)) S.1 S.2.1 d_Mo_told_58 (by decide) ?_
          exact u_iret S hr hlk hw ⟨by unfold s_Mo_told; simp only [if_pos c1, if_pos c2, if_neg c3, if_pos c4], rfl⟩ d_Mo_told_60
        · skip
          refine lv_iload_n S.1 S.2.1 d_Mo_told_47 rfl (lv_at hl 1 rfl) ?_
          refine lv_iload_n S.1 S.2.1 d_Mo_told_48 rfl (lv_at hl 2 rfl) ?_
          refine lv_bipush (v := (8 : Int32)) S.1 S.2.1 d_Mo_told_49 (by decide) ?_
          refine lv_isub S.1 S.2.1 d_Mo_told_51 ?_
          refine u_callp hw (va_runS (As := [.int a0, .int (a1 - (8 : Int32))]) (rest := []) S (c_Mo_inChannel l a0 (a1 - (8 : Int32))) ⟨u_cB S.2.2.2.2 t_Mo_inChannel ln_Mo lm_Mo_73 hd_Mo_inChannel rfl rfl ⟨Nat.le_of_ble_eq_true rfl, Nat.le_of_ble_eq_true rfl⟩, S.2.2.2.2 _ lt_Mo_inChannel⟩ (u_preP hw.1.2) rfl rfl hl.1 rfl (lv_room (Nat.le_of_ble_eq_true rfl)) d_Mo_told_52 ⟨Nat.zero_le _, Nat.zero_le _⟩) (fun r H locs hp hw => ?_)
          refine u_top (y := (s_Mo_inChannel a0 (a1 - (8 : Int32)))) hp ?_
          refine lv_goto (tgt := 60) S.1 S.2.1 d_Mo_told_55 (by decide) ?_
          exact u_iret S hr hlk hw ⟨by unfold s_Mo_told; simp only [if_pos c1, if_pos c2, if_neg c3, if_neg c4], rfl⟩ d_Mo_told_60
      · skip
        refine lv_iload_n S.1 S.2.1 d_Mo_told_31 rfl (lv_at hl 1 rfl) ?_
        refine u_callp hw (va_runS (As := [.int a0]) (rest := []) S (c_Mo_sent l a0) ⟨u_cB S.2.2.2.2 t_Mo_sent ln_Mo lm_Mo_64 hd_Mo_sent rfl rfl ⟨Nat.le_of_ble_eq_true rfl, Nat.le_of_ble_eq_true rfl⟩, S.2.2.2.2 _ lt_Mo_sent⟩ (u_preP hw.1.2) rfl rfl hl.1 rfl (lv_room (Nat.le_of_ble_eq_true rfl)) d_Mo_told_32 ⟨Nat.zero_le _, Nat.zero_le _⟩) (fun r H locs hp hw => ?_)
        refine u_top (y := (s_Mo_sent a0)) hp ?_
        exact u_iret S hr hlk hw ⟨by unfold s_Mo_told; simp only [if_pos c1, if_pos c2, if_pos c3], rfl⟩ d_Mo_told_35
    · skip
      refine lv_iload_n S.1 S.2.1 d_Mo_told_17 rfl (lv_at hl 1 rfl) ?_
      refine lv_iload_n S.1 S.2.1 d_Mo_told_18 rfl (lv_at hl 2 rfl) ?_
      refine lv_iconst (v := (3 : Int32)) S.1 S.2.1 d_Mo_told_19 (by decide) ?_
      refine lv_isub S.1 S.2.1 d_Mo_told_20 ?_
      refine u_callp hw (va_runS (As := [.int a0, .int (a1 - (3 : Int32))]) (rest := []) S (c_Mo_valueOf l a0 (a1 - (3 : Int32))) ⟨u_cB S.2.2.2.2 t_Mo_valueOf ln_Mo lm_Mo_61 hd_Mo_valueOf rfl rfl ⟨Nat.le_of_ble_eq_true rfl, Nat.le_of_ble_eq_true rfl⟩, S.2.2.2.2 _ lt_Mo_valueOf⟩ (u_preP hw.1.2) rfl rfl hl.1 rfl (lv_room (Nat.le_of_ble_eq_true rfl)) d_Mo_told_21 ⟨Nat.zero_le _, Nat.zero_le _⟩) (fun r H locs hp hw => ?_)
      refine u_top (y := (s_Mo_valueOf a0 (a1 - (3 : Int32)))) hp ?_
      exact u_iret S hr hlk hw ⟨by unfold s_Mo_told; simp only [if_pos c1, if_neg c2], rfl⟩ d_Mo_told_24
  · skip
    refine lv_iload_n S.1 S.2.1 d_Mo_told_5 rfl (lv_at hl 1 rfl) ?_
    refine lv_iload_n S.1 S.2.1 d_Mo_told_6 rfl (lv_at hl 2 rfl) ?_
    refine u_callp hw (va_runS (As := [.int a0, .int a1]) (rest := []) S (c_Mo_placeOf l a0 a1) ⟨u_cB S.2.2.2.2 t_Mo_placeOf ln_Mo lm_Mo_57 hd_Mo_placeOf rfl rfl ⟨Nat.le_of_ble_eq_true rfl, Nat.le_of_ble_eq_true rfl⟩, S.2.2.2.2 _ lt_Mo_placeOf⟩ (u_preP hw.1.2) rfl rfl hl.1 rfl (lv_room (Nat.le_of_ble_eq_true rfl)) d_Mo_told_7 ⟨Nat.zero_le _, Nat.zero_le _⟩) (fun r H locs hp hw => ?_)
    refine u_top (y := (s_Mo_placeOf a0 a1)) hp ?_
    exact u_iret S hr hlk hw ⟨by unfold s_Mo_told; simp only [if_neg c1], rfl⟩ d_Mo_told_10
def s_Mo_begin (a0 : Int32) : Int32 := (if (s_Mo_in a0 (0 : Int32) (255 : Int32)) = (0 : Int32) then (0 : Int32) else (1 : Int32))
def n_Mo_begin (mem : um_M) (a0 : Int32) : um_M := (if (s_Mo_in a0 (0 : Int32) (255 : Int32)) = (0 : Int32) then mem else (um_set (um_set (um_set (um_set mem 0 9 a0) 0 10 (s_Mo_first a0)) 0 11 (0 : Int32)) 0 18 (0 : Int32)))
set_option maxHeartbeats 4000000 in
set_option maxRecDepth 100000 in
theorem c_Mo_begin (l : Launch) (G : UG) (mem : um_M)  (a0 : Int32)   : MetM l G y_Mo_begin b_Mo_begin 2 (some .boolean) ({ frames := 1, cells := 0, slots := 0, locals := 22 }) [.ref (G.2.1 0), .int a0] mem (fun r mem' => r = s_Mo_begin a0 ∧ n_Mo_begin mem a0 = mem') := by
  refine u_start [.ref (G.2.1 0), .int a0] (by decide) (Nat.le_of_ble_eq_true rfl) ?_
  intro p_ e_ s_ m_ bl_ me_ c_ ls S hr hlk hin hl hB
  have hw := uH_start hB
  have hl : lv_has ls 2 [(0, .ref (G.2.1 0)), (1, .int a0)] := hl
  refine lv_iload_n S.1 S.2.1 d_Mo_begin_0 rfl (lv_at hl 1 rfl) ?_
  refine lv_iconst (v := (0 : Int32)) S.1 S.2.1 d_Mo_begin_1 (by decide) ?_
  refine lv_sipush (v := (255 : Int32)) S.1 S.2.1 d_Mo_begin_2 (by decide) ?_
  refine u_callp hw (va_runS (As := [.int a0, .int (0 : Int32), .int (255 : Int32)]) (rest := []) S (c_Mo_in l a0 (0 : Int32) (255 : Int32)) ⟨u_cB S.2.2.2.2 t_Mo_in ln_Mo lm_Mo_84 hd_Mo_in rfl rfl ⟨Nat.le_of_ble_eq_true rfl, Nat.le_of_ble_eq_true rfl⟩, S.2.2.2.2 _ lt_Mo_in⟩ (u_preP hw.1.2) rfl rfl hl.1 rfl (lv_room (Nat.le_of_ble_eq_true rfl)) d_Mo_begin_5 ⟨Nat.zero_le _, Nat.zero_le _⟩) (fun r H locs hp hw => ?_)
  refine u_top (y := (s_Mo_in a0 (0 : Int32) (255 : Int32))) hp ?_
  refine lv_if_ne (tgt := 13) S.1 S.2.1 d_Mo_begin_8 (by decide) (fun c1 => ?_) (fun c1 => ?_)
  · skip
    refine lv_aload_n S.1 S.2.1 d_Mo_begin_13 rfl (lv_at hl 0 rfl) ?_
    refine lv_iload_n S.1 S.2.1 d_Mo_begin_14 rfl (lv_at hl 1 rfl) ?_
    refine u_put S hw 0 (by decide) rfl rfl in_Mo ty_Mo tk_Mo nm_Mo 9 (by decide) lf_Mo_54 rfl rfl rfl rfl (Nat.le_of_ble_eq_true rfl) rfl d_Mo_begin_15 (fun H locs hw => ?_)
    refine lv_aload_n S.1 S.2.1 d_Mo_begin_18 rfl (lv_at hl 0 rfl) ?_
    refine lv_aload_n S.1 S.2.1 d_Mo_begin_19 rfl (lv_at hl 0 rfl) ?_
    refine u_calli hw (va_runV (As := []) (rest := [.ref (G.2.1 0)]) S (c_Mo_first l G (um_set mem 0 9 a0) ) ⟨u_cB S.2.2.2.2 t_Mo_first ln_Mo lm_Mo_47 hd_Mo_first rfl rfl ⟨Nat.le_of_ble_eq_true rfl, Nat.le_of_ble_eq_true rfl⟩, S.2.2.2.2 _ li_Mo_first, S.2.2.2.2 _ ls_Mo_first⟩ (u_preV hw 0 (by decide) rfl rfl) rfl rfl hl.1 rfl (lv_room (Nat.le_of_ble_eq_true rfl)) d_Mo_begin_20 ⟨Nat.zero_le _, Nat.zero_le _⟩) (fun r3 mem2 H locs hp hw => ?_)
    obtain ⟨hp, rfl⟩ := hp
    refine u_top (y := (s_Mo_first a0)) hp ?_
    refine u_put S hw 0 (by decide) rfl rfl in_Mo ty_Mo tk_Mo nm_Mo 10 (by decide) lf_Mo_50 rfl rfl rfl rfl (Nat.le_of_ble_eq_true rfl) rfl d_Mo_begin_23 (fun H locs hw => ?_)
    refine lv_aload_n S.1 S.2.1 d_Mo_begin_26 rfl (lv_at hl 0 rfl) ?_
    refine lv_iconst (v := (0 : Int32)) S.1 S.2.1 d_Mo_begin_27 (by decide) ?_
    refine u_put S hw 0 (by decide) rfl rfl in_Mo ty_Mo tk_Mo nm_Mo 11 (by decide) lf_Mo_88 rfl rfl rfl rfl (Nat.le_of_ble_eq_true rfl) rfl d_Mo_begin_28 (fun H locs hw => ?_)
    refine lv_aload_n S.1 S.2.1 d_Mo_begin_31 rfl (lv_at hl 0 rfl) ?_
    refine lv_iconst (v := (0 : Int32)) S.1 S.2.1 d_Mo_begin_32 (by decide) ?_
    refine u_put S hw 0 (by decide) rfl rfl in_Mo ty_Mo tk_Mo nm_Mo 18 (by decide) lf_Mo_91 rfl rfl (by first | rfl | assumption) rfl (Nat.le_of_ble_eq_true rfl) rfl d_Mo_begin_33 (fun H locs hw => ?_)
    refine lv_iconst (v := (1 : Int32)) S.1 S.2.1 d_Mo_begin_36 (by decide) ?_
    exact u_zret S hr hlk hw (by first | rfl | assumption | exact nb01 (z_Ds_isBelow _ _)) ⟨(by unfold s_Mo_begin; simp only [if_neg c1]; try rfl), (by unfold n_Mo_begin; simp only [if_neg c1]; try rfl)⟩ d_Mo_begin_37
  · skip
    refine lv_iconst (v := (0 : Int32)) S.1 S.2.1 d_Mo_begin_11 (by decide) ?_
    exact u_zret S hr hlk hw (by first | rfl | assumption | exact nb01 (z_Ds_isBelow _ _)) ⟨(by unfold s_Mo_begin; simp only [if_pos c1]; try rfl), (by unfold n_Mo_begin; simp only [if_pos c1]; try rfl)⟩ d_Mo_begin_12
theorem z_Mo_begin (a0 : Int32) : s_Mo_begin a0 = 0 ∨ s_Mo_begin a0 = 1 := by
  unfold s_Mo_begin
  (repeat' split) <;> first | exact Or.inl rfl | exact Or.inr rfl | exact z_Ds_isBelow _ _ | exact z_Tr_allows _ _ | exact z_Mo_in _ _ _
def s_Mo_clear (q0_7 : Int32) : Int32 := q0_7
def n_Mo_clear (mem : um_M)  : um_M := (um_set (um_set (um_set (um_set (um_set mem 0 7 (0 : Int32)) 0 8 (0 : Int32)) 0 10 (s_Mo_first (mem 0 9))) 0 11 (0 : Int32)) 0 18 (0 : Int32))
set_option maxHeartbeats 4000000 in
set_option maxRecDepth 100000 in
theorem c_Mo_clear (l : Launch) (G : UG) (mem : um_M)     : MetM l G y_Mo_clear b_Mo_clear 2 (some .int) ({ frames := 1, cells := 0, slots := 0, locals := 20 }) [.ref (G.2.1 0)] mem (fun r mem' => r = s_Mo_clear (mem 0 7) ∧ n_Mo_clear mem  = mem') := by
  refine u_start [.ref (G.2.1 0)] (by decide) (Nat.le_of_ble_eq_true rfl) ?_
  intro p_ e_ s_ m_ bl_ me_ c_ ls S hr hlk hin hl hB
  have hw := uH_start hB
  have hl : lv_has ls 2 [(0, .ref (G.2.1 0))] := hl
  refine lv_aload_n S.1 S.2.1 d_Mo_clear_0 rfl (lv_at hl 0 rfl) ?_
  refine u_get (v := .int (mem 0 7)) S hw 0 (by decide) rfl rfl in_Mo 7 (by decide) lf_Mo_77 rfl d_Mo_clear_1 ?_
  refine lv_istore_n (lv' := [(1, .int (mem 0 7)), (0, .ref (G.2.1 0))]) S.1 S.2.1 d_Mo_clear_4 rfl hl (by decide) rfl (fun ls hl => ?_)
  refine lv_aload_n S.1 S.2.1 d_Mo_clear_5 rfl (lv_at hl 1 rfl) ?_
  refine lv_iconst (v := (0 : Int32)) S.1 S.2.1 d_Mo_clear_6 (by decide) ?_
  refine u_put S hw 0 (by decide) rfl rfl in_Mo ty_Mo tk_Mo nm_Mo 7 (by decide) lf_Mo_77 rfl rfl rfl rfl (Nat.le_of_ble_eq_true rfl) rfl d_Mo_clear_7 (fun H locs hw => ?_)
  refine lv_aload_n S.1 S.2.1 d_Mo_clear_10 rfl (lv_at hl 1 rfl) ?_
  refine lv_iconst (v := (0 : Int32)) S.1 S.2.1 d_Mo_clear_11 (by decide) ?_
  refine u_put S hw 0 (by decide) rfl rfl in_Mo ty_Mo tk_Mo nm_Mo 8 (by decide) lf_Mo_103 rfl rfl rfl rfl (Nat.le_of_ble_eq_true rfl) rfl d_Mo_clear_12 (fun H locs hw => ?_)
  refine lv_aload_n S.1 S.2.1 d_Mo_clear_15 rfl (lv_at hl 1 rfl) ?_
  refine lv_aload_n S.1 S.2.1 d_Mo_clear_16 rfl (lv_at hl 1 rfl) ?_
  refine u_calli hw (va_runV (As := []) (rest := [.ref (G.2.1 0)]) S (c_Mo_first l G (um_set (um_set mem 0 7 (0 : Int32)) 0 8 (0 : Int32)) ) ⟨u_cB S.2.2.2.2 t_Mo_first ln_Mo lm_Mo_47 hd_Mo_first rfl rfl ⟨Nat.le_of_ble_eq_true rfl, Nat.le_of_ble_eq_true rfl⟩, S.2.2.2.2 _ li_Mo_first, S.2.2.2.2 _ ls_Mo_first⟩ (u_preV hw 0 (by decide) rfl rfl) rfl rfl hl.1 rfl (lv_room (Nat.le_of_ble_eq_true rfl)) d_Mo_clear_17 ⟨Nat.zero_le _, Nat.zero_le _⟩) (fun r2 mem1 H locs hp hw => ?_)
  obtain ⟨hp, rfl⟩ := hp
  refine u_top (y := (s_Mo_first (mem 0 9))) hp ?_
  refine u_put S hw 0 (by decide) rfl rfl in_Mo ty_Mo tk_Mo nm_Mo 10 (by decide) lf_Mo_50 rfl rfl rfl rfl (Nat.le_of_ble_eq_true rfl) rfl d_Mo_clear_20 (fun H locs hw => ?_)
  refine lv_aload_n S.1 S.2.1 d_Mo_clear_23 rfl (lv_at hl 1 rfl) ?_
  refine lv_iconst (v := (0 : Int32)) S.1 S.2.1 d_Mo_clear_24 (by decide) ?_
  refine u_put S hw 0 (by decide) rfl rfl in_Mo ty_Mo tk_Mo nm_Mo 11 (by decide) lf_Mo_88 rfl rfl rfl rfl (Nat.le_of_ble_eq_true rfl) rfl d_Mo_clear_25 (fun H locs hw => ?_)
  refine lv_aload_n S.1 S.2.1 d_Mo_clear_28 rfl (lv_at hl 1 rfl) ?_
  refine lv_iconst (v := (0 : Int32)) S.1 S.2.1 d_Mo_clear_29 (by decide) ?_
  refine u_put S hw 0 (by decide) rfl rfl in_Mo ty_Mo tk_Mo nm_Mo 18 (by decide) lf_Mo_91 rfl rfl (by first | rfl | assumption) rfl (Nat.le_of_ble_eq_true rfl) rfl d_Mo_clear_30 (fun H locs hw => ?_)
  refine lv_iload_n S.1 S.2.1 d_Mo_clear_33 rfl (lv_at hl 0 rfl) ?_
  exact u_iret S hr hlk hw ⟨rfl, rfl⟩ d_Mo_clear_34
