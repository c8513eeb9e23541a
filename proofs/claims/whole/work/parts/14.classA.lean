def n_Sp_forget (mem : um_M)  : um_M := (um_set mem 3 9 (0 : Int32))
set_option maxHeartbeats 4000000 in
set_option maxRecDepth 100000 in
theorem c_Sp_forget (l : Launch) (G : UG) (mem : um_M)     : MetXv l G y_Sp_forget b_Sp_forget 1 ({ frames := 0, cells := 0, slots := 0, locals := 0 }) [.ref (G.2.1 3)] mem (fun mem' => n_Sp_forget mem  = mem') := by
  refine u_start [.ref (G.2.1 3)] (by decide) (Nat.le_of_ble_eq_true rfl) ?_
  intro p_ e_ s_ m_ bl_ me_ c_ ls S hr hlk hin hl hB
  have hw := uH_start hB
  have hl : lv_has ls 1 [(0, .ref (G.2.1 3))] := hl
  refine lv_aload_n S.1 S.2.1 d_Sp_forget_0 rfl (lv_at hl 0 rfl) ?_
  refine lv_iconst (v := (0 : Int32)) S.1 S.2.1 d_Sp_forget_1 (by decide) ?_
  refine u_put S hw 3 (by decide) rfl rfl in_Sp ty_Sp tk_Sp nm_Sp 9 (by decide) lf_Sp_39 rfl rfl rfl rfl (Nat.le_of_ble_eq_true rfl) rfl d_Sp_forget_2 (fun H locs hw => ?_)
  exact u_vret S hr hlk hw rfl d_Sp_forget_5
def s_Sp_isThere (q3_9 : Int32) : Int32 := (if q3_9 ≤ (0 : Int32) then (0 : Int32) else (1 : Int32))
set_option maxHeartbeats 4000000 in
set_option maxRecDepth 100000 in
theorem c_Sp_isThere (l : Launch) (G : UG) (mem : um_M)     : MetX l G y_Sp_isThere b_Sp_isThere 1 (some .boolean) ({ frames := 0, cells := 0, slots := 0, locals := 0 }) [.ref (G.2.1 3)] mem (fun r mem' => r = s_Sp_isThere (mem 3 9) ∧ mem = mem') := by
  refine u_start [.ref (G.2.1 3)] (by decide) (Nat.le_of_ble_eq_true rfl) ?_
  intro p_ e_ s_ m_ bl_ me_ c_ ls S hr hlk hin hl hB
  have hw := uH_start hB
  have hl : lv_has ls 1 [(0, .ref (G.2.1 3))] := hl
  refine lv_aload_n S.1 S.2.1 d_Sp_isThere_0 rfl (lv_at hl 0 rfl) ?_
  refine u_get (v := .int (mem 3 9)) S hw 3 (by decide) rfl rfl in_Sp 9 (by decide) lf_Sp_39 rfl d_Sp_isThere_1 ?_
  refine lv_if_le (tgt := 11) S.1 S.2.1 d_Sp_isThere_4 (by decide) (fun c1 => ?_) (fun c1 => ?_)
  · skip
    refine lv_iconst (v := (0 : Int32)) S.1 S.2.1 d_Sp_isThere_11 (by decide) ?_
    exact u_zret S hr hlk hw (by first | rfl | assumption | exact nb01 (z_Ds_isBelow _ _)) ⟨by unfold s_Sp_isThere; simp only [if_pos c1], rfl⟩ d_Sp_isThere_12
  · skip
    refine lv_iconst (v := (1 : Int32)) S.1 S.2.1 d_Sp_isThere_7 (by decide) ?_
    refine lv_goto (tgt := 12) S.1 S.2.1 d_Sp_isThere_8 (by decide) ?_
    exact u_zret S hr hlk hw (by first | rfl | assumption | exact nb01 (z_Ds_isBelow _ _)) ⟨by unfold s_Sp_isThere; simp only [if_neg c1], rfl⟩ d_Sp_isThere_12
theorem z_Sp_isThere (q3_9 : Int32) : s_Sp_isThere q3_9 = 0 ∨ s_Sp_isThere q3_9 = 1 := by
  unfold s_Sp_isThere
  (repeat' split) <;> first | exact Or.inl rfl | exact Or.inr rfl | exact z_Ds_isBelow _ _ | exact z_Tr_allows _ _ | exact z_Mo_in _ _ _
def s_Sp_has (q3_9 : Int32) (a0 : Int32) : Int32 := (s_Ds_isBelow a0 q3_9)
set_option maxHeartbeats 4000000 in
set_option maxRecDepth 100000 in
theorem c_Sp_has (l : Launch) (G : UG) (mem : um_M)  (a0 : Int32)   : MetX l G y_Sp_has b_Sp_has 2 (some .boolean) ({ frames := 1, cells := 0, slots := 0, locals := 21 }) [.ref (G.2.1 3), .int a0] mem (fun r mem' => r = s_Sp_has (mem 3 9) a0 ∧ mem = mem') := by
  refine u_start [.ref (G.2.1 3), .int a0] (by decide) (Nat.le_of_ble_eq_true rfl) ?_
  intro p_ e_ s_ m_ bl_ me_ c_ ls S hr hlk hin hl hB
  have hw := uH_start hB
  have hl : lv_has ls 2 [(0, .ref (G.2.1 3)), (1, .int a0)] := hl
  refine lv_iload_n S.1 S.2.1 d_Sp_has_0 rfl (lv_at hl 1 rfl) ?_
  refine lv_aload_n S.1 S.2.1 d_Sp_has_1 rfl (lv_at hl 0 rfl) ?_
  refine u_get (v := .int (mem 3 9)) S hw 3 (by decide) rfl rfl in_Sp 9 (by decide) lf_Sp_39 rfl d_Sp_has_2 ?_
  refine u_callp hw (va_runSN (As := [.int a0, .int (mem 3 9)]) (rest := []) S (c_Ds_isBelow l a0 (mem 3 9)) ⟨u_cN S.2.2.2.2 t_Ds_isBelow ln_Ds (uN_Sp hw.1.2) hd_Ds_isBelow rfl rfl ⟨Nat.le_of_ble_eq_true rfl, Nat.le_of_ble_eq_true rfl⟩, S.2.2.2.2 _ lt_Ds_isBelow, trivial⟩ (u_preP hw.1.2) rfl rfl hl.1 rfl (lv_room (Nat.le_of_ble_eq_true rfl)) d_Sp_has_5 ⟨Nat.zero_le _, Nat.zero_le _⟩) (fun r H locs hp hw => ?_)
  refine u_top (y := (s_Ds_isBelow a0 (mem 3 9))) hp ?_
  exact u_zret S hr hlk hw (by first | rfl | assumption | exact nb01 (z_Ds_isBelow _ _)) ⟨rfl, rfl⟩ d_Sp_has_8
theorem z_Sp_has (q3_9 : Int32) (a0 : Int32) : s_Sp_has q3_9 a0 = 0 ∨ s_Sp_has q3_9 a0 = 1 := by
  unfold s_Sp_has
  (repeat' split) <;> first | exact Or.inl rfl | exact Or.inr rfl | exact z_Ds_isBelow _ _ | exact z_Tr_allows _ _ | exact z_Mo_in _ _ _
def s_Sp_size (q3_9 : Int32) : Int32 := q3_9
set_option maxHeartbeats 4000000 in
set_option maxRecDepth 100000 in
theorem c_Sp_size (l : Launch) (G : UG) (mem : um_M)     : MetX l G y_Sp_size b_Sp_size 1 (some .int) ({ frames := 0, cells := 0, slots := 0, locals := 0 }) [.ref (G.2.1 3)] mem (fun r mem' => r = s_Sp_size (mem 3 9) ∧ mem = mem') := by
  refine u_start [.ref (G.2.1 3)] (by decide) (Nat.le_of_ble_eq_true rfl) ?_
  intro p_ e_ s_ m_ bl_ me_ c_ ls S hr hlk hin hl hB
  have hw := uH_start hB
  have hl : lv_has ls 1 [(0, .ref (G.2.1 3))] := hl
  refine lv_aload_n S.1 S.2.1 d_Sp_size_0 rfl (lv_at hl 0 rfl) ?_
  refine u_get (v := .int (mem 3 9)) S hw 3 (by decide) rfl rfl in_Sp 9 (by decide) lf_Sp_39 rfl d_Sp_size_1 ?_
  exact u_iret S hr hlk hw ⟨rfl, rfl⟩ d_Sp_size_4
def s_Sp_packed (q4_s : Int32) : Int32 := q4_s
set_option maxHeartbeats 4000000 in
set_option maxRecDepth 100000 in
theorem c_Sp_packed (l : Launch) (G : UG) (mem : um_M)  (s : Nat) (hs : s < 300)  : MetX l G y_Sp_packed b_Sp_packed 2 (some .int) ({ frames := 0, cells := 0, slots := 0, locals := 0 }) [.ref (G.2.1 3), .int (nI s)] mem (fun r mem' => r = s_Sp_packed (mem 4 s) ∧ mem = mem') := by
  refine u_start [.ref (G.2.1 3), .int (nI s)] (by decide) (Nat.le_of_ble_eq_true rfl) ?_
  intro p_ e_ s_ m_ bl_ me_ c_ ls S hr hlk hin hl hB
  have hw := uH_start hB
  have hl : lv_has ls 2 [(0, .ref (G.2.1 3)), (1, .int (nI s))] := hl
  refine lv_aload_n S.1 S.2.1 d_Sp_packed_0 rfl (lv_at hl 0 rfl) ?_
  refine u_get (v := .ref (G.2.1 4)) S hw 3 (by decide) rfl rfl in_Sp 0 (by decide) lf_Sp_9 rfl d_Sp_packed_1 ?_
  refine lv_iload_n S.1 S.2.1 d_Sp_packed_4 rfl (lv_at hl 1 rfl) ?_
  refine u_iaN S hw 4 0 (by decide) rfl rfl (j := s) rfl (by omega) (by decide) d_Sp_packed_5 ?_
  exact u_iret S hr hlk hw ⟨rfl, rfl⟩ d_Sp_packed_6
def s_Sp_openIn (q8_s : Int32) : Int32 := q8_s
set_option maxHeartbeats 4000000 in
set_option maxRecDepth 100000 in
theorem c_Sp_openIn (l : Launch) (G : UG) (mem : um_M)  (s : Nat) (hs : s < 300)  : MetX l G y_Sp_openIn b_Sp_openIn 2 (some .int) ({ frames := 0, cells := 0, slots := 0, locals := 0 }) [.ref (G.2.1 3), .int (nI s)] mem (fun r mem' => r = s_Sp_openIn (mem 8 s) ∧ mem = mem') := by
  refine u_start [.ref (G.2.1 3), .int (nI s)] (by decide) (Nat.le_of_ble_eq_true rfl) ?_
  intro p_ e_ s_ m_ bl_ me_ c_ ls S hr hlk hin hl hB
  have hw := uH_start hB
  have hl : lv_has ls 2 [(0, .ref (G.2.1 3)), (1, .int (nI s))] := hl
  refine lv_aload_n S.1 S.2.1 d_Sp_openIn_0 rfl (lv_at hl 0 rfl) ?_
  refine u_get (v := .ref (G.2.1 8)) S hw 3 (by decide) rfl rfl in_Sp 4 (by decide) lf_Sp_24 rfl d_Sp_openIn_1 ?_
  refine lv_iload_n S.1 S.2.1 d_Sp_openIn_4 rfl (lv_at hl 1 rfl) ?_
  refine u_iaN S hw 8 0 (by decide) rfl rfl (j := s) rfl (by omega) (by decide) d_Sp_openIn_5 ?_
  exact u_iret S hr hlk hw ⟨rfl, rfl⟩ d_Sp_openIn_6
def s_Sp_wayLength (q7_s : Int32) : Int32 := q7_s
set_option maxHeartbeats 4000000 in
set_option maxRecDepth 100000 in
theorem c_Sp_wayLength (l : Launch) (G : UG) (mem : um_M)  (s : Nat) (hs : s < 300)  : MetX l G y_Sp_wayLength b_Sp_wayLength 2 (some .int) ({ frames := 0, cells := 0, slots := 0, locals := 0 }) [.ref (G.2.1 3), .int (nI s)] mem (fun r mem' => r = s_Sp_wayLength (mem 7 s) ∧ mem = mem') := by
  refine u_start [.ref (G.2.1 3), .int (nI s)] (by decide) (Nat.le_of_ble_eq_true rfl) ?_
  intro p_ e_ s_ m_ bl_ me_ c_ ls S hr hlk hin hl hB
  have hw := uH_start hB
  have hl : lv_has ls 2 [(0, .ref (G.2.1 3)), (1, .int (nI s))] := hl
  refine lv_aload_n S.1 S.2.1 d_Sp_wayLength_0 rfl (lv_at hl 0 rfl) ?_
  refine u_get (v := .ref (G.2.1 7)) S hw 3 (by decide) rfl rfl in_Sp 3 (by decide) lf_Sp_21 rfl d_Sp_wayLength_1 ?_
  refine lv_iload_n S.1 S.2.1 d_Sp_wayLength_4 rfl (lv_at hl 1 rfl) ?_
  refine u_iaN S hw 7 0 (by decide) rfl rfl (j := s) rfl (by omega) (by decide) d_Sp_wayLength_5 ?_
  exact u_iret S hr hlk hw ⟨rfl, rfl⟩ d_Sp_wayLength_6
def s_Sp_lastPairInto (q10_s : Int32) : Int32 := q10_s
set_option maxHeartbeats 4000000 in
set_option maxRecDepth 100000 in
theorem c_Sp_lastPairInto (l : Launch) (G : UG) (mem : um_M)  (s : Nat) (hs : s < 300)  : MetX l G y_Sp_lastPairInto b_Sp_lastPairInto 2 (some .int) ({ frames := 0, cells := 0, slots := 0, locals := 0 }) [.ref (G.2.1 3), .int (nI s)] mem (fun r mem' => r = s_Sp_lastPairInto (mem 10 s) ∧ mem = mem') := by
  refine u_start [.ref (G.2.1 3), .int (nI s)] (by decide) (Nat.le_of_ble_eq_true rfl) ?_
  intro p_ e_ s_ m_ bl_ me_ c_ ls S hr hlk hin hl hB
  have hw := uH_start hB
  have hl : lv_has ls 2 [(0, .ref (G.2.1 3)), (1, .int (nI s))] := hl
  refine lv_aload_n S.1 S.2.1 d_Sp_lastPairInto_0 rfl (lv_at hl 0 rfl) ?_
  refine u_get (v := .ref (G.2.1 10)) S hw 3 (by decide) rfl rfl in_Sp 6 (by decide) lf_Sp_30 rfl d_Sp_lastPairInto_1 ?_
  refine lv_iload_n S.1 S.2.1 d_Sp_lastPairInto_4 rfl (lv_at hl 1 rfl) ?_
  refine u_iaN S hw 10 0 (by decide) rfl rfl (j := s) rfl (by omega) (by decide) d_Sp_lastPairInto_5 ?_
  exact u_iret S hr hlk hw ⟨rfl, rfl⟩ d_Sp_lastPairInto_6
def s_Sp_pairBefore (q11_s : Int32) : Int32 := q11_s
set_option maxHeartbeats 4000000 in
set_option maxRecDepth 100000 in
theorem c_Sp_pairBefore (l : Launch) (G : UG) (mem : um_M)  (s : Nat) (hs : s < 7200)  : MetX l G y_Sp_pairBefore b_Sp_pairBefore 2 (some .int) ({ frames := 0, cells := 0, slots := 0, locals := 0 }) [.ref (G.2.1 3), .int (nI s)] mem (fun r mem' => r = s_Sp_pairBefore (mem 11 s) ∧ mem = mem') := by
  refine u_start [.ref (G.2.1 3), .int (nI s)] (by decide) (Nat.le_of_ble_eq_true rfl) ?_
  intro p_ e_ s_ m_ bl_ me_ c_ ls S hr hlk hin hl hB
  have hw := uH_start hB
  have hl : lv_has ls 2 [(0, .ref (G.2.1 3)), (1, .int (nI s))] := hl
  refine lv_aload_n S.1 S.2.1 d_Sp_pairBefore_0 rfl (lv_at hl 0 rfl) ?_
  refine u_get (v := .ref (G.2.1 11)) S hw 3 (by decide) rfl rfl in_Sp 7 (by decide) lf_Sp_33 rfl d_Sp_pairBefore_1 ?_
  refine lv_iload_n S.1 S.2.1 d_Sp_pairBefore_4 rfl (lv_at hl 1 rfl) ?_
  refine u_iaN S hw 11 0 (by decide) rfl rfl (j := s) rfl (by omega) (by decide) d_Sp_pairBefore_5 ?_
  exact u_iret S hr hlk hw ⟨rfl, rfl⟩ d_Sp_pairBefore_6
def n_Ds_returnToFirst (mem : um_M)  : um_M := (um_set (um_set mem 0 7 (mem 0 6)) 0 8 (0 : Int32))
set_option maxHeartbeats 4000000 in
set_option maxRecDepth 100000 in
theorem c_Ds_returnToFirst (l : Launch) (G : UG) (mem : um_M)     : MetXv l G y_Ds_returnToFirst b_Ds_returnToFirst 1 ({ frames := 0, cells := 0, slots := 0, locals := 0 }) [.ref (G.2.1 0)] mem (fun mem' => n_Ds_returnToFirst mem  = mem') := by
  refine u_start [.ref (G.2.1 0)] (by decide) (Nat.le_of_ble_eq_true rfl) ?_
  intro p_ e_ s_ m_ bl_ me_ c_ ls S hr hlk hin hl hB
  have hw := uH_start hB
  have hl : lv_has ls 1 [(0, .ref (G.2.1 0))] := hl
  refine lv_aload_n S.1 S.2.1 d_Ds_returnToFirst_0 rfl (lv_at hl 0 rfl) ?_
  refine lv_aload_n S.1 S.2.1 d_Ds_returnToFirst_1 rfl (lv_at hl 0 rfl) ?_
  refine u_get (v := .int (mem 0 6)) S hw 0 (by decide) rfl rfl in_Ds 6 (by decide) lf_Ds_47 rfl d_Ds_returnToFirst_2 ?_
  refine u_put S hw 0 (by decide) rfl rfl in_Ds ty_Ds tk_Ds nm_Ds 7 (by decide) lf_Ds_134 rfl rfl rfl rfl (Nat.le_of_ble_eq_true rfl) rfl d_Ds_returnToFirst_5 (fun H locs hw => ?_)
  refine lv_aload_n S.1 S.2.1 d_Ds_returnToFirst_8 rfl (lv_at hl 0 rfl) ?_
  refine lv_iconst (v := (0 : Int32)) S.1 S.2.1 d_Ds_returnToFirst_9 (by decide) ?_
  refine u_put S hw 0 (by decide) rfl rfl in_Ds ty_Ds tk_Ds nm_Ds 8 (by decide) lf_Ds_143 rfl rfl rfl rfl (Nat.le_of_ble_eq_true rfl) rfl d_Ds_returnToFirst_10 (fun H locs hw => ?_)
  exact u_vret S hr hlk hw rfl d_Ds_returnToFirst_13
def s_Ds_begin (a0 : Int32) : Int32 := (if (s_Ds_isBelow a0 (256 : Int32)) = (0 : Int32) then (0 : Int32) else (1 : Int32))
def n_Ds_begin (mem : um_M) (a0 : Int32) : um_M := (if (s_Ds_isBelow a0 (256 : Int32)) = (0 : Int32) then mem else (n_Sp_forget (n_Ds_returnToFirst (um_set mem 0 6 (s_Pk_first a0)) ) ))
set_option maxHeartbeats 4000000 in
set_option maxRecDepth 100000 in
theorem c_Ds_begin (l : Launch) (G : UG) (mem : um_M)  (a0 : Int32)   : MetX l G y_Ds_begin b_Ds_begin 2 (some .boolean) ({ frames := 1, cells := 0, slots := 0, locals := 21 }) [.ref (G.2.1 0), .int a0] mem (fun r mem' => r = s_Ds_begin a0 ∧ n_Ds_begin mem a0 = mem') := by
  refine u_start [.ref (G.2.1 0), .int a0] (by decide) (Nat.le_of_ble_eq_true rfl) ?_
  intro p_ e_ s_ m_ bl_ me_ c_ ls S hr hlk hin hl hB
  have hw := uH_start hB
  have hl : lv_has ls 2 [(0, .ref (G.2.1 0)), (1, .int a0)] := hl
  refine lv_iload_n S.1 S.2.1 d_Ds_begin_0 rfl (lv_at hl 1 rfl) ?_
  refine lv_sipush (v := (256 : Int32)) S.1 S.2.1 d_Ds_begin_1 (by decide) ?_
  refine u_callp hw (va_runS (As := [.int a0, .int (256 : Int32)]) (rest := []) S (c_Ds_isBelow l a0 (256 : Int32)) ⟨u_cB S.2.2.2.2 t_Ds_isBelow ln_Ds lm_Ds_37 hd_Ds_isBelow rfl rfl ⟨Nat.le_of_ble_eq_true rfl, Nat.le_of_ble_eq_true rfl⟩, S.2.2.2.2 _ lt_Ds_isBelow⟩ (u_preP hw.1.2) rfl rfl hl.1 rfl (lv_room (Nat.le_of_ble_eq_true rfl)) d_Ds_begin_4 ⟨Nat.zero_le _, Nat.zero_le _⟩) (fun r H locs hp hw => ?_)
  refine u_top (y := (s_Ds_isBelow a0 (256 : Int32))) hp ?_
  refine lv_if_ne (tgt := 12) S.1 S.2.1 d_Ds_begin_7 (by decide) (fun c1 => ?_) (fun c1 => ?_)
  · skip
    refine lv_aload_n S.1 S.2.1 d_Ds_begin_12 rfl (lv_at hl 0 rfl) ?_
    refine lv_iload_n S.1 S.2.1 d_Ds_begin_13 rfl (lv_at hl 1 rfl) ?_
    refine u_callp hw (va_runS (As := [.int a0]) (rest := [.ref (G.2.1 0)]) S (c_Pk_first l a0) ⟨u_cB S.2.2.2.2 t_Pk_first ln_Pk lm_Ds_41 hd_Pk_first rfl rfl ⟨Nat.le_of_ble_eq_true rfl, Nat.le_of_ble_eq_true rfl⟩, S.2.2.2.2 _ lt_Pk_first⟩ (u_preP hw.1.2) rfl rfl hl.1 rfl (lv_room (Nat.le_of_ble_eq_true rfl)) d_Ds_begin_14 ⟨Nat.zero_le _, Nat.zero_le _⟩) (fun r H locs hp hw => ?_)
    refine u_top (y := (s_Pk_first a0)) hp ?_
    refine u_put S hw 0 (by decide) rfl rfl in_Ds ty_Ds tk_Ds nm_Ds 6 (by decide) lf_Ds_47 rfl rfl rfl rfl (Nat.le_of_ble_eq_true rfl) rfl d_Ds_begin_17 (fun H locs hw => ?_)
    refine lv_aload_n S.1 S.2.1 d_Ds_begin_20 rfl (lv_at hl 0 rfl) ?_
    refine u_callv hw (va_runV (As := []) (rest := []) S (c_Ds_returnToFirst l G (um_set mem 0 6 (s_Pk_first a0)) ) ⟨u_cB S.2.2.2.2 t_Ds_returnToFirst ln_Ds lm_Ds_51 hd_Ds_returnToFirst rfl rfl ⟨Nat.le_of_ble_eq_true rfl, Nat.le_of_ble_eq_true rfl⟩, S.2.2.2.2 _ li_Ds_returnToFirst, S.2.2.2.2 _ ls_Ds_returnToFirst⟩ (u_preV hw 0 (by decide) rfl rfl) rfl rfl hl.1 rfl (lv_room (Nat.le_of_ble_eq_true rfl)) d_Ds_begin_21 ⟨Nat.zero_le _, Nat.zero_le _⟩) (fun mem2 H locs hp hw => ?_)
    subst hp
    refine lv_aload_n S.1 S.2.1 d_Ds_begin_24 rfl (lv_at hl 0 rfl) ?_
    refine u_get (v := .ref (G.2.1 3)) S hw 0 (by decide) rfl rfl in_Ds 2 (by decide) lf_Ds_26 rfl d_Ds_begin_25 ?_
    refine u_callv hw (va_runV (As := []) (rest := []) S (c_Sp_forget l G (n_Ds_returnToFirst (um_set mem 0 6 (s_Pk_first a0)) ) ) ⟨u_cB S.2.2.2.2 t_Sp_forget ln_Sp lm_Ds_54 hd_Sp_forget rfl rfl ⟨Nat.le_of_ble_eq_true rfl, Nat.le_of_ble_eq_true rfl⟩, S.2.2.2.2 _ li_Sp_forget, S.2.2.2.2 _ ls_Sp_forget⟩ (u_preV hw 3 (by decide) rfl rfl) rfl rfl hl.1 rfl (lv_room (Nat.le_of_ble_eq_true rfl)) d_Ds_begin_28 ⟨Nat.zero_le _, Nat.zero_le _⟩) (fun mem3 H locs hp hw => ?_)
    subst hp
    refine lv_iconst (v := (1 : Int32)) S.1 S.2.1 d_Ds_begin_31 (by decide) ?_
    exact u_zret S hr hlk hw (by first | rfl | assumption | exact nb01 (z_Ds_isBelow _ _)) ⟨(by unfold s_Ds_begin; simp only [if_neg c1]; try rfl), (by unfold n_Ds_begin; simp only [if_neg c1]; try rfl)⟩ d_Ds_begin_32
  · skip
    refine lv_iconst (v := (0 : Int32)) S.1 S.2.1 d_Ds_begin_10 (by decide) ?_
    exact u_zret S hr hlk hw (by first | rfl | assumption | exact nb01 (z_Ds_isBelow _ _)) ⟨(by unfold s_Ds_begin; simp only [if_pos c1]; try rfl), (by unfold n_Ds_begin; simp only [if_pos c1]; try rfl)⟩ d_Ds_begin_11
theorem z_Ds_begin (a0 : Int32) : s_Ds_begin a0 = 0 ∨ s_Ds_begin a0 = 1 := by
  unfold s_Ds_begin
  (repeat' split) <;> first | exact Or.inl rfl | exact Or.inr rfl | exact z_Ds_isBelow _ _ | exact z_Tr_allows _ _ | exact z_Mo_in _ _ _
def s_Ds_clear (q0_4 : Int32) : Int32 := q0_4
def n_Ds_clear (mem : um_M)  : um_M := (n_Sp_forget (n_Ds_returnToFirst (um_set (um_set mem 0 4 (0 : Int32)) 0 5 (0 : Int32)) ) )
set_option maxHeartbeats 4000000 in
set_option maxRecDepth 100000 in
theorem c_Ds_clear (l : Launch) (G : UG) (mem : um_M)     : MetX l G y_Ds_clear b_Ds_clear 2 (some .int) ({ frames := 1, cells := 0, slots := 0, locals := 20 }) [.ref (G.2.1 0)] mem (fun r mem' => r = s_Ds_clear (mem 0 4) ∧ n_Ds_clear mem  = mem') := by
  refine u_start [.ref (G.2.1 0)] (by decide) (Nat.le_of_ble_eq_true rfl) ?_
  intro p_ e_ s_ m_ bl_ me_ c_ ls S hr hlk hin hl hB
  have hw := uH_start hB
  have hl : lv_has ls 2 [(0, .ref (G.2.1 0))] := hl
  refine lv_aload_n S.1 S.2.1 d_Ds_clear_0 rfl (lv_at hl 0 rfl) ?_
  refine u_get (v := .int (mem 0 4)) S hw 0 (by decide) rfl rfl in_Ds 4 (by decide) lf_Ds_61 rfl d_Ds_clear_1 ?_
  refine lv_istore_n (lv' := [(1, .int (mem 0 4)), (0, .ref (G.2.1 0))]) S.1 S.2.1 d_Ds_clear_4 rfl hl (by decide) rfl (fun ls hl => ?_)
  refine lv_aload_n S.1 S.2.1 d_Ds_clear_5 rfl (lv_at hl 1 rfl) ?_
  refine lv_iconst (v := (0 : Int32)) S.1 S.2.1 d_Ds_clear_6 (by decide) ?_
  refine u_put S hw 0 (by decide) rfl rfl in_Ds ty_Ds tk_Ds nm_Ds 4 (by decide) lf_Ds_61 rfl rfl rfl rfl (Nat.le_of_ble_eq_true rfl) rfl d_Ds_clear_7 (fun H locs hw => ?_)
  refine lv_aload_n S.1 S.2.1 d_Ds_clear_10 rfl (lv_at hl 1 rfl) ?_
  refine lv_iconst (v := (0 : Int32)) S.1 S.2.1 d_Ds_clear_11 (by decide) ?_
  refine u_put S hw 0 (by decide) rfl rfl in_Ds ty_Ds tk_Ds nm_Ds 5 (by decide) lf_Ds_68 rfl rfl rfl rfl (Nat.le_of_ble_eq_true rfl) rfl d_Ds_clear_12 (fun H locs hw => ?_)
  refine lv_aload_n S.1 S.2.1 d_Ds_clear_15 rfl (lv_at hl 1 rfl) ?_
  refine u_callv hw (va_runV (As := []) (rest := []) S (c_Ds_returnToFirst l G (um_set (um_set mem 0 4 (0 : Int32)) 0 5 (0 : Int32)) ) ⟨u_cB S.2.2.2.2 t_Ds_returnToFirst ln_Ds lm_Ds_51 hd_Ds_returnToFirst rfl rfl ⟨Nat.le_of_ble_eq_true rfl, Nat.le_of_ble_eq_true rfl⟩, S.2.2.2.2 _ li_Ds_returnToFirst, S.2.2.2.2 _ ls_Ds_returnToFirst⟩ (u_preV hw 0 (by decide) rfl rfl) rfl rfl hl.1 rfl (lv_room (Nat.le_of_ble_eq_true rfl)) d_Ds_clear_16 ⟨Nat.zero_le _, Nat.zero_le _⟩) (fun mem1 H locs hp hw => ?_)
  subst hp
  refine lv_aload_n S.1 S.2.1 d_Ds_clear_19 rfl (lv_at hl 1 rfl) ?_
  refine u_get (v := .ref (G.2.1 3)) S hw 0 (by decide) rfl rfl in_Ds 2 (by decide) lf_Ds_26 rfl d_Ds_clear_20 ?_
  refine u_callv hw (va_runV (As := []) (rest := []) S (c_Sp_forget l G (n_Ds_returnToFirst (um_set (um_set mem 0 4 (0 : Int32)) 0 5 (0 : Int32)) ) ) ⟨u_cB S.2.2.2.2 t_Sp_forget ln_Sp lm_Ds_54 hd_Sp_forget rfl rfl ⟨Nat.le_of_ble_eq_true rfl, Nat.le_of_ble_eq_true rfl⟩, S.2.2.2.2 _ li_Sp_forget, S.2.2.2.2 _ ls_Sp_forget⟩ (u_preV hw 3 (by decide) rfl rfl) rfl rfl hl.1 rfl (lv_room (Nat.le_of_ble_eq_true rfl)) d_Ds_clear_23 ⟨Nat.zero_le _, Nat.zero_le _⟩) (fun mem2 H locs hp hw => ?_)
  subst hp
  refine lv_iload_n S.1 S.2.1 d_Ds_clear_26 rfl (lv_at hl 0 rfl) ?_
  exact u_iret S hr hlk hw ⟨rfl, rfl⟩ d_Ds_clear_27
