def s_Mo_in (a0 a1 a2 : Int32) : Int32 := (if a0 < a1 then (0 : Int32) else (if a2 < a0 then (0 : Int32) else (1 : Int32)))
set_option maxHeartbeats 4000000 in
set_option maxRecDepth 100000 in
theorem c_Mo_in (l : Launch) (a0 a1 a2 : Int32) : MetP l y_Mo_in b_Mo_in 3 (some .boolean) ({ frames := 0, cells := 0, slots := 0, locals := 0 }) [.int a0, .int a1, .int a2] (s_Mo_in a0 a1 a2) := by
  refine u_start [.int a0, .int a1, .int a2] (by decide) (Nat.le_of_ble_eq_true rfl) ?_
  intro p_ e_ s_ m_ bl_ me_ c_ ls S hr hlk hin hl hB
  have hw : uN s_ ∧ va_S (fun _ => False) s_.heap s_.heap [] := ⟨hB, va_S.rf⟩
  have hl : lv_has ls 3 [(0, .int a0), (1, .int a1), (2, .int a2)] := hl
  refine lv_iload_n S.1 S.2.1 d_Mo_in_0 rfl (lv_at hl 0 rfl) ?_
  refine lv_iload_n S.1 S.2.1 d_Mo_in_1 rfl (lv_at hl 1 rfl) ?_
  refine lv_icmp_lt (tgt := 14) S.1 S.2.1 d_Mo_in_2 (by decide) (fun c1 => ?_) (fun c1 => ?_)
  · skip
    refine lv_iconst (v := (0 : Int32)) S.1 S.2.1 d_Mo_in_14 (by decide) ?_
    exact u_pzret S hr hlk hw (by first | rfl | assumption | exact nb01 (z_Ds_isBelow _ _)) (by unfold s_Mo_in; simp only [if_pos c1]) d_Mo_in_15
  · skip
    refine lv_iload_n S.1 S.2.1 d_Mo_in_5 rfl (lv_at hl 0 rfl) ?_
    refine lv_iload_n S.1 S.2.1 d_Mo_in_6 rfl (lv_at hl 2 rfl) ?_
    refine lv_icmp_gt (tgt := 14) S.1 S.2.1 d_Mo_in_7 (by decide) (fun c2 => ?_) (fun c2 => ?_)
    · skip
      refine lv_iconst (v := (0 : Int32)) S.1 S.2.1 d_Mo_in_14 (by decide) ?_
      exact u_pzret S hr hlk hw (by first | rfl | assumption | exact nb01 (z_Ds_isBelow _ _)) (by unfold s_Mo_in; simp only [if_neg c1, if_pos c2]) d_Mo_in_15
    · skip
      refine lv_iconst (v := (1 : Int32)) S.1 S.2.1 d_Mo_in_10 (by decide) ?_
      refine lv_goto (tgt := 15) S.1 S.2.1 d_Mo_in_11 (by decide) ?_
      exact u_pzret S hr hlk hw (by first | rfl | assumption | exact nb01 (z_Ds_isBelow _ _)) (by unfold s_Mo_in; simp only [if_neg c1, if_neg c2]) d_Mo_in_15
theorem z_Mo_in (a0 a1 a2 : Int32) : s_Mo_in a0 a1 a2 = 0 ∨ s_Mo_in a0 a1 a2 = 1 := by
  unfold s_Mo_in
  (repeat' split) <;> first | exact Or.inl rfl | exact Or.inr rfl | exact z_Ds_isBelow _ _
def s_Mo_placeOf (a0 a1 : Int32) : Int32 := ((a0 >>> (((3 : Int32) * a1) &&& 31)) &&& (7 : Int32))
set_option maxHeartbeats 4000000 in
set_option maxRecDepth 100000 in
theorem c_Mo_placeOf (l : Launch) (a0 a1 : Int32) : MetP l y_Mo_placeOf b_Mo_placeOf 2 (some .int) ({ frames := 0, cells := 0, slots := 0, locals := 0 }) [.int a0, .int a1] (s_Mo_placeOf a0 a1) := by
  refine u_start [.int a0, .int a1] (by decide) (Nat.le_of_ble_eq_true rfl) ?_
  intro p_ e_ s_ m_ bl_ me_ c_ ls S hr hlk hin hl hB
  have hw : uN s_ ∧ va_S (fun _ => False) s_.heap s_.heap [] := ⟨hB, va_S.rf⟩
  have hl : lv_has ls 2 [(0, .int a0), (1, .int a1)] := hl
  refine lv_iload_n S.1 S.2.1 d_Mo_placeOf_0 rfl (lv_at hl 0 rfl) ?_
  refine lv_iconst (v := (3 : Int32)) S.1 S.2.1 d_Mo_placeOf_1 (by decide) ?_
  refine lv_iload_n S.1 S.2.1 d_Mo_placeOf_2 rfl (lv_at hl 1 rfl) ?_
  refine lv_imul S.1 S.2.1 d_Mo_placeOf_3 ?_
  refine lv_ishr S.1 S.2.1 d_Mo_placeOf_4 ?_
  refine lv_bipush (v := (7 : Int32)) S.1 S.2.1 d_Mo_placeOf_5 (by decide) ?_
  refine lv_iand S.1 S.2.1 d_Mo_placeOf_7 ?_
  exact u_piret S hr hlk hw (rfl) d_Mo_placeOf_8
def s_Mo_valueOf (a0 a1 : Int32) : Int32 := ((a0 >>> (((9 : Int32) + ((2 : Int32) * a1)) &&& 31)) &&& (3 : Int32))
set_option maxHeartbeats 4000000 in
set_option maxRecDepth 100000 in
theorem c_Mo_valueOf (l : Launch) (a0 a1 : Int32) : MetP l y_Mo_valueOf b_Mo_valueOf 2 (some .int) ({ frames := 0, cells := 0, slots := 0, locals := 0 }) [.int a0, .int a1] (s_Mo_valueOf a0 a1) := by
  refine u_start [.int a0, .int a1] (by decide) (Nat.le_of_ble_eq_true rfl) ?_
  intro p_ e_ s_ m_ bl_ me_ c_ ls S hr hlk hin hl hB
  have hw : uN s_ ∧ va_S (fun _ => False) s_.heap s_.heap [] := ⟨hB, va_S.rf⟩
  have hl : lv_has ls 2 [(0, .int a0), (1, .int a1)] := hl
  refine lv_iload_n S.1 S.2.1 d_Mo_valueOf_0 rfl (lv_at hl 0 rfl) ?_
  refine lv_bipush (v := (9 : Int32)) S.1 S.2.1 d_Mo_valueOf_1 (by decide) ?_
  refine lv_iconst (v := (2 : Int32)) S.1 S.2.1 d_Mo_valueOf_3 (by decide) ?_
  refine lv_iload_n S.1 S.2.1 d_Mo_valueOf_4 rfl (lv_at hl 1 rfl) ?_
  refine lv_imul S.1 S.2.1 d_Mo_valueOf_5 ?_
  refine lv_iadd S.1 S.2.1 d_Mo_valueOf_6 ?_
  refine lv_ishr S.1 S.2.1 d_Mo_valueOf_7 ?_
  refine lv_iconst (v := (3 : Int32)) S.1 S.2.1 d_Mo_valueOf_8 (by decide) ?_
  refine lv_iand S.1 S.2.1 d_Mo_valueOf_9 ?_
  exact u_piret S hr hlk hw (rfl) d_Mo_valueOf_10
def s_Mo_sent (a0 : Int32) : Int32 := ((a0 >>> ((17 : Int32) &&& 31)) &&& (3 : Int32))
set_option maxHeartbeats 4000000 in
set_option maxRecDepth 100000 in
theorem c_Mo_sent (l : Launch) (a0 : Int32) : MetP l y_Mo_sent b_Mo_sent 1 (some .int) ({ frames := 0, cells := 0, slots := 0, locals := 0 }) [.int a0] (s_Mo_sent a0) := by
  refine u_start [.int a0] (by decide) (Nat.le_of_ble_eq_true rfl) ?_
  intro p_ e_ s_ m_ bl_ me_ c_ ls S hr hlk hin hl hB
  have hw : uN s_ ∧ va_S (fun _ => False) s_.heap s_.heap [] := ⟨hB, va_S.rf⟩
  have hl : lv_has ls 1 [(0, .int a0)] := hl
  refine lv_iload_n S.1 S.2.1 d_Mo_sent_0 rfl (lv_at hl 0 rfl) ?_
  refine lv_bipush (v := (17 : Int32)) S.1 S.2.1 d_Mo_sent_1 (by decide) ?_
  refine lv_ishr S.1 S.2.1 d_Mo_sent_3 ?_
  refine lv_iconst (v := (3 : Int32)) S.1 S.2.1 d_Mo_sent_4 (by decide) ?_
  refine lv_iand S.1 S.2.1 d_Mo_sent_5 ?_
  exact u_piret S hr hlk hw (rfl) d_Mo_sent_6
def s_Mo_inChannel (a0 a1 : Int32) : Int32 := ((a0 >>> (((19 : Int32) + ((2 : Int32) * a1)) &&& 31)) &&& (3 : Int32))
set_option maxHeartbeats 4000000 in
set_option maxRecDepth 100000 in
theorem c_Mo_inChannel (l : Launch) (a0 a1 : Int32) : MetP l y_Mo_inChannel b_Mo_inChannel 2 (some .int) ({ frames := 0, cells := 0, slots := 0, locals := 0 }) [.int a0, .int a1] (s_Mo_inChannel a0 a1) := by
  refine u_start [.int a0, .int a1] (by decide) (Nat.le_of_ble_eq_true rfl) ?_
  intro p_ e_ s_ m_ bl_ me_ c_ ls S hr hlk hin hl hB
  have hw : uN s_ ∧ va_S (fun _ => False) s_.heap s_.heap [] := ⟨hB, va_S.rf⟩
  have hl : lv_has ls 2 [(0, .int a0), (1, .int a1)] := hl
  refine lv_iload_n S.1 S.2.1 d_Mo_inChannel_0 rfl (lv_at hl 0 rfl) ?_
  refine lv_bipush (v := (19 : Int32)) S.1 S.2.1 d_Mo_inChannel_1 (by decide) ?_
  refine lv_iconst (v := (2 : Int32)) S.1 S.2.1 d_Mo_inChannel_3 (by decide) ?_
  refine lv_iload_n S.1 S.2.1 d_Mo_inChannel_4 rfl (lv_at hl 1 rfl) ?_
  refine lv_imul S.1 S.2.1 d_Mo_inChannel_5 ?_
  refine lv_iadd S.1 S.2.1 d_Mo_inChannel_6 ?_
  refine lv_ishr S.1 S.2.1 d_Mo_inChannel_7 ?_
  refine lv_iconst (v := (3 : Int32)) S.1 S.2.1 d_Mo_inChannel_8 (by decide) ?_
  refine lv_iand S.1 S.2.1 d_Mo_inChannel_9 ?_
  exact u_piret S hr hlk hw (rfl) d_Mo_inChannel_10
def s_Mo_with (a0 a1 a2 : Int32) : Int32 := ((a0 &&& (((3 : Int32) <<< (((9 : Int32) + ((2 : Int32) * a1)) &&& 31)) ^^^ (-1 : Int32))) ||| (a2 <<< (((9 : Int32) + ((2 : Int32) * a1)) &&& 31)))
set_option maxHeartbeats 4000000 in
set_option maxRecDepth 100000 in
theorem c_Mo_with (l : Launch) (a0 a1 a2 : Int32) : MetP l y_Mo_with b_Mo_with 3 (some .int) ({ frames := 0, cells := 0, slots := 0, locals := 0 }) [.int a0, .int a1, .int a2] (s_Mo_with a0 a1 a2) := by
  refine u_start [.int a0, .int a1, .int a2] (by decide) (Nat.le_of_ble_eq_true rfl) ?_
  intro p_ e_ s_ m_ bl_ me_ c_ ls S hr hlk hin hl hB
  have hw : uN s_ ∧ va_S (fun _ => False) s_.heap s_.heap [] := ⟨hB, va_S.rf⟩
  have hl : lv_has ls 3 [(0, .int a0), (1, .int a1), (2, .int a2)] := hl
  refine lv_iload_n S.1 S.2.1 d_Mo_with_0 rfl (lv_at hl 0 rfl) ?_
  refine lv_iconst (v := (3 : Int32)) S.1 S.2.1 d_Mo_with_1 (by decide) ?_
  refine lv_bipush (v := (9 : Int32)) S.1 S.2.1 d_Mo_with_2 (by decide) ?_
  refine lv_iconst (v := (2 : Int32)) S.1 S.2.1 d_Mo_with_4 (by decide) ?_
  refine lv_iload_n S.1 S.2.1 d_Mo_with_5 rfl (lv_at hl 1 rfl) ?_
  refine lv_imul S.1 S.2.1 d_Mo_with_6 ?_
  refine lv_iadd S.1 S.2.1 d_Mo_with_7 ?_
  refine lv_ishl S.1 S.2.1 d_Mo_with_8 ?_
  refine lv_iconst (v := (-1 : Int32)) S.1 S.2.1 d_Mo_with_9 (by decide) ?_
  refine lv_ixor S.1 S.2.1 d_Mo_with_10 ?_
  refine lv_iand S.1 S.2.1 d_Mo_with_11 ?_
  refine lv_iload_n S.1 S.2.1 d_Mo_with_12 rfl (lv_at hl 2 rfl) ?_
  refine lv_bipush (v := (9 : Int32)) S.1 S.2.1 d_Mo_with_13 (by decide) ?_
  refine lv_iconst (v := (2 : Int32)) S.1 S.2.1 d_Mo_with_15 (by decide) ?_
  refine lv_iload_n S.1 S.2.1 d_Mo_with_16 rfl (lv_at hl 1 rfl) ?_
  refine lv_imul S.1 S.2.1 d_Mo_with_17 ?_
  refine lv_iadd S.1 S.2.1 d_Mo_with_18 ?_
  refine lv_ishl S.1 S.2.1 d_Mo_with_19 ?_
  refine lv_ior S.1 S.2.1 d_Mo_with_20 ?_
  exact u_piret S hr hlk hw (rfl) d_Mo_with_21
def s_Mo_isGood (a0 a1 a2 a3 : Int32) : Int32 := (if (s_Mo_in a0 (0 : Int32) (2 : Int32)) = (0 : Int32) then (0 : Int32) else (if (s_Mo_in a1 (0 : Int32) (7 : Int32)) = (0 : Int32) then (0 : Int32) else (if (s_Mo_in a2 (0 : Int32) (7 : Int32)) = (0 : Int32) then (0 : Int32) else (if (s_Mo_in a3 (0 : Int32) (127 : Int32)) = (0 : Int32) then (0 : Int32) else (1 : Int32)))))
set_option maxHeartbeats 4000000 in
set_option maxRecDepth 100000 in
theorem c_Mo_isGood (l : Launch) (a0 a1 a2 a3 : Int32) : MetP l y_Mo_isGood b_Mo_isGood 4 (some .boolean) ({ frames := 1, cells := 0, slots := 0, locals := 22 }) [.int a0, .int a1, .int a2, .int a3] (s_Mo_isGood a0 a1 a2 a3) := by
  refine u_start [.int a0, .int a1, .int a2, .int a3] (by decide) (Nat.le_of_ble_eq_true rfl) ?_
  intro p_ e_ s_ m_ bl_ me_ c_ ls S hr hlk hin hl hB
  have hw : uN s_ ∧ va_S (fun _ => False) s_.heap s_.heap [] := ⟨hB, va_S.rf⟩
  have hl : lv_has ls 4 [(0, .int a0), (1, .int a1), (2, .int a2), (3, .int a3)] := hl
  refine lv_iload_n S.1 S.2.1 d_Mo_isGood_0 rfl (lv_at hl 0 rfl) ?_
  refine lv_iconst (v := (0 : Int32)) S.1 S.2.1 d_Mo_isGood_1 (by decide) ?_
  refine lv_iconst (v := (2 : Int32)) S.1 S.2.1 d_Mo_isGood_2 (by decide) ?_
  refine u_callpp hw (va_runS (As := [.int a0, .int (0 : Int32), .int (2 : Int32)]) (rest := []) S (c_Mo_in l a0 (0 : Int32) (2 : Int32)) ⟨u_cB S.2.2.2.2 t_Mo_in ln_Mo lm_Mo_84 hd_Mo_in rfl rfl ⟨Nat.le_of_ble_eq_true rfl, Nat.le_of_ble_eq_true rfl⟩, S.2.2.2.2 _ lt_Mo_in⟩ (u_preP hw.1) rfl rfl hl.1 rfl (lv_room (Nat.le_of_ble_eq_true rfl)) d_Mo_isGood_3 ⟨Nat.zero_le _, Nat.zero_le _⟩) (fun r H locs hp hw => ?_)
  refine u_top (y := (s_Mo_in a0 (0 : Int32) (2 : Int32))) hp ?_
  refine lv_if_eq (tgt := 43) S.1 S.2.1 d_Mo_isGood_6 (by decide) (fun c1 => ?_) (fun c1 => ?_)
  · skip
    refine lv_iconst (v := (0 : Int32)) S.1 S.2.1 d_Mo_isGood_43 (by decide) ?_
    exact u_pzret S hr hlk hw (by first | rfl | assumption | exact nb01 (z_Ds_isBelow _ _)) (by unfold s_Mo_isGood; simp only [if_pos c1]) d_Mo_isGood_44
  · skip
    refine lv_iload_n S.1 S.2.1 d_Mo_isGood_9 rfl (lv_at hl 1 rfl) ?_
    refine lv_iconst (v := (0 : Int32)) S.1 S.2.1 d_Mo_isGood_10 (by decide) ?_
    refine lv_bipush (v := (7 : Int32)) S.1 S.2.1 d_Mo_isGood_11 (by decide) ?_
    refine u_callpp hw (va_runS (As := [.int a1, .int (0 : Int32), .int (7 : Int32)]) (rest := []) S (c_Mo_in l a1 (0 : Int32) (7 : Int32)) ⟨u_cB S.2.2.2.2 t_Mo_in ln_Mo lm_Mo_84 hd_Mo_in rfl rfl ⟨Nat.le_of_ble_eq_true rfl, Nat.le_of_ble_eq_true rfl⟩, S.2.2.2.2 _ lt_Mo_in⟩ (u_preP hw.1) rfl rfl hl.1 rfl (lv_room (Nat.le_of_ble_eq_true rfl)) d_Mo_isGood_13 ⟨Nat.zero_le _, Nat.zero_le _⟩) (fun r H locs hp hw => ?_)
    refine u_top (y := (s_Mo_in a1 (0 : Int32) (7 : Int32))) hp ?_
    refine lv_if_eq (tgt := 43) S.1 S.2.1 d_Mo_isGood_16 (by decide) (fun c2 => ?_) (fun c2 => ?_)
    · skip
      refine lv_iconst (v := (0 : Int32)) S.1 S.2.1 d_Mo_isGood_43 (by decide) ?_
      exact u_pzret S hr hlk hw (by first | rfl | assumption | exact nb01 (z_Ds_isBelow _ _)) (by unfold s_Mo_isGood; simp only [if_neg c1, if_pos c2]) d_Mo_isGood_44
    · skip
      refine lv_iload_n S.1 S.2.1 d_Mo_isGood_19 rfl (lv_at hl 2 rfl) ?_
      refine lv_iconst (v := (0 : Int32)) S.1 S.2.1 d_Mo_isGood_20 (by decide) ?_
      refine lv_bipush (v := (7 : Int32)) S.1 S.2.1 d_Mo_isGood_21 (by decide) ?_
      refine u_callpp hw (va_runS (As := [.int a2, .int (0 : Int32), .int (7 : Int32)]) (rest := []) S (c_Mo_in l a2 (0 : Int32) (7 : Int32)) ⟨u_cB S.2.2.2.2 t_Mo_in ln_Mo lm_Mo_84 hd_Mo_in rfl rfl ⟨Nat.le_of_ble_eq_true rfl, Nat.le_of_ble_eq_true rfl⟩, S.2.2.2.2 _ lt_Mo_in⟩ (u_preP hw.1) rfl rfl hl.1 rfl (lv_room (Nat.le_of_ble_eq_true rfl)) d_Mo_isGood_23 ⟨Nat.zero_le _, Nat.zero_le _⟩) (fun r H locs hp hw => ?_)
      refine u_top (y := (s_Mo_in a2 (0 : Int32) (7 : Int32))) hp ?_
      refine lv_if_eq (tgt := 43) S.1 S.2.1 d_Mo_isGood_26 (by decide) (fun c3 => ?_) (fun c3 => ?_)
      · skip
        refine lv_iconst (v := (0 : Int32)) S.1 S.2.1 d_Mo_isGood_43 (by decide) ?_
        exact u_pzret S hr hlk hw (by first | rfl | assumption | exact nb01 (z_Ds_isBelow _ _)) (by unfold s_Mo_isGood; simp only [if_neg c1, if_neg c2, if_pos c3]) d_Mo_isGood_44
      · skip
        refine lv_iload_n S.1 S.2.1 d_Mo_isGood_29 rfl (lv_at hl 3 rfl) ?_
        refine lv_iconst (v := (0 : Int32)) S.1 S.2.1 d_Mo_isGood_30 (by decide) ?_
        refine lv_bipush (v := (127 : Int32)) S.1 S.2.1 d_Mo_isGood_31 (by decide) ?_
        refine u_callpp hw (va_runS (As := [.int a3, .int (0 : Int32), .int (127 : Int32)]) (rest := []) S (c_Mo_in l a3 (0 : Int32) (127 : Int32)) ⟨u_cB S.2.2.2.2 t_Mo_in ln_Mo lm_Mo_84 hd_Mo_in rfl rfl ⟨Nat.le_of_ble_eq_true rfl, Nat.le_of_ble_eq_true rfl⟩, S.2.2.2.2 _ lt_Mo_in⟩ (u_preP hw.1) rfl rfl hl.1 rfl (lv_room (Nat.le_of_ble_eq_true rfl)) d_Mo_isGood_33 ⟨Nat.zero_le _, Nat.zero_le _⟩) (fun r H locs hp hw => ?_)
        refine u_top (y := (s_Mo_in a3 (0 : Int32) (127 : Int32))) hp ?_
        refine lv_if_eq (tgt := 43) S.1 S.2.1 d_Mo_isGood_36 (by decide) (fun c4 => ?_) (fun c4 => ?_)
        · skip
          refine lv_iconst (v := (0 : Int32)) S.1 S.2.1 d_Mo_isGood_43 (by decide) ?_
          exact u_pzret S hr hlk hw (by first | rfl | assumption | exact nb01 (z_Ds_isBelow _ _)) (by unfold s_Mo_isGood; simp only [if_neg c1, if_neg c2, if_neg c3, if_pos c4]) d_Mo_isGood_44
        · skip
          refine lv_iconst (v := (1 : Int32)) S.1 S.2.1 d_Mo_isGood_39 (by decide) ?_
          refine lv_goto (tgt := 44) S.1 S.2.1 d_Mo_isGood_40 (by decide) ?_
          exact u_pzret S hr hlk hw (by first | rfl | assumption | exact nb01 (z_Ds_isBelow _ _)) (by unfold s_Mo_isGood; simp only [if_neg c1, if_neg c2, if_neg c3, if_neg c4]) d_Mo_isGood_44
theorem z_Mo_isGood (a0 a1 a2 a3 : Int32) : s_Mo_isGood a0 a1 a2 a3 = 0 ∨ s_Mo_isGood a0 a1 a2 a3 = 1 := by
  unfold s_Mo_isGood
  (repeat' split) <;> first | exact Or.inl rfl | exact Or.inr rfl | exact z_Ds_isBelow _ _
def s_Mo_isDone (a0 : Int32) : Int32 := (if (a0 &&& (511 : Int32)) = (511 : Int32) then (1 : Int32) else (0 : Int32))
set_option maxHeartbeats 4000000 in
set_option maxRecDepth 100000 in
theorem c_Mo_isDone (l : Launch) (a0 : Int32) : MetP l y_Mo_isDone b_Mo_isDone 1 (some .boolean) ({ frames := 0, cells := 0, slots := 0, locals := 0 }) [.int a0] (s_Mo_isDone a0) := by
  refine u_start [.int a0] (by decide) (Nat.le_of_ble_eq_true rfl) ?_
  intro p_ e_ s_ m_ bl_ me_ c_ ls S hr hlk hin hl hB
  have hw : uN s_ ∧ va_S (fun _ => False) s_.heap s_.heap [] := ⟨hB, va_S.rf⟩
  have hl : lv_has ls 1 [(0, .int a0)] := hl
  refine lv_iload_n S.1 S.2.1 d_Mo_isDone_0 rfl (lv_at hl 0 rfl) ?_
  refine lv_sipush (v := (511 : Int32)) S.1 S.2.1 d_Mo_isDone_1 (by decide) ?_
  refine lv_iand S.1 S.2.1 d_Mo_isDone_4 ?_
  refine lv_sipush (v := (511 : Int32)) S.1 S.2.1 d_Mo_isDone_5 (by decide) ?_
  refine lv_icmp_ne (tgt := 15) S.1 S.2.1 d_Mo_isDone_8 (by decide) (fun c1 => ?_) (fun c1 => ?_)
  · skip
    refine lv_iconst (v := (0 : Int32)) S.1 S.2.1 d_Mo_isDone_15 (by decide) ?_
    exact u_pzret S hr hlk hw (by first | rfl | assumption | exact nb01 (z_Ds_isBelow _ _)) (by unfold s_Mo_isDone; simp only [if_neg c1]) d_Mo_isDone_16
  · skip
    refine lv_iconst (v := (1 : Int32)) S.1 S.2.1 d_Mo_isDone_11 (by decide) ?_
    refine lv_goto (tgt := 16) S.1 S.2.1 d_Mo_isDone_12 (by decide) ?_
    exact u_pzret S hr hlk hw (by first | rfl | assumption | exact nb01 (z_Ds_isBelow _ _)) (by unfold s_Mo_isDone; simp only [if_pos c1]) d_Mo_isDone_16
theorem z_Mo_isDone (a0 : Int32) : s_Mo_isDone a0 = 0 ∨ s_Mo_isDone a0 = 1 := by
  unfold s_Mo_isDone
  (repeat' split) <;> first | exact Or.inl rfl | exact Or.inr rfl | exact z_Ds_isBelow _ _
