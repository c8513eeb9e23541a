def s_Ds_isBelow (a0 a1 : Int32) : Int32 := (if a0 < (0 : Int32) then (0 : Int32) else (if a1 ≤ a0 then (0 : Int32) else (1 : Int32)))
set_option maxHeartbeats 4000000 in
set_option maxRecDepth 100000 in
theorem c_Ds_isBelow (l : Launch) (a0 a1 : Int32) : MetP l y_Ds_isBelow b_Ds_isBelow 2 (some .boolean) ({ frames := 0, cells := 0, slots := 0, locals := 0 }) [.int a0, .int a1] (s_Ds_isBelow a0 a1) := by
  refine u_start [.int a0, .int a1] (by decide) (Nat.le_of_ble_eq_true rfl) ?_
  intro p_ e_ s_ m_ bl_ me_ c_ ls S hr hlk hin hl hB
  have hw : uN s_ ∧ va_S (fun _ => False) s_.heap s_.heap [] := ⟨hB, va_S.rf⟩
  have hl : lv_has ls 2 [(0, .int a0), (1, .int a1)] := hl
  refine lv_iload_n S.1 S.2.1 d_Ds_isBelow_0 rfl (lv_at hl 0 rfl) ?_
  refine lv_if_lt (tgt := 13) S.1 S.2.1 d_Ds_isBelow_1 (by decide) (fun c1 => ?_) (fun c1 => ?_)
  · skip
    refine lv_iconst (v := (0 : Int32)) S.1 S.2.1 d_Ds_isBelow_13 (by decide) ?_
    exact u_pzret S hr hlk hw (by first | rfl | assumption | exact nb01 (z_Ds_isBelow _ _)) (by unfold s_Ds_isBelow; simp only [if_pos c1]) d_Ds_isBelow_14
  · skip
    refine lv_iload_n S.1 S.2.1 d_Ds_isBelow_4 rfl (lv_at hl 0 rfl) ?_
    refine lv_iload_n S.1 S.2.1 d_Ds_isBelow_5 rfl (lv_at hl 1 rfl) ?_
    refine lv_icmp_ge (tgt := 13) S.1 S.2.1 d_Ds_isBelow_6 (by decide) (fun c2 => ?_) (fun c2 => ?_)
    · skip
      refine lv_iconst (v := (0 : Int32)) S.1 S.2.1 d_Ds_isBelow_13 (by decide) ?_
      exact u_pzret S hr hlk hw (by first | rfl | assumption | exact nb01 (z_Ds_isBelow _ _)) (by unfold s_Ds_isBelow; simp only [if_neg c1, if_pos c2]) d_Ds_isBelow_14
    · skip
      refine lv_iconst (v := (1 : Int32)) S.1 S.2.1 d_Ds_isBelow_9 (by decide) ?_
      refine lv_goto (tgt := 14) S.1 S.2.1 d_Ds_isBelow_10 (by decide) ?_
      exact u_pzret S hr hlk hw (by first | rfl | assumption | exact nb01 (z_Ds_isBelow _ _)) (by unfold s_Ds_isBelow; simp only [if_neg c1, if_neg c2]) d_Ds_isBelow_14
theorem z_Ds_isBelow (a0 a1 : Int32) : s_Ds_isBelow a0 a1 = 0 ∨ s_Ds_isBelow a0 a1 = 1 := by
  unfold s_Ds_isBelow
  (repeat' split) <;> first | exact Or.inl rfl | exact Or.inr rfl | exact z_Ds_isBelow _ _
def s_Pk_first (a0 : Int32) : Int32 := a0
set_option maxHeartbeats 4000000 in
set_option maxRecDepth 100000 in
theorem c_Pk_first (l : Launch) (a0 : Int32) : MetP l y_Pk_first b_Pk_first 1 (some .int) ({ frames := 0, cells := 0, slots := 0, locals := 0 }) [.int a0] (s_Pk_first a0) := by
  refine u_start [.int a0] (by decide) (Nat.le_of_ble_eq_true rfl) ?_
  intro p_ e_ s_ m_ bl_ me_ c_ ls S hr hlk hin hl hB
  have hw : uN s_ ∧ va_S (fun _ => False) s_.heap s_.heap [] := ⟨hB, va_S.rf⟩
  have hl : lv_has ls 1 [(0, .int a0)] := hl
  refine lv_iload_n S.1 S.2.1 d_Pk_first_0 rfl (lv_at hl 0 rfl) ?_
  exact u_piret S hr hlk hw (rfl) d_Pk_first_1
def s_Pk_variable (a0 a1 : Int32) : Int32 := ((a0 >>> (((2 : Int32) * a1) &&& 31)) &&& (3 : Int32))
set_option maxHeartbeats 4000000 in
set_option maxRecDepth 100000 in
theorem c_Pk_variable (l : Launch) (a0 a1 : Int32) : MetP l y_Pk_variable b_Pk_variable 2 (some .int) ({ frames := 0, cells := 0, slots := 0, locals := 0 }) [.int a0, .int a1] (s_Pk_variable a0 a1) := by
  refine u_start [.int a0, .int a1] (by decide) (Nat.le_of_ble_eq_true rfl) ?_
  intro p_ e_ s_ m_ bl_ me_ c_ ls S hr hlk hin hl hB
  have hw : uN s_ ∧ va_S (fun _ => False) s_.heap s_.heap [] := ⟨hB, va_S.rf⟩
  have hl : lv_has ls 2 [(0, .int a0), (1, .int a1)] := hl
  refine lv_iload_n S.1 S.2.1 d_Pk_variable_0 rfl (lv_at hl 0 rfl) ?_
  refine lv_iconst (v := (2 : Int32)) S.1 S.2.1 d_Pk_variable_1 (by decide) ?_
  refine lv_iload_n S.1 S.2.1 d_Pk_variable_2 rfl (lv_at hl 1 rfl) ?_
  refine lv_imul S.1 S.2.1 d_Pk_variable_3 ?_
  refine lv_ishr S.1 S.2.1 d_Pk_variable_4 ?_
  refine lv_iconst (v := (3 : Int32)) S.1 S.2.1 d_Pk_variable_5 (by decide) ?_
  refine lv_iand S.1 S.2.1 d_Pk_variable_6 ?_
  exact u_piret S hr hlk hw (rfl) d_Pk_variable_7
def s_Pk_withVariable (a0 a1 a2 : Int32) : Int32 := ((a0 &&& (((3 : Int32) <<< (((2 : Int32) * a1) &&& 31)) ^^^ (-1 : Int32))) ||| (a2 <<< (((2 : Int32) * a1) &&& 31)))
set_option maxHeartbeats 4000000 in
set_option maxRecDepth 100000 in
theorem c_Pk_withVariable (l : Launch) (a0 a1 a2 : Int32) : MetP l y_Pk_withVariable b_Pk_withVariable 3 (some .int) ({ frames := 0, cells := 0, slots := 0, locals := 0 }) [.int a0, .int a1, .int a2] (s_Pk_withVariable a0 a1 a2) := by
  refine u_start [.int a0, .int a1, .int a2] (by decide) (Nat.le_of_ble_eq_true rfl) ?_
  intro p_ e_ s_ m_ bl_ me_ c_ ls S hr hlk hin hl hB
  have hw : uN s_ ∧ va_S (fun _ => False) s_.heap s_.heap [] := ⟨hB, va_S.rf⟩
  have hl : lv_has ls 3 [(0, .int a0), (1, .int a1), (2, .int a2)] := hl
  refine lv_iload_n S.1 S.2.1 d_Pk_withVariable_0 rfl (lv_at hl 0 rfl) ?_
  refine lv_iconst (v := (3 : Int32)) S.1 S.2.1 d_Pk_withVariable_1 (by decide) ?_
  refine lv_iconst (v := (2 : Int32)) S.1 S.2.1 d_Pk_withVariable_2 (by decide) ?_
  refine lv_iload_n S.1 S.2.1 d_Pk_withVariable_3 rfl (lv_at hl 1 rfl) ?_
  refine lv_imul S.1 S.2.1 d_Pk_withVariable_4 ?_
  refine lv_ishl S.1 S.2.1 d_Pk_withVariable_5 ?_
  refine lv_iconst (v := (-1 : Int32)) S.1 S.2.1 d_Pk_withVariable_6 (by decide) ?_
  refine lv_ixor S.1 S.2.1 d_Pk_withVariable_7 ?_
  refine lv_iand S.1 S.2.1 d_Pk_withVariable_8 ?_
  refine lv_iload_n S.1 S.2.1 d_Pk_withVariable_9 rfl (lv_at hl 2 rfl) ?_
  refine lv_iconst (v := (2 : Int32)) S.1 S.2.1 d_Pk_withVariable_10 (by decide) ?_
  refine lv_iload_n S.1 S.2.1 d_Pk_withVariable_11 rfl (lv_at hl 1 rfl) ?_
  refine lv_imul S.1 S.2.1 d_Pk_withVariable_12 ?_
  refine lv_ishl S.1 S.2.1 d_Pk_withVariable_13 ?_
  refine lv_ior S.1 S.2.1 d_Pk_withVariable_14 ?_
  exact u_piret S hr hlk hw (rfl) d_Pk_withVariable_15
def s_Pk_place (a0 a1 : Int32) : Int32 := ((a0 >>> (((8 : Int32) + ((3 : Int32) * a1)) &&& 31)) &&& (7 : Int32))
set_option maxHeartbeats 4000000 in
set_option maxRecDepth 100000 in
theorem c_Pk_place (l : Launch) (a0 a1 : Int32) : MetP l y_Pk_place b_Pk_place 2 (some .int) ({ frames := 0, cells := 0, slots := 0, locals := 0 }) [.int a0, .int a1] (s_Pk_place a0 a1) := by
  refine u_start [.int a0, .int a1] (by decide) (Nat.le_of_ble_eq_true rfl) ?_
  intro p_ e_ s_ m_ bl_ me_ c_ ls S hr hlk hin hl hB
  have hw : uN s_ ∧ va_S (fun _ => False) s_.heap s_.heap [] := ⟨hB, va_S.rf⟩
  have hl : lv_has ls 2 [(0, .int a0), (1, .int a1)] := hl
  refine lv_iload_n S.1 S.2.1 d_Pk_place_0 rfl (lv_at hl 0 rfl) ?_
  refine lv_bipush (v := (8 : Int32)) S.1 S.2.1 d_Pk_place_1 (by decide) ?_
  refine lv_iconst (v := (3 : Int32)) S.1 S.2.1 d_Pk_place_3 (by decide) ?_
  refine lv_iload_n S.1 S.2.1 d_Pk_place_4 rfl (lv_at hl 1 rfl) ?_
  refine lv_imul S.1 S.2.1 d_Pk_place_5 ?_
  refine lv_iadd S.1 S.2.1 d_Pk_place_6 ?_
  refine lv_ishr S.1 S.2.1 d_Pk_place_7 ?_
  refine lv_bipush (v := (7 : Int32)) S.1 S.2.1 d_Pk_place_8 (by decide) ?_
  refine lv_iand S.1 S.2.1 d_Pk_place_10 ?_
  exact u_piret S hr hlk hw (rfl) d_Pk_place_11
def s_Pk_withPlace (a0 a1 a2 : Int32) : Int32 := ((a0 &&& (((7 : Int32) <<< (((8 : Int32) + ((3 : Int32) * a1)) &&& 31)) ^^^ (-1 : Int32))) ||| (a2 <<< (((8 : Int32) + ((3 : Int32) * a1)) &&& 31)))
set_option maxHeartbeats 4000000 in
set_option maxRecDepth 100000 in
theorem c_Pk_withPlace (l : Launch) (a0 a1 a2 : Int32) : MetP l y_Pk_withPlace b_Pk_withPlace 4 (some .int) ({ frames := 0, cells := 0, slots := 0, locals := 0 }) [.int a0, .int a1, .int a2] (s_Pk_withPlace a0 a1 a2) := by
  refine u_start [.int a0, .int a1, .int a2] (by decide) (Nat.le_of_ble_eq_true rfl) ?_
  intro p_ e_ s_ m_ bl_ me_ c_ ls S hr hlk hin hl hB
  have hw : uN s_ ∧ va_S (fun _ => False) s_.heap s_.heap [] := ⟨hB, va_S.rf⟩
  have hl : lv_has ls 4 [(0, .int a0), (1, .int a1), (2, .int a2)] := hl
  refine lv_bipush (v := (8 : Int32)) S.1 S.2.1 d_Pk_withPlace_0 (by decide) ?_
  refine lv_iconst (v := (3 : Int32)) S.1 S.2.1 d_Pk_withPlace_2 (by decide) ?_
  refine lv_iload_n S.1 S.2.1 d_Pk_withPlace_3 rfl (lv_at hl 1 rfl) ?_
  refine lv_imul S.1 S.2.1 d_Pk_withPlace_4 ?_
  refine lv_iadd S.1 S.2.1 d_Pk_withPlace_5 ?_
  refine lv_istore_n (lv' := [(3, .int ((8 : Int32) + ((3 : Int32) * a1))), (0, .int a0), (1, .int a1), (2, .int a2)]) S.1 S.2.1 d_Pk_withPlace_6 rfl hl (by decide) rfl (fun ls hl => ?_)
  refine lv_iload_n S.1 S.2.1 d_Pk_withPlace_7 rfl (lv_at hl 1 rfl) ?_
  refine lv_bipush (v := (7 : Int32)) S.1 S.2.1 d_Pk_withPlace_8 (by decide) ?_
  refine lv_iload_n S.1 S.2.1 d_Pk_withPlace_10 rfl (lv_at hl 0 rfl) ?_
  refine lv_ishl S.1 S.2.1 d_Pk_withPlace_11 ?_
  refine lv_iconst (v := (-1 : Int32)) S.1 S.2.1 d_Pk_withPlace_12 (by decide) ?_
  refine lv_ixor S.1 S.2.1 d_Pk_withPlace_13 ?_
  refine lv_iand S.1 S.2.1 d_Pk_withPlace_14 ?_
  refine lv_iload_n S.1 S.2.1 d_Pk_withPlace_15 rfl (lv_at hl 3 rfl) ?_
  refine lv_iload_n S.1 S.2.1 d_Pk_withPlace_16 rfl (lv_at hl 0 rfl) ?_
  refine lv_ishl S.1 S.2.1 d_Pk_withPlace_17 ?_
  refine lv_ior S.1 S.2.1 d_Pk_withPlace_18 ?_
  exact u_piret S hr hlk hw (rfl) d_Pk_withPlace_19
def s_Pk_channelLength (a0 : Int32) : Int32 := ((a0 >>> ((17 : Int32) &&& 31)) &&& (3 : Int32))
set_option maxHeartbeats 4000000 in
set_option maxRecDepth 100000 in
theorem c_Pk_channelLength (l : Launch) (a0 : Int32) : MetP l y_Pk_channelLength b_Pk_channelLength 1 (some .int) ({ frames := 0, cells := 0, slots := 0, locals := 0 }) [.int a0] (s_Pk_channelLength a0) := by
  refine u_start [.int a0] (by decide) (Nat.le_of_ble_eq_true rfl) ?_
  intro p_ e_ s_ m_ bl_ me_ c_ ls S hr hlk hin hl hB
  have hw : uN s_ ∧ va_S (fun _ => False) s_.heap s_.heap [] := ⟨hB, va_S.rf⟩
  have hl : lv_has ls 1 [(0, .int a0)] := hl
  refine lv_iload_n S.1 S.2.1 d_Pk_channelLength_0 rfl (lv_at hl 0 rfl) ?_
  refine lv_bipush (v := (17 : Int32)) S.1 S.2.1 d_Pk_channelLength_1 (by decide) ?_
  refine lv_ishr S.1 S.2.1 d_Pk_channelLength_3 ?_
  refine lv_iconst (v := (3 : Int32)) S.1 S.2.1 d_Pk_channelLength_4 (by decide) ?_
  refine lv_iand S.1 S.2.1 d_Pk_channelLength_5 ?_
  exact u_piret S hr hlk hw (rfl) d_Pk_channelLength_6
def s_Pk_channelValue (a0 a1 : Int32) : Int32 := (if (s_Pk_channelLength a0) ≤ a1 then (-2 : Int32) else ((a0 >>> (((19 : Int32) + ((2 : Int32) * a1)) &&& 31)) &&& (3 : Int32)))
set_option maxHeartbeats 4000000 in
set_option maxRecDepth 100000 in
theorem c_Pk_channelValue (l : Launch) (a0 a1 : Int32) : MetP l y_Pk_channelValue b_Pk_channelValue 2 (some .int) ({ frames := 1, cells := 0, slots := 0, locals := 20 }) [.int a0, .int a1] (s_Pk_channelValue a0 a1) := by
  refine u_start [.int a0, .int a1] (by decide) (Nat.le_of_ble_eq_true rfl) ?_
  intro p_ e_ s_ m_ bl_ me_ c_ ls S hr hlk hin hl hB
  have hw : uN s_ ∧ va_S (fun _ => False) s_.heap s_.heap [] := ⟨hB, va_S.rf⟩
  have hl : lv_has ls 2 [(0, .int a0), (1, .int a1)] := hl
  refine lv_iload_n S.1 S.2.1 d_Pk_channelValue_0 rfl (lv_at hl 1 rfl) ?_
  refine lv_iload_n S.1 S.2.1 d_Pk_channelValue_1 rfl (lv_at hl 0 rfl) ?_
  refine u_callpp hw (va_runS (As := [.int a0]) (rest := [.int a1]) S (c_Pk_channelLength l a0) ⟨u_cB S.2.2.2.2 t_Pk_channelLength ln_Pk lm_Pk_11 hd_Pk_channelLength rfl rfl ⟨Nat.le_of_ble_eq_true rfl, Nat.le_of_ble_eq_true rfl⟩, S.2.2.2.2 _ lt_Pk_channelLength⟩ (u_preP hw.1) rfl rfl hl.1 rfl (lv_room (Nat.le_of_ble_eq_true rfl)) d_Pk_channelValue_2 ⟨Nat.zero_le _, Nat.zero_le _⟩) (fun r H locs hp hw => ?_)
  refine u_top (y := (s_Pk_channelLength a0)) hp ?_
  refine lv_icmp_ge (tgt := 21) S.1 S.2.1 d_Pk_channelValue_5 (by decide) (fun c1 => ?_) (fun c1 => ?_)
  · skip
    refine lv_bipush (v := (-2 : Int32)) S.1 S.2.1 d_Pk_channelValue_21 (by decide) ?_
    exact u_piret S hr hlk hw (by unfold s_Pk_channelValue; simp only [if_pos c1]) d_Pk_channelValue_23
  · skip
    refine lv_iload_n S.1 S.2.1 d_Pk_channelValue_8 rfl (lv_at hl 0 rfl) ?_
    refine lv_bipush (v := (19 : Int32)) S.1 S.2.1 d_Pk_channelValue_9 (by decide) ?_
    refine lv_iconst (v := (2 : Int32)) S.1 S.2.1 d_Pk_channelValue_11 (by decide) ?_
    refine lv_iload_n S.1 S.2.1 d_Pk_channelValue_12 rfl (lv_at hl 1 rfl) ?_
    refine lv_imul S.1 S.2.1 d_Pk_channelValue_13 ?_
    refine lv_iadd S.1 S.2.1 d_Pk_channelValue_14 ?_
    refine lv_ishr S.1 S.2.1 d_Pk_channelValue_15 ?_
    refine lv_iconst (v := (3 : Int32)) S.1 S.2.1 d_Pk_channelValue_16 (by decide) ?_
    refine lv_iand S.1 S.2.1 d_Pk_channelValue_17 ?_
    refine lv_goto (tgt := 23) S.1 S.2.1 d_Pk_channelValue_18 (by decide) ?_
    exact u_piret S hr hlk hw (by unfold s_Pk_channelValue; simp only [if_neg c1]) d_Pk_channelValue_23
def s_Pk_withSent (a0 a1 : Int32) : Int32 := ((a0 ||| (a1 <<< (((19 : Int32) + ((2 : Int32) * (s_Pk_channelLength a0))) &&& 31))) + (131072 : Int32))
set_option maxHeartbeats 4000000 in
set_option maxRecDepth 100000 in
theorem c_Pk_withSent (l : Launch) (a0 a1 : Int32) : MetP l y_Pk_withSent b_Pk_withSent 3 (some .int) ({ frames := 1, cells := 0, slots := 0, locals := 20 }) [.int a0, .int a1] (s_Pk_withSent a0 a1) := by
  refine u_start [.int a0, .int a1] (by decide) (Nat.le_of_ble_eq_true rfl) ?_
  intro p_ e_ s_ m_ bl_ me_ c_ ls S hr hlk hin hl hB
  have hw : uN s_ ∧ va_S (fun _ => False) s_.heap s_.heap [] := ⟨hB, va_S.rf⟩
  have hl : lv_has ls 3 [(0, .int a0), (1, .int a1)] := hl
  refine lv_iload_n S.1 S.2.1 d_Pk_withSent_0 rfl (lv_at hl 0 rfl) ?_
  refine u_callpp hw (va_runS (As := [.int a0]) (rest := []) S (c_Pk_channelLength l a0) ⟨u_cB S.2.2.2.2 t_Pk_channelLength ln_Pk lm_Pk_11 hd_Pk_channelLength rfl rfl ⟨Nat.le_of_ble_eq_true rfl, Nat.le_of_ble_eq_true rfl⟩, S.2.2.2.2 _ lt_Pk_channelLength⟩ (u_preP hw.1) rfl rfl hl.1 rfl (lv_room (Nat.le_of_ble_eq_true rfl)) d_Pk_withSent_1 ⟨Nat.zero_le _, Nat.zero_le _⟩) (fun r H locs hp hw => ?_)
  refine u_top (y := (s_Pk_channelLength a0)) hp ?_
  refine lv_istore_n (lv' := [(2, .int (s_Pk_channelLength a0)), (0, .int a0), (1, .int a1)]) S.1 S.2.1 d_Pk_withSent_4 rfl hl (by decide) rfl (fun ls hl => ?_)
  refine lv_iload_n S.1 S.2.1 d_Pk_withSent_5 rfl (lv_at hl 1 rfl) ?_
  refine lv_iload_n S.1 S.2.1 d_Pk_withSent_6 rfl (lv_at hl 2 rfl) ?_
  refine lv_bipush (v := (19 : Int32)) S.1 S.2.1 d_Pk_withSent_7 (by decide) ?_
  refine lv_iconst (v := (2 : Int32)) S.1 S.2.1 d_Pk_withSent_9 (by decide) ?_
  refine lv_iload_n S.1 S.2.1 d_Pk_withSent_10 rfl (lv_at hl 0 rfl) ?_
  refine lv_imul S.1 S.2.1 d_Pk_withSent_11 ?_
  refine lv_iadd S.1 S.2.1 d_Pk_withSent_12 ?_
  refine lv_ishl S.1 S.2.1 d_Pk_withSent_13 ?_
  refine lv_ior S.1 S.2.1 d_Pk_withSent_14 ?_
  refine lv_ldc S.1 S.2.1 S.2.2.2.1 (S.2.2.2.2 _ lk_Pk_15) d_Pk_withSent_15 ?_
  refine lv_iadd S.1 S.2.1 d_Pk_withSent_17 ?_
  exact u_piret S hr hlk hw (rfl) d_Pk_withSent_18
def s_Pk_withoutFirst (a0 : Int32) : Int32 := (((a0 &&& (131071 : Int32)) ||| (((s_Pk_channelLength a0) - (1 : Int32)) <<< ((17 : Int32) &&& 31))) ||| ((a0 >>> ((21 : Int32) &&& 31)) <<< ((19 : Int32) &&& 31)))
set_option maxHeartbeats 4000000 in
set_option maxRecDepth 100000 in
theorem c_Pk_withoutFirst (l : Launch) (a0 : Int32) : MetP l y_Pk_withoutFirst b_Pk_withoutFirst 4 (some .int) ({ frames := 1, cells := 0, slots := 0, locals := 20 }) [.int a0] (s_Pk_withoutFirst a0) := by
  refine u_start [.int a0] (by decide) (Nat.le_of_ble_eq_true rfl) ?_
  intro p_ e_ s_ m_ bl_ me_ c_ ls S hr hlk hin hl hB
  have hw : uN s_ ∧ va_S (fun _ => False) s_.heap s_.heap [] := ⟨hB, va_S.rf⟩
  have hl : lv_has ls 4 [(0, .int a0)] := hl
  refine lv_iload_n S.1 S.2.1 d_Pk_withoutFirst_0 rfl (lv_at hl 0 rfl) ?_
  refine u_callpp hw (va_runS (As := [.int a0]) (rest := []) S (c_Pk_channelLength l a0) ⟨u_cB S.2.2.2.2 t_Pk_channelLength ln_Pk lm_Pk_11 hd_Pk_channelLength rfl rfl ⟨Nat.le_of_ble_eq_true rfl, Nat.le_of_ble_eq_true rfl⟩, S.2.2.2.2 _ lt_Pk_channelLength⟩ (u_preP hw.1) rfl rfl hl.1 rfl (lv_room (Nat.le_of_ble_eq_true rfl)) d_Pk_withoutFirst_1 ⟨Nat.zero_le _, Nat.zero_le _⟩) (fun r H locs hp hw => ?_)
  refine u_top (y := (s_Pk_channelLength a0)) hp ?_
  refine lv_iconst (v := (1 : Int32)) S.1 S.2.1 d_Pk_withoutFirst_4 (by decide) ?_
  refine lv_isub S.1 S.2.1 d_Pk_withoutFirst_5 ?_
  refine lv_istore_n (lv' := [(1, .int ((s_Pk_channelLength a0) - (1 : Int32))), (0, .int a0)]) S.1 S.2.1 d_Pk_withoutFirst_6 rfl hl (by decide) rfl (fun ls hl => ?_)
  refine lv_iload_n S.1 S.2.1 d_Pk_withoutFirst_7 rfl (lv_at hl 1 rfl) ?_
  refine lv_bipush (v := (21 : Int32)) S.1 S.2.1 d_Pk_withoutFirst_8 (by decide) ?_
  refine lv_ishr S.1 S.2.1 d_Pk_withoutFirst_10 ?_
  refine lv_istore_n (lv' := [(2, .int (a0 >>> ((21 : Int32) &&& 31))), (1, .int ((s_Pk_channelLength a0) - (1 : Int32))), (0, .int a0)]) S.1 S.2.1 d_Pk_withoutFirst_11 rfl hl (by decide) rfl (fun ls hl => ?_)
  refine lv_iload_n S.1 S.2.1 d_Pk_withoutFirst_12 rfl (lv_at hl 2 rfl) ?_
  refine lv_ldc S.1 S.2.1 S.2.2.2.1 (S.2.2.2.2 _ lk_Pk_16) d_Pk_withoutFirst_13 ?_
  refine lv_iand S.1 S.2.1 d_Pk_withoutFirst_15 ?_
  refine lv_istore_n (lv' := [(3, .int (a0 &&& (131071 : Int32))), (2, .int (a0 >>> ((21 : Int32) &&& 31))), (1, .int ((s_Pk_channelLength a0) - (1 : Int32))), (0, .int a0)]) S.1 S.2.1 d_Pk_withoutFirst_16 rfl hl (by decide) rfl (fun ls hl => ?_)
  refine lv_iload_n S.1 S.2.1 d_Pk_withoutFirst_17 rfl (lv_at hl 0 rfl) ?_
  refine lv_iload_n S.1 S.2.1 d_Pk_withoutFirst_18 rfl (lv_at hl 2 rfl) ?_
  refine lv_bipush (v := (17 : Int32)) S.1 S.2.1 d_Pk_withoutFirst_19 (by decide) ?_
  refine lv_ishl S.1 S.2.1 d_Pk_withoutFirst_21 ?_
  refine lv_ior S.1 S.2.1 d_Pk_withoutFirst_22 ?_
  refine lv_iload_n S.1 S.2.1 d_Pk_withoutFirst_23 rfl (lv_at hl 1 rfl) ?_
  refine lv_bipush (v := (19 : Int32)) S.1 S.2.1 d_Pk_withoutFirst_24 (by decide) ?_
  refine lv_ishl S.1 S.2.1 d_Pk_withoutFirst_26 ?_
  refine lv_ior S.1 S.2.1 d_Pk_withoutFirst_27 ?_
  exact u_piret S hr hlk hw (rfl) d_Pk_withoutFirst_28
def s_Pk_part (a0 a1 : Int32) : Int32 := (if (3 : Int32) ≤ a1 then (if (7 : Int32) ≤ a1 then (if a1 = (7 : Int32) then (s_Pk_channelLength a0) else (s_Pk_channelValue a0 (a1 - (8 : Int32)))) else (s_Pk_variable a0 (a1 - (3 : Int32)))) else (s_Pk_place a0 a1))
set_option maxHeartbeats 4000000 in
set_option maxRecDepth 100000 in
theorem c_Pk_part (l : Launch) (a0 a1 : Int32) : MetP l y_Pk_part b_Pk_part 2 (some .int) ({ frames := 2, cells := 0, slots := 0, locals := 41 }) [.int a0, .int a1] (s_Pk_part a0 a1) := by
  refine u_start [.int a0, .int a1] (by decide) (Nat.le_of_ble_eq_true rfl) ?_
  intro p_ e_ s_ m_ bl_ me_ c_ ls S hr hlk hin hl hB
  have hw : uN s_ ∧ va_S (fun _ => False) s_.heap s_.heap [] := ⟨hB, va_S.rf⟩
  have hl : lv_has ls 2 [(0, .int a0), (1, .int a1)] := hl
  refine lv_iload_n S.1 S.2.1 d_Pk_part_0 rfl (lv_at hl 1 rfl) ?_
  refine lv_iconst (v := (3 : Int32)) S.1 S.2.1 d_Pk_part_1 (by decide) ?_
  refine lv_icmp_ge (tgt := 11) S.1 S.2.1 d_Pk_part_2 (by decide) (fun c1 => ?_) (fun c1 => ?_)
  · skip
    refine lv_iload_n S.1 S.2.1 d_Pk_part_11 rfl (lv_at hl 1 rfl) ?_
    refine lv_bipush (v := (7 : Int32)) S.1 S.2.1 d_Pk_part_12 (by decide) ?_
    refine lv_icmp_ge (tgt := 25) S.1 S.2.1 d_Pk_part_14 (by decide) (fun c2 => ?_) (fun c2 => ?_)
    · skip
      refine lv_iload_n S.1 S.2.1 d_Pk_part_25 rfl (lv_at hl 1 rfl) ?_
      refine lv_bipush (v := (7 : Int32)) S.1 S.2.1 d_Pk_part_26 (by decide) ?_
      refine lv_icmp_ne (tgt := 38) S.1 S.2.1 d_Pk_part_28 (by decide) (fun c3 => ?_) (fun c3 => ?_)
      · skip
        refine lv_iload_n S.1 S.2.1 d_Pk_part_38 rfl (lv_at hl 0 rfl) ?_
        refine lv_iload_n S.1 S.2.1 d_Pk_part_39 rfl (lv_at hl 1 rfl) ?_
        refine lv_bipush (v := (8 : Int32)) S.1 S.2.1 d_Pk_part_40 (by decide) ?_
        refine lv_isub S.1 S.2.1 d_Pk_part_42 ?_
        refine u_callpp hw (va_runS (As := [.int a0, .int (a1 - (8 : Int32))]) (rest := []) S (c_Pk_channelValue l a0 (a1 - (8 : Int32))) ⟨u_cB S.2.2.2.2 t_Pk_channelValue ln_Pk lm_Pk_24 hd_Pk_channelValue rfl rfl ⟨Nat.le_of_ble_eq_true rfl, Nat.le_of_ble_eq_true rfl⟩, S.2.2.2.2 _ lt_Pk_channelValue⟩ (u_preP hw.1) rfl rfl hl.1 rfl (lv_room (Nat.le_of_ble_eq_true rfl)) d_Pk_part_43 ⟨Nat.zero_le _, Nat.zero_le _⟩) (fun r H locs hp hw => ?_)
        refine u_top (y := (s_Pk_channelValue a0 (a1 - (8 : Int32)))) hp ?_
        exact u_piret S hr hlk hw (by unfold s_Pk_part; simp only [if_pos c1, if_pos c2, if_neg c3]) d_Pk_part_46
      · skip
        refine lv_iload_n S.1 S.2.1 d_Pk_part_31 rfl (lv_at hl 0 rfl) ?_
        refine u_callpp hw (va_runS (As := [.int a0]) (rest := []) S (c_Pk_channelLength l a0) ⟨u_cB S.2.2.2.2 t_Pk_channelLength ln_Pk lm_Pk_11 hd_Pk_channelLength rfl rfl ⟨Nat.le_of_ble_eq_true rfl, Nat.le_of_ble_eq_true rfl⟩, S.2.2.2.2 _ lt_Pk_channelLength⟩ (u_preP hw.1) rfl rfl hl.1 rfl (lv_room (Nat.le_of_ble_eq_true rfl)) d_Pk_part_32 ⟨Nat.zero_le _, Nat.zero_le _⟩) (fun r H locs hp hw => ?_)
        refine u_top (y := (s_Pk_channelLength a0)) hp ?_
        refine lv_goto (tgt := 46) S.1 S.2.1 d_Pk_part_35 (by decide) ?_
        exact u_piret S hr hlk hw (by unfold s_Pk_part; simp only [if_pos c1, if_pos c2, if_pos c3]) d_Pk_part_46
    · skip
      refine lv_iload_n S.1 S.2.1 d_Pk_part_17 rfl (lv_at hl 0 rfl) ?_
      refine lv_iload_n S.1 S.2.1 d_Pk_part_18 rfl (lv_at hl 1 rfl) ?_
      refine lv_iconst (v := (3 : Int32)) S.1 S.2.1 d_Pk_part_19 (by decide) ?_
      refine lv_isub S.1 S.2.1 d_Pk_part_20 ?_
      refine u_callpp hw (va_runS (As := [.int a0, .int (a1 - (3 : Int32))]) (rest := []) S (c_Pk_variable l a0 (a1 - (3 : Int32))) ⟨u_cB S.2.2.2.2 t_Pk_variable ln_Pk lm_Pk_21 hd_Pk_variable rfl rfl ⟨Nat.le_of_ble_eq_true rfl, Nat.le_of_ble_eq_true rfl⟩, S.2.2.2.2 _ lt_Pk_variable⟩ (u_preP hw.1) rfl rfl hl.1 rfl (lv_room (Nat.le_of_ble_eq_true rfl)) d_Pk_part_21 ⟨Nat.zero_le _, Nat.zero_le _⟩) (fun r H locs hp hw => ?_)
      refine u_top (y := (s_Pk_variable a0 (a1 - (3 : Int32)))) hp ?_
      exact u_piret S hr hlk hw (by unfold s_Pk_part; simp only [if_pos c1, if_neg c2]) d_Pk_part_24
  · skip
    refine lv_iload_n S.1 S.2.1 d_Pk_part_5 rfl (lv_at hl 0 rfl) ?_
    refine lv_iload_n S.1 S.2.1 d_Pk_part_6 rfl (lv_at hl 1 rfl) ?_
    refine u_callpp hw (va_runS (As := [.int a0, .int a1]) (rest := []) S (c_Pk_place l a0 a1) ⟨u_cB S.2.2.2.2 t_Pk_place ln_Pk lm_Pk_17 hd_Pk_place rfl rfl ⟨Nat.le_of_ble_eq_true rfl, Nat.le_of_ble_eq_true rfl⟩, S.2.2.2.2 _ lt_Pk_place⟩ (u_preP hw.1) rfl rfl hl.1 rfl (lv_room (Nat.le_of_ble_eq_true rfl)) d_Pk_part_7 ⟨Nat.zero_le _, Nat.zero_le _⟩) (fun r H locs hp hw => ?_)
    refine u_top (y := (s_Pk_place a0 a1)) hp ?_
    exact u_piret S hr hlk hw (by unfold s_Pk_part; simp only [if_neg c1]) d_Pk_part_10
def s_Tr_isAsSaid (a0 a1 a2 a3 : Int32) : Int32 := (if (s_Ds_isBelow a0 (3 : Int32)) = (0 : Int32) then (0 : Int32) else (if (s_Ds_isBelow a1 (8 : Int32)) = (0 : Int32) then (0 : Int32) else (if (s_Ds_isBelow a2 (8 : Int32)) = (0 : Int32) then (0 : Int32) else (if (s_Ds_isBelow a3 (128 : Int32)) = (0 : Int32) then (0 : Int32) else (1 : Int32)))))
set_option maxHeartbeats 4000000 in
set_option maxRecDepth 100000 in
theorem c_Tr_isAsSaid (l : Launch) (a0 a1 a2 a3 : Int32) : MetP l y_Tr_isAsSaid b_Tr_isAsSaid 4 (some .boolean) ({ frames := 1, cells := 0, slots := 0, locals := 21 }) [.int a0, .int a1, .int a2, .int a3] (s_Tr_isAsSaid a0 a1 a2 a3) := by
  refine u_start [.int a0, .int a1, .int a2, .int a3] (by decide) (Nat.le_of_ble_eq_true rfl) ?_
  intro p_ e_ s_ m_ bl_ me_ c_ ls S hr hlk hin hl hB
  have hw : uN s_ ∧ va_S (fun _ => False) s_.heap s_.heap [] := ⟨hB, va_S.rf⟩
  have hl : lv_has ls 4 [(0, .int a0), (1, .int a1), (2, .int a2), (3, .int a3)] := hl
  refine lv_iload_n S.1 S.2.1 d_Tr_isAsSaid_0 rfl (lv_at hl 0 rfl) ?_
  refine lv_iconst (v := (3 : Int32)) S.1 S.2.1 d_Tr_isAsSaid_1 (by decide) ?_
  refine u_callpp hw (va_runSN (As := [.int a0, .int (3 : Int32)]) (rest := []) S (c_Ds_isBelow l a0 (3 : Int32)) ⟨u_cN S.2.2.2.2 t_Ds_isBelow ln_Ds (uN_Tr hw.1) hd_Ds_isBelow rfl rfl ⟨Nat.le_of_ble_eq_true rfl, Nat.le_of_ble_eq_true rfl⟩, S.2.2.2.2 _ lt_Ds_isBelow, trivial⟩ (u_preP hw.1) rfl rfl hl.1 rfl (lv_room (Nat.le_of_ble_eq_true rfl)) d_Tr_isAsSaid_2 ⟨Nat.zero_le _, Nat.zero_le _⟩) (fun r H locs hp hw => ?_)
  refine u_top (y := (s_Ds_isBelow a0 (3 : Int32))) hp ?_
  refine lv_if_eq (tgt := 40) S.1 S.2.1 d_Tr_isAsSaid_5 (by decide) (fun c1 => ?_) (fun c1 => ?_)
  · skip
    refine lv_iconst (v := (0 : Int32)) S.1 S.2.1 d_Tr_isAsSaid_40 (by decide) ?_
    exact u_pzret S hr hlk hw (by first | rfl | assumption | exact nb01 (z_Ds_isBelow _ _)) (by unfold s_Tr_isAsSaid; simp only [if_pos c1]) d_Tr_isAsSaid_41
  · skip
    refine lv_iload_n S.1 S.2.1 d_Tr_isAsSaid_8 rfl (lv_at hl 1 rfl) ?_
    refine lv_bipush (v := (8 : Int32)) S.1 S.2.1 d_Tr_isAsSaid_9 (by decide) ?_
    refine u_callpp hw (va_runSN (As := [.int a1, .int (8 : Int32)]) (rest := []) S (c_Ds_isBelow l a1 (8 : Int32)) ⟨u_cN S.2.2.2.2 t_Ds_isBelow ln_Ds (uN_Tr hw.1) hd_Ds_isBelow rfl rfl ⟨Nat.le_of_ble_eq_true rfl, Nat.le_of_ble_eq_true rfl⟩, S.2.2.2.2 _ lt_Ds_isBelow, trivial⟩ (u_preP hw.1) rfl rfl hl.1 rfl (lv_room (Nat.le_of_ble_eq_true rfl)) d_Tr_isAsSaid_11 ⟨Nat.zero_le _, Nat.zero_le _⟩) (fun r H locs hp hw => ?_)
    refine u_top (y := (s_Ds_isBelow a1 (8 : Int32))) hp ?_
    refine lv_if_eq (tgt := 40) S.1 S.2.1 d_Tr_isAsSaid_14 (by decide) (fun c2 => ?_) (fun c2 => ?_)
    · skip
      refine lv_iconst (v := (0 : Int32)) S.1 S.2.1 d_Tr_isAsSaid_40 (by decide) ?_
      exact u_pzret S hr hlk hw (by first | rfl | assumption | exact nb01 (z_Ds_isBelow _ _)) (by unfold s_Tr_isAsSaid; simp only [if_neg c1, if_pos c2]) d_Tr_isAsSaid_41
    · skip
      refine lv_iload_n S.1 S.2.1 d_Tr_isAsSaid_17 rfl (lv_at hl 2 rfl) ?_
      refine lv_bipush (v := (8 : Int32)) S.1 S.2.1 d_Tr_isAsSaid_18 (by decide) ?_
      refine u_callpp hw (va_runSN (As := [.int a2, .int (8 : Int32)]) (rest := []) S (c_Ds_isBelow l a2 (8 : Int32)) ⟨u_cN S.2.2.2.2 t_Ds_isBelow ln_Ds (uN_Tr hw.1) hd_Ds_isBelow rfl rfl ⟨Nat.le_of_ble_eq_true rfl, Nat.le_of_ble_eq_true rfl⟩, S.2.2.2.2 _ lt_Ds_isBelow, trivial⟩ (u_preP hw.1) rfl rfl hl.1 rfl (lv_room (Nat.le_of_ble_eq_true rfl)) d_Tr_isAsSaid_20 ⟨Nat.zero_le _, Nat.zero_le _⟩) (fun r H locs hp hw => ?_)
      refine u_top (y := (s_Ds_isBelow a2 (8 : Int32))) hp ?_
      refine lv_if_eq (tgt := 40) S.1 S.2.1 d_Tr_isAsSaid_23 (by decide) (fun c3 => ?_) (fun c3 => ?_)
      · skip
        refine lv_iconst (v := (0 : Int32)) S.1 S.2.1 d_Tr_isAsSaid_40 (by decide) ?_
        exact u_pzret S hr hlk hw (by first | rfl | assumption | exact nb01 (z_Ds_isBelow _ _)) (by unfold s_Tr_isAsSaid; simp only [if_neg c1, if_neg c2, if_pos c3]) d_Tr_isAsSaid_41
      · skip
        refine lv_iload_n S.1 S.2.1 d_Tr_isAsSaid_26 rfl (lv_at hl 3 rfl) ?_
        refine lv_sipush (v := (128 : Int32)) S.1 S.2.1 d_Tr_isAsSaid_27 (by decide) ?_
        refine u_callpp hw (va_runSN (As := [.int a3, .int (128 : Int32)]) (rest := []) S (c_Ds_isBelow l a3 (128 : Int32)) ⟨u_cN S.2.2.2.2 t_Ds_isBelow ln_Ds (uN_Tr hw.1) hd_Ds_isBelow rfl rfl ⟨Nat.le_of_ble_eq_true rfl, Nat.le_of_ble_eq_true rfl⟩, S.2.2.2.2 _ lt_Ds_isBelow, trivial⟩ (u_preP hw.1) rfl rfl hl.1 rfl (lv_room (Nat.le_of_ble_eq_true rfl)) d_Tr_isAsSaid_30 ⟨Nat.zero_le _, Nat.zero_le _⟩) (fun r H locs hp hw => ?_)
        refine u_top (y := (s_Ds_isBelow a3 (128 : Int32))) hp ?_
        refine lv_if_eq (tgt := 40) S.1 S.2.1 d_Tr_isAsSaid_33 (by decide) (fun c4 => ?_) (fun c4 => ?_)
        · skip
          refine lv_iconst (v := (0 : Int32)) S.1 S.2.1 d_Tr_isAsSaid_40 (by decide) ?_
          exact u_pzret S hr hlk hw (by first | rfl | assumption | exact nb01 (z_Ds_isBelow _ _)) (by unfold s_Tr_isAsSaid; simp only [if_neg c1, if_neg c2, if_neg c3, if_pos c4]) d_Tr_isAsSaid_41
        · skip
          refine lv_iconst (v := (1 : Int32)) S.1 S.2.1 d_Tr_isAsSaid_36 (by decide) ?_
          refine lv_goto (tgt := 41) S.1 S.2.1 d_Tr_isAsSaid_37 (by decide) ?_
          exact u_pzret S hr hlk hw (by first | rfl | assumption | exact nb01 (z_Ds_isBelow _ _)) (by unfold s_Tr_isAsSaid; simp only [if_neg c1, if_neg c2, if_neg c3, if_neg c4]) d_Tr_isAsSaid_41
theorem z_Tr_isAsSaid (a0 a1 a2 a3 : Int32) : s_Tr_isAsSaid a0 a1 a2 a3 = 0 ∨ s_Tr_isAsSaid a0 a1 a2 a3 = 1 := by
  unfold s_Tr_isAsSaid
  (repeat' split) <;> first | exact Or.inl rfl | exact Or.inr rfl | exact z_Ds_isBelow _ _
def s_Cm_isAsSaid (a0 a1 a2 : Int32) : Int32 := (if a0 = (0 : Int32) then (if (s_Ds_isBelow a1 (4 : Int32)) = (0 : Int32) then (0 : Int32) else (if (s_Ds_isBelow a2 (4 : Int32)) = (0 : Int32) then (0 : Int32) else (1 : Int32))) else (if a0 = (1 : Int32) then (if (s_Ds_isBelow a1 (3 : Int32)) = (0 : Int32) then (0 : Int32) else (if (s_Ds_isBelow a2 (8 : Int32)) = (0 : Int32) then (0 : Int32) else (1 : Int32))) else (if a0 = (2 : Int32) then (if (s_Ds_isBelow a1 (3 : Int32)) = (0 : Int32) then (0 : Int32) else (if (s_Ds_isBelow a2 (3 : Int32)) = (0 : Int32) then (0 : Int32) else (if a1 = a2 then (0 : Int32) else (1 : Int32)))) else (if a0 = (3 : Int32) then (s_Ds_isBelow a1 (3 : Int32)) else (if a0 = (4 : Int32) then (if (s_Ds_isBelow a1 (4 : Int32)) = (0 : Int32) then (0 : Int32) else (if (s_Ds_isBelow a2 (4 : Int32)) = (0 : Int32) then (0 : Int32) else (1 : Int32))) else (0 : Int32))))))
set_option maxHeartbeats 4000000 in
set_option maxRecDepth 100000 in
theorem c_Cm_isAsSaid (l : Launch) (a0 a1 a2 : Int32) : MetP l y_Cm_isAsSaid b_Cm_isAsSaid 3 (some .boolean) ({ frames := 1, cells := 0, slots := 0, locals := 21 }) [.int a0, .int a1, .int a2] (s_Cm_isAsSaid a0 a1 a2) := by
  refine u_start [.int a0, .int a1, .int a2] (by decide) (Nat.le_of_ble_eq_true rfl) ?_
  intro p_ e_ s_ m_ bl_ me_ c_ ls S hr hlk hin hl hB
  have hw : uN s_ ∧ va_S (fun _ => False) s_.heap s_.heap [] := ⟨hB, va_S.rf⟩
  have hl : lv_has ls 3 [(0, .int a0), (1, .int a1), (2, .int a2)] := hl
  refine lv_iload_n S.1 S.2.1 d_Cm_isAsSaid_0 rfl (lv_at hl 0 rfl) ?_
  by_cases c2 : a0 = (0 : Int32)
  · skip
    refine u_tab S (k := (0 : Int32)) (off := 35) (tgt := 36) c2 d_Cm_isAsSaid_1 (by decide) (by decide) (by decide) (by decide) ?_
    refine lv_iload_n S.1 S.2.1 d_Cm_isAsSaid_36 rfl (lv_at hl 1 rfl) ?_
    refine lv_iconst (v := (4 : Int32)) S.1 S.2.1 d_Cm_isAsSaid_37 (by decide) ?_
    refine u_callpp hw (va_runSN (As := [.int a1, .int (4 : Int32)]) (rest := []) S (c_Ds_isBelow l a1 (4 : Int32)) ⟨u_cN S.2.2.2.2 t_Ds_isBelow ln_Ds (uN_Cm hw.1) hd_Ds_isBelow rfl rfl ⟨Nat.le_of_ble_eq_true rfl, Nat.le_of_ble_eq_true rfl⟩, S.2.2.2.2 _ lt_Ds_isBelow, trivial⟩ (u_preP hw.1) rfl rfl hl.1 rfl (lv_room (Nat.le_of_ble_eq_true rfl)) d_Cm_isAsSaid_38 ⟨Nat.zero_le _, Nat.zero_le _⟩) (fun r H locs hp hw => ?_)
    refine u_top (y := (s_Ds_isBelow a1 (4 : Int32))) hp ?_
    refine lv_if_eq (tgt := 56) S.1 S.2.1 d_Cm_isAsSaid_41 (by decide) (fun c3 => ?_) (fun c3 => ?_)
    · skip
      refine lv_iconst (v := (0 : Int32)) S.1 S.2.1 d_Cm_isAsSaid_56 (by decide) ?_
      exact u_pzret S hr hlk hw (by first | rfl | assumption | exact nb01 (z_Ds_isBelow _ _)) (by unfold s_Cm_isAsSaid; simp only [if_pos c2, if_pos c3]) d_Cm_isAsSaid_57
    · skip
      refine lv_iload_n S.1 S.2.1 d_Cm_isAsSaid_44 rfl (lv_at hl 2 rfl) ?_
      refine lv_iconst (v := (4 : Int32)) S.1 S.2.1 d_Cm_isAsSaid_45 (by decide) ?_
      refine u_callpp hw (va_runSN (As := [.int a2, .int (4 : Int32)]) (rest := []) S (c_Ds_isBelow l a2 (4 : Int32)) ⟨u_cN S.2.2.2.2 t_Ds_isBelow ln_Ds (uN_Cm hw.1) hd_Ds_isBelow rfl rfl ⟨Nat.le_of_ble_eq_true rfl, Nat.le_of_ble_eq_true rfl⟩, S.2.2.2.2 _ lt_Ds_isBelow, trivial⟩ (u_preP hw.1) rfl rfl hl.1 rfl (lv_room (Nat.le_of_ble_eq_true rfl)) d_Cm_isAsSaid_46 ⟨Nat.zero_le _, Nat.zero_le _⟩) (fun r H locs hp hw => ?_)
      refine u_top (y := (s_Ds_isBelow a2 (4 : Int32))) hp ?_
      refine lv_if_eq (tgt := 56) S.1 S.2.1 d_Cm_isAsSaid_49 (by decide) (fun c4 => ?_) (fun c4 => ?_)
      · skip
        refine lv_iconst (v := (0 : Int32)) S.1 S.2.1 d_Cm_isAsSaid_56 (by decide) ?_
        exact u_pzret S hr hlk hw (by first | rfl | assumption | exact nb01 (z_Ds_isBelow _ _)) (by unfold s_Cm_isAsSaid; simp only [if_pos c2, if_neg c3, if_pos c4]) d_Cm_isAsSaid_57
      · skip
        refine lv_iconst (v := (1 : Int32)) S.1 S.2.1 d_Cm_isAsSaid_52 (by decide) ?_
        refine lv_goto (tgt := 57) S.1 S.2.1 d_Cm_isAsSaid_53 (by decide) ?_
        exact u_pzret S hr hlk hw (by first | rfl | assumption | exact nb01 (z_Ds_isBelow _ _)) (by unfold s_Cm_isAsSaid; simp only [if_pos c2, if_neg c3, if_neg c4]) d_Cm_isAsSaid_57
  · skip
    by_cases c5 : a0 = (1 : Int32)
    · skip
      refine u_tab S (k := (1 : Int32)) (off := 57) (tgt := 58) c5 d_Cm_isAsSaid_1 (by decide) (by decide) (by decide) (by decide) ?_
      refine lv_iload_n S.1 S.2.1 d_Cm_isAsSaid_58 rfl (lv_at hl 1 rfl) ?_
      refine lv_iconst (v := (3 : Int32)) S.1 S.2.1 d_Cm_isAsSaid_59 (by decide) ?_
      refine u_callpp hw (va_runSN (As := [.int a1, .int (3 : Int32)]) (rest := []) S (c_Ds_isBelow l a1 (3 : Int32)) ⟨u_cN S.2.2.2.2 t_Ds_isBelow ln_Ds (uN_Cm hw.1) hd_Ds_isBelow rfl rfl ⟨Nat.le_of_ble_eq_true rfl, Nat.le_of_ble_eq_true rfl⟩, S.2.2.2.2 _ lt_Ds_isBelow, trivial⟩ (u_preP hw.1) rfl rfl hl.1 rfl (lv_room (Nat.le_of_ble_eq_true rfl)) d_Cm_isAsSaid_60 ⟨Nat.zero_le _, Nat.zero_le _⟩) (fun r H locs hp hw => ?_)
      refine u_top (y := (s_Ds_isBelow a1 (3 : Int32))) hp ?_
      refine lv_if_eq (tgt := 79) S.1 S.2.1 d_Cm_isAsSaid_63 (by decide) (fun c6 => ?_) (fun c6 => ?_)
      · skip
        refine lv_iconst (v := (0 : Int32)) S.1 S.2.1 d_Cm_isAsSaid_79 (by decide) ?_
        exact u_pzret S hr hlk hw (by first | rfl | assumption | exact nb01 (z_Ds_isBelow _ _)) (by unfold s_Cm_isAsSaid; simp only [if_neg c2, if_pos c5, if_pos c6]) d_Cm_isAsSaid_80
      · skip
        refine lv_iload_n S.1 S.2.1 d_Cm_isAsSaid_66 rfl (lv_at hl 2 rfl) ?_
        refine lv_bipush (v := (8 : Int32)) S.1 S.2.1 d_Cm_isAsSaid_67 (by decide) ?_
        refine u_callpp hw (va_runSN (As := [.int a2, .int (8 : Int32)]) (rest := []) S (c_Ds_isBelow l a2 (8 : Int32)) ⟨u_cN S.2.2.2.2 t_Ds_isBelow ln_Ds (uN_Cm hw.1) hd_Ds_isBelow rfl rfl ⟨Nat.le_of_ble_eq_true rfl, Nat.le_of_ble_eq_true rfl⟩, S.2.2.2.2 _ lt_Ds_isBelow, trivial⟩ (u_preP hw.1) rfl rfl hl.1 rfl (lv_room (Nat.le_of_ble_eq_true rfl)) d_Cm_isAsSaid_69 ⟨Nat.zero_le _, Nat.zero_le _⟩) (fun r H locs hp hw => ?_)
        refine u_top (y := (s_Ds_isBelow a2 (8 : Int32))) hp ?_
        refine lv_if_eq (tgt := 79) S.1 S.2.1 d_Cm_isAsSaid_72 (by decide) (fun c7 => ?_) (fun c7 => ?_)
        · skip
          refine lv_iconst (v := (0 : Int32)) S.1 S.2.1 d_Cm_isAsSaid_79 (by decide) ?_
          exact u_pzret S hr hlk hw (by first | rfl | assumption | exact nb01 (z_Ds_isBelow _ _)) (by unfold s_Cm_isAsSaid; simp only [if_neg c2, if_pos c5, if_neg c6, if_pos c7]) d_Cm_isAsSaid_80
        · skip
          refine lv_iconst (v := (1 : Int32)) S.1 S.2.1 d_Cm_isAsSaid_75 (by decide) ?_
          refine lv_goto (tgt := 80) S.1 S.2.1 d_Cm_isAsSaid_76 (by decide) ?_
          exact u_pzret S hr hlk hw (by first | rfl | assumption | exact nb01 (z_Ds_isBelow _ _)) (by unfold s_Cm_isAsSaid; simp only [if_neg c2, if_pos c5, if_neg c6, if_neg c7]) d_Cm_isAsSaid_80
    · skip
      by_cases c8 : a0 = (2 : Int32)
      · skip
        refine u_tab S (k := (2 : Int32)) (off := 80) (tgt := 81) c8 d_Cm_isAsSaid_1 (by decide) (by decide) (by decide) (by decide) ?_
        refine lv_iload_n S.1 S.2.1 d_Cm_isAsSaid_81 rfl (lv_at hl 1 rfl) ?_
        refine lv_iconst (v := (3 : Int32)) S.1 S.2.1 d_Cm_isAsSaid_82 (by decide) ?_
        refine u_callpp hw (va_runSN (As := [.int a1, .int (3 : Int32)]) (rest := []) S (c_Ds_isBelow l a1 (3 : Int32)) ⟨u_cN S.2.2.2.2 t_Ds_isBelow ln_Ds (uN_Cm hw.1) hd_Ds_isBelow rfl rfl ⟨Nat.le_of_ble_eq_true rfl, Nat.le_of_ble_eq_true rfl⟩, S.2.2.2.2 _ lt_Ds_isBelow, trivial⟩ (u_preP hw.1) rfl rfl hl.1 rfl (lv_room (Nat.le_of_ble_eq_true rfl)) d_Cm_isAsSaid_83 ⟨Nat.zero_le _, Nat.zero_le _⟩) (fun r H locs hp hw => ?_)
        refine u_top (y := (s_Ds_isBelow a1 (3 : Int32))) hp ?_
        refine lv_if_eq (tgt := 106) S.1 S.2.1 d_Cm_isAsSaid_86 (by decide) (fun c9 => ?_) (fun c9 => ?_)
        · skip
          refine lv_iconst (v := (0 : Int32)) S.1 S.2.1 d_Cm_isAsSaid_106 (by decide) ?_
          exact u_pzret S hr hlk hw (by first | rfl | assumption | exact nb01 (z_Ds_isBelow _ _)) (by unfold s_Cm_isAsSaid; simp only [if_neg c2, if_neg c5, if_pos c8, if_pos c9]) d_Cm_isAsSaid_107
        · skip
          refine lv_iload_n S.1 S.2.1 d_Cm_isAsSaid_89 rfl (lv_at hl 2 rfl) ?_
          refine lv_iconst (v := (3 : Int32)) S.1 S.2.1 d_Cm_isAsSaid_90 (by decide) ?_
          refine u_callpp hw (va_runSN (As := [.int a2, .int (3 : Int32)]) (rest := []) S (c_Ds_isBelow l a2 (3 : Int32)) ⟨u_cN S.2.2.2.2 t_Ds_isBelow ln_Ds (uN_Cm hw.1) hd_Ds_isBelow rfl rfl ⟨Nat.le_of_ble_eq_true rfl, Nat.le_of_ble_eq_true rfl⟩, S.2.2.2.2 _ lt_Ds_isBelow, trivial⟩ (u_preP hw.1) rfl rfl hl.1 rfl (lv_room (Nat.le_of_ble_eq_true rfl)) d_Cm_isAsSaid_91 ⟨Nat.zero_le _, Nat.zero_le _⟩) (fun r H locs hp hw => ?_)
          refine u_top (y := (s_Ds_isBelow a2 (3 : Int32))) hp ?_
          refine lv_if_eq (tgt := 106) S.1 S.2.1 d_Cm_isAsSaid_94 (by decide) (fun c10 => ?_) (fun c10 => ?_)
          · skip
            refine lv_iconst (v := (0 : Int32)) S.1 S.2.1 d_Cm_isAsSaid_106 (by decide) ?_
            exact u_pzret S hr hlk hw (by first | rfl | assumption | exact nb01 (z_Ds_isBelow _ _)) (by unfold s_Cm_isAsSaid; simp only [if_neg c2, if_neg c5, if_pos c8, if_neg c9, if_pos c10]) d_Cm_isAsSaid_107
          · skip
            refine lv_iload_n S.1 S.2.1 d_Cm_isAsSaid_97 rfl (lv_at hl 1 rfl) ?_
            refine lv_iload_n S.1 S.2.1 d_Cm_isAsSaid_98 rfl (lv_at hl 2 rfl) ?_
            refine lv_icmp_eq (tgt := 106) S.1 S.2.1 d_Cm_isAsSaid_99 (by decide) (fun c11 => ?_) (fun c11 => ?_)
            · skip
              refine lv_iconst (v := (0 : Int32)) S.1 S.2.1 d_Cm_isAsSaid_106 (by decide) ?_
              exact u_pzret S hr hlk hw (by first | rfl | assumption | exact nb01 (z_Ds_isBelow _ _)) (by unfold s_Cm_isAsSaid; simp only [if_neg c2, if_neg c5, if_pos c8, if_neg c9, if_neg c10, if_pos c11]) d_Cm_isAsSaid_107
            · skip
              refine lv_iconst (v := (1 : Int32)) S.1 S.2.1 d_Cm_isAsSaid_102 (by decide) ?_
              refine lv_goto (tgt := 107) S.1 S.2.1 d_Cm_isAsSaid_103 (by decide) ?_
              exact u_pzret S hr hlk hw (by first | rfl | assumption | exact nb01 (z_Ds_isBelow _ _)) (by unfold s_Cm_isAsSaid; simp only [if_neg c2, if_neg c5, if_pos c8, if_neg c9, if_neg c10, if_neg c11]) d_Cm_isAsSaid_107
      · skip
        by_cases c12 : a0 = (3 : Int32)
        · skip
          refine u_tab S (k := (3 : Int32)) (off := 107) (tgt := 108) c12 d_Cm_isAsSaid_1 (by decide) (by decide) (by decide) (by decide) ?_
          refine lv_iload_n S.1 S.2.1 d_Cm_isAsSaid_108 rfl (lv_at hl 1 rfl) ?_
          refine lv_iconst (v := (3 : Int32)) S.1 S.2.1 d_Cm_isAsSaid_109 (by decide) ?_
          refine u_callpp hw (va_runSN (As := [.int a1, .int (3 : Int32)]) (rest := []) S (c_Ds_isBelow l a1 (3 : Int32)) ⟨u_cN S.2.2.2.2 t_Ds_isBelow ln_Ds (uN_Cm hw.1) hd_Ds_isBelow rfl rfl ⟨Nat.le_of_ble_eq_true rfl, Nat.le_of_ble_eq_true rfl⟩, S.2.2.2.2 _ lt_Ds_isBelow, trivial⟩ (u_preP hw.1) rfl rfl hl.1 rfl (lv_room (Nat.le_of_ble_eq_true rfl)) d_Cm_isAsSaid_110 ⟨Nat.zero_le _, Nat.zero_le _⟩) (fun r H locs hp hw => ?_)
          refine u_top (y := (s_Ds_isBelow a1 (3 : Int32))) hp ?_
          exact u_pzret S hr hlk hw (by first | rfl | assumption | exact nb01 (z_Ds_isBelow _ _)) (by unfold s_Cm_isAsSaid; simp only [if_neg c2, if_neg c5, if_neg c8, if_pos c12]) d_Cm_isAsSaid_113
        · skip
          by_cases c13 : a0 = (4 : Int32)
          · skip
            refine u_tab S (k := (4 : Int32)) (off := 113) (tgt := 114) c13 d_Cm_isAsSaid_1 (by decide) (by decide) (by decide) (by decide) ?_
            refine lv_iload_n S.1 S.2.1 d_Cm_isAsSaid_114 rfl (lv_at hl 1 rfl) ?_
            refine lv_iconst (v := (4 : Int32)) S.1 S.2.1 d_Cm_isAsSaid_115 (by decide) ?_
            refine u_callpp hw (va_runSN (As := [.int a1, .int (4 : Int32)]) (rest := []) S (c_Ds_isBelow l a1 (4 : Int32)) ⟨u_cN S.2.2.2.2 t_Ds_isBelow ln_Ds (uN_Cm hw.1) hd_Ds_isBelow rfl rfl ⟨Nat.le_of_ble_eq_true rfl, Nat.le_of_ble_eq_true rfl⟩, S.2.2.2.2 _ lt_Ds_isBelow, trivial⟩ (u_preP hw.1) rfl rfl hl.1 rfl (lv_room (Nat.le_of_ble_eq_true rfl)) d_Cm_isAsSaid_116 ⟨Nat.zero_le _, Nat.zero_le _⟩) (fun r H locs hp hw => ?_)
            refine u_top (y := (s_Ds_isBelow a1 (4 : Int32))) hp ?_
            refine lv_if_eq (tgt := 134) S.1 S.2.1 d_Cm_isAsSaid_119 (by decide) (fun c14 => ?_) (fun c14 => ?_)
            · skip
              refine lv_iconst (v := (0 : Int32)) S.1 S.2.1 d_Cm_isAsSaid_134 (by decide) ?_
              exact u_pzret S hr hlk hw (by first | rfl | assumption | exact nb01 (z_Ds_isBelow _ _)) (by unfold s_Cm_isAsSaid; simp only [if_neg c2, if_neg c5, if_neg c8, if_neg c12, if_pos c13, if_pos c14]) d_Cm_isAsSaid_135
            · skip
              refine lv_iload_n S.1 S.2.1 d_Cm_isAsSaid_122 rfl (lv_at hl 2 rfl) ?_
              refine lv_iconst (v := (4 : Int32)) S.1 S.2.1 d_Cm_isAsSaid_123 (by decide) ?_
              refine u_callpp hw (va_runSN (As := [.int a2, .int (4 : Int32)]) (rest := []) S (c_Ds_isBelow l a2 (4 : Int32)) ⟨u_cN S.2.2.2.2 t_Ds_isBelow ln_Ds (uN_Cm hw.1) hd_Ds_isBelow rfl rfl ⟨Nat.le_of_ble_eq_true rfl, Nat.le_of_ble_eq_true rfl⟩, S.2.2.2.2 _ lt_Ds_isBelow, trivial⟩ (u_preP hw.1) rfl rfl hl.1 rfl (lv_room (Nat.le_of_ble_eq_true rfl)) d_Cm_isAsSaid_124 ⟨Nat.zero_le _, Nat.zero_le _⟩) (fun r H locs hp hw => ?_)
              refine u_top (y := (s_Ds_isBelow a2 (4 : Int32))) hp ?_
              refine lv_if_eq (tgt := 134) S.1 S.2.1 d_Cm_isAsSaid_127 (by decide) (fun c15 => ?_) (fun c15 => ?_)
              · skip
                refine lv_iconst (v := (0 : Int32)) S.1 S.2.1 d_Cm_isAsSaid_134 (by decide) ?_
                exact u_pzret S hr hlk hw (by first | rfl | assumption | exact nb01 (z_Ds_isBelow _ _)) (by unfold s_Cm_isAsSaid; simp only [if_neg c2, if_neg c5, if_neg c8, if_neg c12, if_pos c13, if_neg c14, if_pos c15]) d_Cm_isAsSaid_135
              · skip
                refine lv_iconst (v := (1 : Int32)) S.1 S.2.1 d_Cm_isAsSaid_130 (by decide) ?_
                refine lv_goto (tgt := 135) S.1 S.2.1 d_Cm_isAsSaid_131 (by decide) ?_
                exact u_pzret S hr hlk hw (by first | rfl | assumption | exact nb01 (z_Ds_isBelow _ _)) (by unfold s_Cm_isAsSaid; simp only [if_neg c2, if_neg c5, if_neg c8, if_neg c12, if_pos c13, if_neg c14, if_neg c15]) d_Cm_isAsSaid_135
          · skip
            refine lv_tableOut (tgt := 136) S.1 S.2.1 d_Cm_isAsSaid_1 (by have q0 := lv_neT c2 (a := 0) (by decide); have q1 := lv_neT c5 (a := 1) (by decide); have q2 := lv_neT c8 (a := 2) (by decide); have q3 := lv_neT c12 (a := 3) (by decide); have q4 := lv_neT c13 (a := 4) (by decide); omega) (by decide) ?_
            refine lv_iconst (v := (0 : Int32)) S.1 S.2.1 d_Cm_isAsSaid_136 (by decide) ?_
            exact u_pzret S hr hlk hw (by first | rfl | assumption | exact nb01 (z_Ds_isBelow _ _)) (by unfold s_Cm_isAsSaid; simp only [if_neg c2, if_neg c5, if_neg c8, if_neg c12, if_neg c13]) d_Cm_isAsSaid_137
theorem z_Cm_isAsSaid (a0 a1 a2 : Int32) : s_Cm_isAsSaid a0 a1 a2 = 0 ∨ s_Cm_isAsSaid a0 a1 a2 = 1 := by
  unfold s_Cm_isAsSaid
  (repeat' split) <;> first | exact Or.inl rfl | exact Or.inr rfl | exact z_Ds_isBelow _ _
def s_Sp_slotFor (a0 a1 : Int32) : Int32 := ((((((a0 * (-1640531535 : Int32))).toUInt32 >>> (((22 : Int32)).toUInt32 &&& Int32.toUInt32 31)).toInt32) + a1) - (((((a0 * (-1640531535 : Int32))).toUInt32 >>> (((22 : Int32)).toUInt32 &&& Int32.toUInt32 31)).toInt32) + a1) / (1024 : Int32) * (1024 : Int32))
set_option maxHeartbeats 4000000 in
set_option maxRecDepth 100000 in
theorem c_Sp_slotFor (l : Launch) (a0 a1 : Int32) : MetP l y_Sp_slotFor b_Sp_slotFor 2 (some .int) ({ frames := 0, cells := 0, slots := 0, locals := 0 }) [.int a0, .int a1] (s_Sp_slotFor a0 a1) := by
  refine u_start [.int a0, .int a1] (by decide) (Nat.le_of_ble_eq_true rfl) ?_
  intro p_ e_ s_ m_ bl_ me_ c_ ls S hr hlk hin hl hB
  have hw : uN s_ ∧ va_S (fun _ => False) s_.heap s_.heap [] := ⟨hB, va_S.rf⟩
  have hl : lv_has ls 2 [(0, .int a0), (1, .int a1)] := hl
  refine lv_iload_n S.1 S.2.1 d_Sp_slotFor_0 rfl (lv_at hl 0 rfl) ?_
  refine lv_ldc S.1 S.2.1 S.2.2.2.1 (S.2.2.2.2 _ lk_Sp_93) d_Sp_slotFor_1 ?_
  refine lv_imul S.1 S.2.1 d_Sp_slotFor_3 ?_
  refine lv_bipush (v := (22 : Int32)) S.1 S.2.1 d_Sp_slotFor_4 (by decide) ?_
  refine lv_iushr (v := (((a0 * (-1640531535 : Int32))).toUInt32 >>> (((22 : Int32)).toUInt32 &&& Int32.toUInt32 31)).toInt32) S.1 S.2.1 d_Sp_slotFor_6 rfl ?_
  refine lv_iload_n S.1 S.2.1 d_Sp_slotFor_7 rfl (lv_at hl 1 rfl) ?_
  refine lv_iadd S.1 S.2.1 d_Sp_slotFor_8 ?_
  refine lv_sipush (v := (1024 : Int32)) S.1 S.2.1 d_Sp_slotFor_9 (by decide) ?_
  refine lv_irem S.1 S.2.1 d_Sp_slotFor_12 (by decide) ?_
  exact u_piret S hr hlk hw (rfl) d_Sp_slotFor_13
