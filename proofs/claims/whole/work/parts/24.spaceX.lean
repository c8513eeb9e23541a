theorem put_k {mem : um_M} {a b : Int32} {k : Nat} (h : k ≠ 12) : n_Sp_putIntoSlot mem a b k = mem k := by
  unfold n_Sp_putIntoSlot
  split
  · exact um_k h
  · rfl
def n_app0 (mem : um_M) (k : Nat) (a0 a1 a2 a3 : Int32) : um_M := um_set (um_set (um_set (um_set (um_set (um_set (um_set mem 4 k a0) 5 k a1) 6 k a2) 7 k a3) 8 k 0) 10 k (-2)) 3 9 (nI (k + 1))
def n_Sp_append (mem : um_M) (k : Nat) (a0 a1 a2 a3 : Int32) : um_M := n_Sp_putIntoSlot (n_app0 mem k a0 a1 a2 a3) a0 (nI (k + 1))
theorem app_sz {mem : um_M} {k : Nat} {a0 a1 a2 a3 : Int32} : n_Sp_append mem k a0 a1 a2 a3 3 9 = nI (k + 1) := by
  unfold n_Sp_append
  rw [put_k (by decide)]
  exact um_self
def n_Sp_join (mem : um_M) (s t u : Nat) : um_M := um_set (um_set (um_set (um_set mem 9 (s * 24 + t) (nI u)) 11 (s * 24 + t) (mem 10 u)) 10 u (nI (s * 24 + t))) 8 s (mem 8 s + 1)
set_option maxHeartbeats 4000000 in
set_option maxRecDepth 100000 in
theorem c_Sp_append (l : Launch) (G : UG) (mem : um_M) (k : Nat) (a0 a1 a2 a3 : Int32) (hk : k < 300) (hsz : mem 3 9 = nI k) : MetXv l G y_Sp_append b_Sp_append 5 ({ frames := 2, cells := 0, slots := 0, locals := 45 }) [.ref (G.2.1 3), .int a0, .int a1, .int a2, .int a3] mem (fun mem' => n_Sp_append mem k a0 a1 a2 a3 = mem') := by
  refine u_start [.ref (G.2.1 3), .int a0, .int a1, .int a2, .int a3] (by decide) (Nat.le_of_ble_eq_true rfl) ?_
  intro p_ e_ s_ m_ bl_ me_ c_ ls S hr hlk hin hl hB
  have hw := uH_start hB
  have hl : lv_has ls 5 [(0, .ref (G.2.1 3)), (1, .int a0), (2, .int a1), (3, .int a2), (4, .int a3)] := hl
  refine lv_aload_n S.1 S.2.1 d_Sp_append_0 rfl (lv_at hl 0 rfl) ?_
  refine u_get (v := .ref (G.2.1 4)) S hw 3 (by decide) rfl rfl in_Sp 0 (by decide) lf_Sp_9 rfl d_Sp_append_1 ?_
  refine lv_aload_n S.1 S.2.1 d_Sp_append_4 rfl (lv_at hl 0 rfl) ?_
  refine u_get (v := .int (mem 3 9)) S hw 3 (by decide) rfl rfl in_Sp 9 (by decide) lf_Sp_39 rfl d_Sp_append_5 ?_
  refine u_top (y := (nI k)) hsz ?_
  refine lv_iload_n S.1 S.2.1 d_Sp_append_8 rfl (lv_at hl 1 rfl) ?_
  refine u_isN S hw 4 0 (by decide) (fun _ => rfl) rfl (j := k) rfl (by omega) (by decide) d_Sp_append_9 (fun H locs hw => ?_)
  refine lv_aload_n S.1 S.2.1 d_Sp_append_10 rfl (lv_at hl 0 rfl) ?_
  refine u_get (v := .ref (G.2.1 5)) S hw 3 (by decide) rfl rfl in_Sp 1 (by decide) lf_Sp_15 rfl d_Sp_append_11 ?_
  refine lv_aload_n S.1 S.2.1 d_Sp_append_14 rfl (lv_at hl 0 rfl) ?_
  refine u_get (v := .int (mem 3 9)) S hw 3 (by decide) rfl rfl in_Sp 9 (by decide) lf_Sp_39 rfl d_Sp_append_15 ?_
  refine u_top (y := (nI k)) hsz ?_
  refine lv_iload_n S.1 S.2.1 d_Sp_append_18 rfl (lv_at hl 2 rfl) ?_
  refine u_isN S hw 5 0 (by decide) (fun _ => rfl) rfl (j := k) rfl (by omega) (by decide) d_Sp_append_19 (fun H locs hw => ?_)
  refine lv_aload_n S.1 S.2.1 d_Sp_append_20 rfl (lv_at hl 0 rfl) ?_
  refine u_get (v := .ref (G.2.1 6)) S hw 3 (by decide) rfl rfl in_Sp 2 (by decide) lf_Sp_18 rfl d_Sp_append_21 ?_
  refine lv_aload_n S.1 S.2.1 d_Sp_append_24 rfl (lv_at hl 0 rfl) ?_
  refine u_get (v := .int (mem 3 9)) S hw 3 (by decide) rfl rfl in_Sp 9 (by decide) lf_Sp_39 rfl d_Sp_append_25 ?_
  refine u_top (y := (nI k)) hsz ?_
  refine lv_iload_n S.1 S.2.1 d_Sp_append_28 rfl (lv_at hl 3 rfl) ?_
  refine u_isN S hw 6 0 (by decide) (fun _ => rfl) rfl (j := k) rfl (by omega) (by decide) d_Sp_append_29 (fun H locs hw => ?_)
  refine lv_aload_n S.1 S.2.1 d_Sp_append_30 rfl (lv_at hl 0 rfl) ?_
  refine u_get (v := .ref (G.2.1 7)) S hw 3 (by decide) rfl rfl in_Sp 3 (by decide) lf_Sp_21 rfl d_Sp_append_31 ?_
  refine lv_aload_n S.1 S.2.1 d_Sp_append_34 rfl (lv_at hl 0 rfl) ?_
  refine u_get (v := .int (mem 3 9)) S hw 3 (by decide) rfl rfl in_Sp 9 (by decide) lf_Sp_39 rfl d_Sp_append_35 ?_
  refine u_top (y := (nI k)) hsz ?_
  refine lv_iload S.1 S.2.1 d_Sp_append_38 (lv_at hl 4 rfl) ?_
  refine u_isN S hw 7 0 (by decide) (fun _ => rfl) rfl (j := k) rfl (by omega) (by decide) d_Sp_append_40 (fun H locs hw => ?_)
  refine lv_aload_n S.1 S.2.1 d_Sp_append_41 rfl (lv_at hl 0 rfl) ?_
  refine u_get (v := .ref (G.2.1 8)) S hw 3 (by decide) rfl rfl in_Sp 4 (by decide) lf_Sp_24 rfl d_Sp_append_42 ?_
  refine lv_aload_n S.1 S.2.1 d_Sp_append_45 rfl (lv_at hl 0 rfl) ?_
  refine u_get (v := .int (mem 3 9)) S hw 3 (by decide) rfl rfl in_Sp 9 (by decide) lf_Sp_39 rfl d_Sp_append_46 ?_
  refine u_top (y := (nI k)) hsz ?_
  refine lv_iconst (v := (0 : Int32)) S.1 S.2.1 d_Sp_append_49 (by decide) ?_
  refine u_isN S hw 8 0 (by decide) (fun _ => rfl) rfl (j := k) rfl (by omega) (by decide) d_Sp_append_50 (fun H locs hw => ?_)
  refine lv_aload_n S.1 S.2.1 d_Sp_append_51 rfl (lv_at hl 0 rfl) ?_
  refine u_get (v := .ref (G.2.1 10)) S hw 3 (by decide) rfl rfl in_Sp 6 (by decide) lf_Sp_30 rfl d_Sp_append_52 ?_
  refine lv_aload_n S.1 S.2.1 d_Sp_append_55 rfl (lv_at hl 0 rfl) ?_
  refine u_get (v := .int (mem 3 9)) S hw 3 (by decide) rfl rfl in_Sp 9 (by decide) lf_Sp_39 rfl d_Sp_append_56 ?_
  refine u_top (y := (nI k)) hsz ?_
  refine lv_bipush (v := (-2 : Int32)) S.1 S.2.1 d_Sp_append_59 (by decide) ?_
  refine u_isN S hw 10 0 (by decide) (fun _ => rfl) rfl (j := k) rfl (by omega) (by decide) d_Sp_append_61 (fun H locs hw => ?_)
  refine lv_aload_n S.1 S.2.1 d_Sp_append_62 rfl (lv_at hl 0 rfl) ?_
  refine lv_dup S.1 S.2.1 d_Sp_append_63 rfl ?_
  refine u_get (v := .int (mem 3 9)) S hw 3 (by decide) rfl rfl in_Sp 9 (by decide) lf_Sp_39 rfl d_Sp_append_64 ?_
  refine u_top (y := (nI k)) hsz ?_
  refine lv_iconst (v := (1 : Int32)) S.1 S.2.1 d_Sp_append_67 (by decide) ?_
  refine lv_iadd S.1 S.2.1 d_Sp_append_68 ?_
  refine u_top (y := (nI (k + 1))) (nI_add k 1) ?_
  refine u_put S hw 3 (by decide) rfl rfl in_Sp ty_Sp tk_Sp nm_Sp 9 (by decide) lf_Sp_39 rfl rfl rfl rfl (Nat.le_of_ble_eq_true rfl) rfl d_Sp_append_69 (fun H locs hw => ?_)
  refine lv_aload_n S.1 S.2.1 d_Sp_append_72 rfl (lv_at hl 0 rfl) ?_
  refine lv_iload_n S.1 S.2.1 d_Sp_append_73 rfl (lv_at hl 1 rfl) ?_
  refine lv_aload_n S.1 S.2.1 d_Sp_append_74 rfl (lv_at hl 0 rfl) ?_
  refine u_get (v := .int (nI (k + 1))) S hw 3 (by decide) rfl rfl in_Sp 9 (by decide) lf_Sp_39 rfl d_Sp_append_75 ?_
  refine u_callv hw (va_runV (As := [.int a0, .int (nI (k + 1))]) (rest := []) S (c_Sp_putIntoSlot l G (um_set (um_set (um_set (um_set (um_set (um_set (um_set mem 4 k a0) 5 k a1) 6 k a2) 7 k a3) 8 k (0 : Int32)) 10 k (-2 : Int32)) 3 9 (nI (k + 1))) a0 (nI (k + 1))) ⟨u_cB S.2.2.2.2 t_Sp_putIntoSlot ln_Sp lm_Sp_85 hd_Sp_putIntoSlot rfl rfl ⟨Nat.le_of_ble_eq_true rfl, Nat.le_of_ble_eq_true rfl⟩, S.2.2.2.2 _ li_Sp_putIntoSlot, S.2.2.2.2 _ ls_Sp_putIntoSlot⟩ (u_preV hw 3 (by decide) rfl rfl) rfl rfl hl.1 rfl (lv_room (Nat.le_of_ble_eq_true rfl)) d_Sp_append_78 ⟨Nat.zero_le _, Nat.zero_le _⟩) (fun mem1 H locs hp hw => ?_)
  subst hp
  exact u_vret S hr hlk hw rfl d_Sp_append_81
set_option maxHeartbeats 4000000 in
set_option maxRecDepth 100000 in
theorem c_Sp_join (l : Launch) (G : UG) (mem : um_M) (s t u : Nat) (hs : s < 300) (ht : t < 24) (hu : u < 300) : MetXv l G y_Sp_join b_Sp_join 5 ({ frames := 0, cells := 0, slots := 0, locals := 0 }) [.ref (G.2.1 3), .int (nI s), .int (nI t), .int (nI u)] mem (fun mem' => n_Sp_join mem s t u = mem') := by
  refine u_start [.ref (G.2.1 3), .int (nI s), .int (nI t), .int (nI u)] (by decide) (Nat.le_of_ble_eq_true rfl) ?_
  intro p_ e_ s_ m_ bl_ me_ c_ ls S hr hlk hin hl hB
  have hw := uH_start hB
  have hl : lv_has ls 5 [(0, .ref (G.2.1 3)), (1, .int (nI s)), (2, .int (nI t)), (3, .int (nI u))] := hl
  refine lv_iload_n S.1 S.2.1 d_Sp_join_0 rfl (lv_at hl 1 rfl) ?_
  refine lv_bipush (v := (24 : Int32)) S.1 S.2.1 d_Sp_join_1 (by decide) ?_
  refine lv_imul S.1 S.2.1 d_Sp_join_3 ?_
  refine u_top (y := (nI (s * 24))) (pk_mul s 24) ?_
  refine lv_iload_n S.1 S.2.1 d_Sp_join_4 rfl (lv_at hl 2 rfl) ?_
  refine lv_iadd S.1 S.2.1 d_Sp_join_5 ?_
  refine u_top (y := (nI ((s * 24) + t))) (nI_add (s * 24) t) ?_
  refine lv_istore (lv' := [(4, .int (nI ((s * 24) + t))), (0, .ref (G.2.1 3)), (1, .int (nI s)), (2, .int (nI t)), (3, .int (nI u))]) S.1 S.2.1 d_Sp_join_6 hl (by decide) rfl (fun ls hl => ?_)
  refine lv_aload_n S.1 S.2.1 d_Sp_join_8 rfl (lv_at hl 1 rfl) ?_
  refine u_get (v := .ref (G.2.1 9)) S hw 3 (by decide) rfl rfl in_Sp 5 (by decide) lf_Sp_27 rfl d_Sp_join_9 ?_
  refine lv_iload S.1 S.2.1 d_Sp_join_12 (lv_at hl 0 rfl) ?_
  refine lv_iload_n S.1 S.2.1 d_Sp_join_14 rfl (lv_at hl 4 rfl) ?_
  refine u_isN S hw 9 0 (by decide) (fun _ => rfl) rfl (j := ((s * 24) + t)) rfl (by omega) (by decide) d_Sp_join_15 (fun H locs hw => ?_)
  refine lv_aload_n S.1 S.2.1 d_Sp_join_16 rfl (lv_at hl 1 rfl) ?_
  refine u_get (v := .ref (G.2.1 11)) S hw 3 (by decide) rfl rfl in_Sp 7 (by decide) lf_Sp_33 rfl d_Sp_join_17 ?_
  refine lv_iload S.1 S.2.1 d_Sp_join_20 (lv_at hl 0 rfl) ?_
  refine lv_aload_n S.1 S.2.1 d_Sp_join_22 rfl (lv_at hl 1 rfl) ?_
  refine u_get (v := .ref (G.2.1 10)) S hw 3 (by decide) rfl rfl in_Sp 6 (by decide) lf_Sp_30 rfl d_Sp_join_23 ?_
  refine lv_iload_n S.1 S.2.1 d_Sp_join_26 rfl (lv_at hl 4 rfl) ?_
  refine u_iaN S hw 10 0 (by decide) rfl rfl (j := u) rfl (by omega) (by decide) d_Sp_join_27 ?_
  refine u_top (y := (mem 10 u)) rfl ?_
  refine u_isN S hw 11 0 (by decide) (fun _ => rfl) rfl (j := ((s * 24) + t)) rfl (by omega) (by decide) d_Sp_join_28 (fun H locs hw => ?_)
  refine lv_aload_n S.1 S.2.1 d_Sp_join_29 rfl (lv_at hl 1 rfl) ?_
  refine u_get (v := .ref (G.2.1 10)) S hw 3 (by decide) rfl rfl in_Sp 6 (by decide) lf_Sp_30 rfl d_Sp_join_30 ?_
  refine lv_iload_n S.1 S.2.1 d_Sp_join_33 rfl (lv_at hl 4 rfl) ?_
  refine lv_iload S.1 S.2.1 d_Sp_join_34 (lv_at hl 0 rfl) ?_
  refine u_isN S hw 10 0 (by decide) (fun _ => rfl) rfl (j := u) rfl (by omega) (by decide) d_Sp_join_36 (fun H locs hw => ?_)
  refine lv_aload_n S.1 S.2.1 d_Sp_join_37 rfl (lv_at hl 1 rfl) ?_
  refine u_get (v := .ref (G.2.1 8)) S hw 3 (by decide) rfl rfl in_Sp 4 (by decide) lf_Sp_24 rfl d_Sp_join_38 ?_
  refine lv_iload_n S.1 S.2.1 d_Sp_join_41 rfl (lv_at hl 2 rfl) ?_
  refine lv_dup2_11 S.1 S.2.1 d_Sp_join_42 rfl rfl ?_
  refine u_iaN S hw 8 0 (by decide) rfl rfl (j := s) rfl (by omega) (by decide) d_Sp_join_43 ?_
  refine u_top (y := (mem 8 s)) rfl ?_
  refine lv_iconst (v := (1 : Int32)) S.1 S.2.1 d_Sp_join_44 (by decide) ?_
  refine lv_iadd S.1 S.2.1 d_Sp_join_45 ?_
  refine u_isN S hw 8 0 (by decide) (fun _ => rfl) rfl (j := s) rfl (by omega) (by decide) d_Sp_join_46 (fun H locs hw => ?_)
  exact u_vret S hr hlk hw rfl d_Sp_join_47
set_option maxHeartbeats 4000000 in
set_option maxRecDepth 100000 in
theorem c_Sp_numberFor (l : Launch) (G : UG) (mem : um_M) (nn : Nat → Nat) (k f : Nat) (a0 a2 : Int32) (hnn : ∀ j, j < 1024 → mem 12 j = nI (nn j) ∧ nn j ≤ 300) (hk : k ≤ 300) (hsz : mem 3 9 = nI k) (hf : f < 300) : MetX l G y_Sp_numberFor b_Sp_numberFor 5 (some .int) ({ frames := 3, cells := 0, slots := 0, locals := 69 }) [.ref (G.2.1 3), .int a0, .int (nI f), .int a2] mem (fun r mem' => (¬ s_Sp_numberOf nn (mem 3 9) (mem 4) a0 = -2 → r = s_Sp_numberOf nn (mem 3 9) (mem 4) a0 ∧ mem = mem') ∧ (s_Sp_numberOf nn (mem 3 9) (mem 4) a0 = -2 → k = 300 → r = -2 ∧ mem = mem') ∧ (s_Sp_numberOf nn (mem 3 9) (mem 4) a0 = -2 → k ≠ 300 → r = nI k ∧ n_Sp_append mem k a0 (nI f) a2 (mem 7 f + 1) = mem')) := by
  refine u_start [.ref (G.2.1 3), .int a0, .int (nI f), .int a2] (by decide) (Nat.le_of_ble_eq_true rfl) ?_
  intro p_ e_ s_ m_ bl_ me_ c_ ls S hr hlk hin hl hB
  have hw := uH_start hB
  have hl : lv_has ls 5 [(0, .ref (G.2.1 3)), (1, .int a0), (2, .int (nI f)), (3, .int a2)] := hl
  refine lv_aload_n S.1 S.2.1 d_Sp_numberFor_0 rfl (lv_at hl 0 rfl) ?_
  refine lv_iload_n S.1 S.2.1 d_Sp_numberFor_1 rfl (lv_at hl 1 rfl) ?_
  refine u_calli hw (va_runV (As := [.int a0]) (rest := []) S (c_Sp_numberOf l G mem nn a0 hnn) ⟨u_cB S.2.2.2.2 t_Sp_numberOf ln_Sp lm_Sp_82 hd_Sp_numberOf rfl rfl ⟨Nat.le_of_ble_eq_true rfl, Nat.le_of_ble_eq_true rfl⟩, S.2.2.2.2 _ li_Sp_numberOf, S.2.2.2.2 _ ls_Sp_numberOf⟩ (u_preV hw 3 (by decide) rfl rfl) rfl rfl hl.1 rfl (lv_room (Nat.le_of_ble_eq_true rfl)) d_Sp_numberFor_2 ⟨Nat.zero_le _, Nat.zero_le _⟩) (fun r2 mem1 H locs hp hw => ?_)
  obtain ⟨hp, rfl⟩ := hp
  refine u_top (y := (s_Sp_numberOf nn (mem 3 9) (mem 4) a0)) hp ?_
  refine lv_istore (lv' := [(4, .int (s_Sp_numberOf nn (mem 3 9) (mem 4) a0)), (0, .ref (G.2.1 3)), (1, .int a0), (2, .int (nI f)), (3, .int a2)]) S.1 S.2.1 d_Sp_numberFor_5 hl (by decide) rfl (fun ls hl => ?_)
  refine lv_iload S.1 S.2.1 d_Sp_numberFor_7 (lv_at hl 0 rfl) ?_
  refine lv_bipush (v := (-2 : Int32)) S.1 S.2.1 d_Sp_numberFor_9 (by decide) ?_
  refine lv_icmp_eq (tgt := 17) S.1 S.2.1 d_Sp_numberFor_11 (by decide) (fun c3 => ?_) (fun c3 => ?_)
  · skip
    have hc := c3
    refine lv_aload_n S.1 S.2.1 d_Sp_numberFor_17 rfl (lv_at hl 1 rfl) ?_
    refine u_get (v := .int (mem 3 9)) S hw 3 (by decide) rfl rfl in_Sp 9 (by decide) lf_Sp_39 rfl d_Sp_numberFor_18 ?_
    refine u_top (y := (nI k)) hsz ?_
    refine lv_sipush (v := (300 : Int32)) S.1 S.2.1 d_Sp_numberFor_21 (by decide) ?_
    refine lv_icmp_ne (tgt := 30) S.1 S.2.1 d_Sp_numberFor_24 (by decide) (fun c4 => ?_) (fun c4 => ?_)
    · skip
      have h3 : k ≠ 300 := fun z => c4 (by rw [z]; rfl)
      refine lv_aload_n S.1 S.2.1 d_Sp_numberFor_30 rfl (lv_at hl 1 rfl) ?_
      refine lv_iload_n S.1 S.2.1 d_Sp_numberFor_31 rfl (lv_at hl 2 rfl) ?_
      refine lv_iload_n S.1 S.2.1 d_Sp_numberFor_32 rfl (lv_at hl 3 rfl) ?_
      refine lv_iload_n S.1 S.2.1 d_Sp_numberFor_33 rfl (lv_at hl 4 rfl) ?_
      refine lv_aload_n S.1 S.2.1 d_Sp_numberFor_34 rfl (lv_at hl 1 rfl) ?_
      refine u_get (v := .ref (G.2.1 7)) S hw 3 (by decide) rfl rfl in_Sp 3 (by decide) lf_Sp_21 rfl d_Sp_numberFor_35 ?_
      refine lv_iload_n S.1 S.2.1 d_Sp_numberFor_38 rfl (lv_at hl 3 rfl) ?_
      refine u_iaN S hw 7 0 (by decide) rfl rfl (j := f) rfl (by omega) (by decide) d_Sp_numberFor_39 ?_
      refine lv_iconst (v := (1 : Int32)) S.1 S.2.1 d_Sp_numberFor_40 (by decide) ?_
      refine lv_iadd S.1 S.2.1 d_Sp_numberFor_41 ?_
      refine u_callv hw (va_runV (As := [.int a0, .int (nI f), .int a2, .int ((mem 7 f) + (1 : Int32))]) (rest := []) S (c_Sp_append l G mem k a0 (nI f) a2 ((mem 7 f) + (1 : Int32)) (by omega) hsz) ⟨u_cB S.2.2.2.2 t_Sp_append ln_Sp lm_Sp_53 hd_Sp_append rfl rfl ⟨Nat.le_of_ble_eq_true rfl, Nat.le_of_ble_eq_true rfl⟩, S.2.2.2.2 _ li_Sp_append, S.2.2.2.2 _ ls_Sp_append⟩ (u_preV hw 3 (by decide) rfl rfl) rfl rfl hl.1 rfl (lv_room (Nat.le_of_ble_eq_true rfl)) d_Sp_numberFor_42 ⟨Nat.zero_le _, Nat.zero_le _⟩) (fun mem5 H locs hp hw => ?_)
      subst hp
      refine lv_aload_n S.1 S.2.1 d_Sp_numberFor_45 rfl (lv_at hl 1 rfl) ?_
      refine u_get (v := .int ((n_Sp_append mem k a0 (nI f) a2 ((mem 7 f) + (1 : Int32))) 3 9)) S hw 3 (by decide) rfl rfl in_Sp 9 (by decide) lf_Sp_39 rfl d_Sp_numberFor_46 ?_
      refine u_top (y := (nI (k + 1))) app_sz ?_
      refine lv_iconst (v := (1 : Int32)) S.1 S.2.1 d_Sp_numberFor_49 (by decide) ?_
      refine lv_isub S.1 S.2.1 d_Sp_numberFor_50 ?_
      refine u_top (y := (nI k)) (nI_pred k) ?_
      exact u_iret S hr hlk hw ⟨fun h => absurd hc h, fun _ h => absurd h h3, fun _ _ => ⟨rfl, rfl⟩⟩ d_Sp_numberFor_51
    · skip
      have h3 : k = 300 := (nI_eq (b := 300) (by omega) (by decide)).mp c4
      refine lv_bipush (v := (-2 : Int32)) S.1 S.2.1 d_Sp_numberFor_27 (by decide) ?_
      exact u_iret S hr hlk hw ⟨fun h => absurd hc h, fun _ _ => ⟨rfl, rfl⟩, fun _ h => absurd h3 h⟩ d_Sp_numberFor_29
  · skip
    have hc := c3
    refine lv_iload S.1 S.2.1 d_Sp_numberFor_14 (lv_at hl 0 rfl) ?_
    exact u_iret S hr hlk hw ⟨fun _ => ⟨rfl, rfl⟩, fun h => absurd h hc, fun h => absurd h hc⟩ d_Sp_numberFor_16
