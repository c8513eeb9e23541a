set_option maxHeartbeats 4000000 in
set_option maxRecDepth 100000 in
theorem c_Av_least (l : Launch) (G : UG) (mem : um_M) (k : Nat) (hk : k ≤ 300) (hsz : mem 3 9 = nI k) : MetX l G y_Av_least b_Av_least 3 (some .int) ({ frames := 1, cells := 0, slots := 0, locals := 20 }) [.ref (G.2.1 13), .ref (G.2.1 3)] mem (fun r mem' => r = (if lst (fun i => decide (mem 14 i = 0)) k < k then nI (lst (fun i => decide (mem 14 i = 0)) k) else (-2 : Int32)) ∧ mem = mem') := by
  refine u_start [.ref (G.2.1 13), .ref (G.2.1 3)] (by decide) (Nat.le_of_ble_eq_true rfl) ?_
  intro p_ e_ s_ m_ bl_ me_ c_ ls S hr hlk hin hl hB
  have hw := uH_start hB
  have hl : lv_has ls 3 [(0, .ref (G.2.1 13)), (1, .ref (G.2.1 3))] := hl
  refine lv_iconst (v := (0 : Int32)) S.1 S.2.1 d_Av_least_0 (by decide) ?_
  refine lv_istore_n (lv' := [(2, .int (0 : Int32)), (0, .ref (G.2.1 13)), (1, .ref (G.2.1 3))]) S.1 S.2.1 d_Av_least_1 rfl hl (by decide) rfl (fun ls hl => ?_)
  refine u_loop (σ := Nat) (fun (x : Nat) (mem_ : um_M) (ls : Array Slot) => match x with | (i) => (i ≤ k) ∧ (∀ j, j < i → (fun i => decide (mem 14 i = 0)) j = false) ∧ mem = mem_ ∧ lv_has ls 3 [(0, .ref (G.2.1 13)), (1, .ref (G.2.1 3)), (2, .int (nI i))]) (fun x => match x with | (i) => k - i) ?_ (0) hw ⟨Nat.zero_le _, lt_zero, rfl, lv_sub hl [1, 2, 0] rfl⟩
  intro i memq H locs ls hw hI ih2
  obtain ⟨hik, hno, rfl, hl⟩ := hI
  dsimp only at ih2
  refine lv_iload_n S.1 S.2.1 d_Av_least_2 rfl (lv_at hl 2 rfl) ?_
  refine lv_aload_n S.1 S.2.1 d_Av_least_3 rfl (lv_at hl 1 rfl) ?_
  refine u_calli hw (va_runV (As := []) (rest := [.int (nI i)]) S (c_Sp_size l G mem ) ⟨u_cB S.2.2.2.2 t_Sp_size ln_Sp lm_Av_26 hd_Sp_size rfl rfl ⟨Nat.le_of_ble_eq_true rfl, Nat.le_of_ble_eq_true rfl⟩, S.2.2.2.2 _ li_Sp_size, S.2.2.2.2 _ ls_Sp_size⟩ (u_preV hw 3 (by decide) rfl rfl) rfl rfl hl.1 rfl (lv_room (Nat.le_of_ble_eq_true rfl)) d_Av_least_4 ⟨Nat.zero_le _, Nat.zero_le _⟩) (fun r2 mem1 H locs hp hw => ?_)
  obtain ⟨hp, rfl⟩ := hp
  refine u_top (y := (s_Sp_size (mem 3 9))) hp ?_
  refine u_top (y := (nI k)) hsz ?_
  refine lv_icmp_ge (tgt := 27) S.1 S.2.1 d_Av_least_7 (by decide) (fun c3 => ?_) (fun c3 => ?_)
  · skip
    have hi2 : i = k := by have q := nle c3 (by omega) (by omega); omega
    have hl0 : lst (fun i => decide (mem 14 i = 0)) k = k := lst_all (fun j hj => hno j (by omega))
    refine lv_bipush (v := (-2 : Int32)) S.1 S.2.1 d_Av_least_27 (by decide) ?_
    exact u_iret S hr hlk hw ⟨by rw [hl0, if_neg (Nat.lt_irrefl _)], rfl⟩ d_Av_least_29
  · skip
    have hi2 : i < k := nlt c3 (by omega) (by omega)
    refine lv_aload_n S.1 S.2.1 d_Av_least_10 rfl (lv_at hl 0 rfl) ?_
    refine u_get (v := .ref (G.2.1 14)) S hw 13 (by decide) rfl rfl in_Av 0 (by decide) lf_Av_9 rfl d_Av_least_11 ?_
    refine lv_iload_n S.1 S.2.1 d_Av_least_14 rfl (lv_at hl 2 rfl) ?_
    refine u_zaN S hw 14 1 (by decide) rfl rfl (j := i) rfl (by omega) (by decide) d_Av_least_15 ?_
    refine lv_if_ne (tgt := 21) S.1 S.2.1 d_Av_least_16 (by decide) (fun c4 => ?_) (fun c4 => ?_)
    · skip
      have hpi : decide (mem 14 i = 0) = false := df c4
      refine lv_iinc (v := (nI (i + 1))) (lv' := [(2, .int (nI (i + 1))), (0, .ref (G.2.1 13)), (1, .ref (G.2.1 3))]) S.1 S.2.1 d_Av_least_21 hl (k := 2) rfl (nI_1 _) (by decide) rfl (fun ls hl => ?_)
      refine lv_goto (tgt := 2) S.1 S.2.1 d_Av_least_24 (by decide) ?_
      exact ih2 (i + 1) _ H locs ls (by omega) hw ⟨hi2, lt_step hno hpi, rfl, lv_sub hl [1, 2, 0] rfl⟩
    · skip
      have hpi : decide (mem 14 i = 0) = true := dt c4
      have hl0 := lst_at (p := (fun i => decide (mem 14 i = 0))) hi2 hpi hno
      refine lv_iload_n S.1 S.2.1 d_Av_least_19 rfl (lv_at hl 2 rfl) ?_
      exact u_iret S hr hlk hw ⟨by rw [hl0, if_pos hi2], rfl⟩ d_Av_least_20
set_option maxHeartbeats 4000000 in
set_option maxRecDepth 100000 in
theorem c_Av_howMany (l : Launch) (G : UG) (mem : um_M) (k : Nat) (hk : k ≤ 300) (hsz : mem 3 9 = nI k) : MetX l G y_Av_howMany b_Av_howMany 4 (some .int) ({ frames := 1, cells := 0, slots := 0, locals := 20 }) [.ref (G.2.1 13), .ref (G.2.1 3)] mem (fun r mem' => r = nI (cnt (fun i => decide (mem 14 i = 0)) k) ∧ mem = mem') := by
  refine u_start [.ref (G.2.1 13), .ref (G.2.1 3)] (by decide) (Nat.le_of_ble_eq_true rfl) ?_
  intro p_ e_ s_ m_ bl_ me_ c_ ls S hr hlk hin hl hB
  have hw := uH_start hB
  have hl : lv_has ls 4 [(0, .ref (G.2.1 13)), (1, .ref (G.2.1 3))] := hl
  refine lv_iconst (v := (0 : Int32)) S.1 S.2.1 d_Av_howMany_0 (by decide) ?_
  refine lv_istore_n (lv' := [(2, .int (0 : Int32)), (0, .ref (G.2.1 13)), (1, .ref (G.2.1 3))]) S.1 S.2.1 d_Av_howMany_1 rfl hl (by decide) rfl (fun ls hl => ?_)
  refine lv_iconst (v := (0 : Int32)) S.1 S.2.1 d_Av_howMany_2 (by decide) ?_
  refine lv_istore_n (lv' := [(3, .int (0 : Int32)), (2, .int (0 : Int32)), (0, .ref (G.2.1 13)), (1, .ref (G.2.1 3))]) S.1 S.2.1 d_Av_howMany_3 rfl hl (by decide) rfl (fun ls hl => ?_)
  refine u_loop (σ := Nat × Nat) (fun (x : Nat × Nat) (mem_ : um_M) (ls : Array Slot) => match x with | (i, a) => (i ≤ k) ∧ (a = cnt (fun i => decide (mem 14 i = 0)) i) ∧ mem = mem_ ∧ lv_has ls 4 [(0, .ref (G.2.1 13)), (1, .ref (G.2.1 3)), (2, .int (nI a)), (3, .int (nI i))]) (fun x => match x with | (i, a) => k - i) ?_ (0, 0) hw ⟨Nat.zero_le _, rfl, rfl, lv_sub hl [2, 3, 1, 0] rfl⟩
  intro x memq H locs ls hw hI ih4
  obtain ⟨i, a⟩ := x
  obtain ⟨hik, ha, rfl, hl⟩ := hI
  dsimp only at ih4
  refine lv_iload_n S.1 S.2.1 d_Av_howMany_4 rfl (lv_at hl 3 rfl) ?_
  refine lv_aload_n S.1 S.2.1 d_Av_howMany_5 rfl (lv_at hl 1 rfl) ?_
  refine u_calli hw (va_runV (As := []) (rest := [.int (nI i)]) S (c_Sp_size l G mem ) ⟨u_cB S.2.2.2.2 t_Sp_size ln_Sp lm_Av_26 hd_Sp_size rfl rfl ⟨Nat.le_of_ble_eq_true rfl, Nat.le_of_ble_eq_true rfl⟩, S.2.2.2.2 _ li_Sp_size, S.2.2.2.2 _ ls_Sp_size⟩ (u_preV hw 3 (by decide) rfl rfl) rfl rfl hl.1 rfl (lv_room (Nat.le_of_ble_eq_true rfl)) d_Av_howMany_6 ⟨Nat.zero_le _, Nat.zero_le _⟩) (fun r2 mem1 H locs hp hw => ?_)
  obtain ⟨hp, rfl⟩ := hp
  refine u_top (y := (s_Sp_size (mem 3 9))) hp ?_
  refine u_top (y := (nI k)) hsz ?_
  refine lv_icmp_ge (tgt := 30) S.1 S.2.1 d_Av_howMany_9 (by decide) (fun c3 => ?_) (fun c3 => ?_)
  · skip
    have hi2 : i = k := by have q := nle c3 (by omega) (by omega); omega
    refine lv_iload_n S.1 S.2.1 d_Av_howMany_30 rfl (lv_at hl 2 rfl) ?_
    exact u_iret S hr hlk hw ⟨by rw [ha, hi2], rfl⟩ d_Av_howMany_31
  · skip
    have hi2 : i < k := nlt c3 (by omega) (by omega)
    refine lv_aload_n S.1 S.2.1 d_Av_howMany_12 rfl (lv_at hl 0 rfl) ?_
    refine u_get (v := .ref (G.2.1 14)) S hw 13 (by decide) rfl rfl in_Av 0 (by decide) lf_Av_9 rfl d_Av_howMany_13 ?_
    refine lv_iload_n S.1 S.2.1 d_Av_howMany_16 rfl (lv_at hl 3 rfl) ?_
    refine u_zaN S hw 14 1 (by decide) rfl rfl (j := i) rfl (by omega) (by decide) d_Av_howMany_17 ?_
    refine lv_if_ne (tgt := 24) S.1 S.2.1 d_Av_howMany_18 (by decide) (fun c4 => ?_) (fun c4 => ?_)
    · skip
      have hpi : decide (mem 14 i = 0) = false := df c4
      refine lv_iinc (v := (nI (i + 1))) (lv' := [(3, .int (nI (i + 1))), (0, .ref (G.2.1 13)), (1, .ref (G.2.1 3)), (2, .int (nI a))]) S.1 S.2.1 d_Av_howMany_24 hl (k := 3) rfl (nI_1 _) (by decide) rfl (fun ls hl => ?_)
      refine lv_goto (tgt := 4) S.1 S.2.1 d_Av_howMany_27 (by decide) ?_
      exact ih4 (i + 1, a) _ H locs ls (by omega) hw ⟨hi2, (by rw [ha, cnt_f hpi]), rfl, lv_sub hl [1, 2, 3, 0] rfl⟩
    · skip
      have hpi : decide (mem 14 i = 0) = true := dt c4
      refine lv_iinc (v := (nI (a + 1))) (lv' := [(2, .int (nI (a + 1))), (0, .ref (G.2.1 13)), (1, .ref (G.2.1 3)), (3, .int (nI i))]) S.1 S.2.1 d_Av_howMany_21 hl (k := 2) rfl (nI_1 _) (by decide) rfl (fun ls hl => ?_)
      refine lv_iinc (v := (nI (i + 1))) (lv' := [(3, .int (nI (i + 1))), (2, .int (nI (a + 1))), (0, .ref (G.2.1 13)), (1, .ref (G.2.1 3))]) S.1 S.2.1 d_Av_howMany_24 hl (k := 3) rfl (nI_1 _) (by decide) rfl (fun ls hl => ?_)
      refine lv_goto (tgt := 4) S.1 S.2.1 d_Av_howMany_27 (by decide) ?_
      exact ih4 (i + 1, a + 1) _ H locs ls (by omega) hw ⟨hi2, (by rw [ha, cnt_t hpi]), rfl, lv_sub hl [2, 3, 1, 0] rfl⟩
def n_Av_ruleOut (mem : um_M) (w s : Nat) : um_M := if mem 14 s = 0 then um_set (um_set (um_set mem 14 s 1) 16 w (nI s)) 13 3 (nI (w + 1)) else mem
set_option maxHeartbeats 4000000 in
set_option maxRecDepth 100000 in
theorem c_Av_ruleOut (l : Launch) (G : UG) (mem : um_M) (w s : Nat) (hs : s < 300) (hw0 : mem 13 3 = nI w) (hwl : mem 14 s = 0 → w < 300) : MetXv l G y_Av_ruleOut b_Av_ruleOut 2 ({ frames := 0, cells := 0, slots := 0, locals := 0 }) [.ref (G.2.1 13), .int (nI s)] mem (fun mem' => n_Av_ruleOut mem w s = mem') := by
  refine u_start [.ref (G.2.1 13), .int (nI s)] (by decide) (Nat.le_of_ble_eq_true rfl) ?_
  intro p_ e_ s_ m_ bl_ me_ c_ ls S hr hlk hin hl hB
  have hw := uH_start hB
  have hl : lv_has ls 2 [(0, .ref (G.2.1 13)), (1, .int (nI s))] := hl
  refine lv_aload_n S.1 S.2.1 d_Av_ruleOut_0 rfl (lv_at hl 0 rfl) ?_
  refine u_get (v := .ref (G.2.1 14)) S hw 13 (by decide) rfl rfl in_Av 0 (by decide) lf_Av_9 rfl d_Av_ruleOut_1 ?_
  refine lv_iload_n S.1 S.2.1 d_Av_ruleOut_4 rfl (lv_at hl 1 rfl) ?_
  refine u_zaN S hw 14 1 (by decide) rfl rfl (j := s) rfl (by omega) (by decide) d_Av_ruleOut_5 ?_
  refine lv_if_ne (tgt := 36) S.1 S.2.1 d_Av_ruleOut_6 (by decide) (fun c1 => ?_) (fun c1 => ?_)
  · skip
    have hc := c1
    exact u_vret S hr hlk hw (by unfold n_Av_ruleOut; rw [if_neg hc]) d_Av_ruleOut_36
  · skip
    have hc := c1
    have hwl := hwl hc
    refine lv_aload_n S.1 S.2.1 d_Av_ruleOut_9 rfl (lv_at hl 0 rfl) ?_
    refine u_get (v := .ref (G.2.1 14)) S hw 13 (by decide) rfl rfl in_Av 0 (by decide) lf_Av_9 rfl d_Av_ruleOut_10 ?_
    refine lv_iload_n S.1 S.2.1 d_Av_ruleOut_13 rfl (lv_at hl 1 rfl) ?_
    refine lv_iconst (v := (1 : Int32)) S.1 S.2.1 d_Av_ruleOut_14 (by decide) ?_
    refine u_zsN S hw 14 1 (by decide) (fun _ => rfl) rfl (j := s) rfl (by omega) (by decide) (by decide) d_Av_ruleOut_15 (fun H locs hw => ?_)
    refine lv_aload_n S.1 S.2.1 d_Av_ruleOut_16 rfl (lv_at hl 0 rfl) ?_
    refine u_get (v := .ref (G.2.1 16)) S hw 13 (by decide) rfl rfl in_Av 2 (by decide) lf_Av_19 rfl d_Av_ruleOut_17 ?_
    refine lv_aload_n S.1 S.2.1 d_Av_ruleOut_20 rfl (lv_at hl 0 rfl) ?_
    refine u_get (v := .int (mem 13 3)) S hw 13 (by decide) rfl rfl in_Av 3 (by decide) lf_Av_22 rfl d_Av_ruleOut_21 ?_
    refine u_top (y := (nI w)) hw0 ?_
    refine lv_iload_n S.1 S.2.1 d_Av_ruleOut_24 rfl (lv_at hl 1 rfl) ?_
    refine u_isN S hw 16 0 (by decide) (fun _ => rfl) rfl (j := w) rfl (by omega) (by decide) d_Av_ruleOut_25 (fun H locs hw => ?_)
    refine lv_aload_n S.1 S.2.1 d_Av_ruleOut_26 rfl (lv_at hl 0 rfl) ?_
    refine lv_dup S.1 S.2.1 d_Av_ruleOut_27 rfl ?_
    refine u_get (v := .int (mem 13 3)) S hw 13 (by decide) rfl rfl in_Av 3 (by decide) lf_Av_22 rfl d_Av_ruleOut_28 ?_
    refine u_top (y := (nI w)) hw0 ?_
    refine lv_iconst (v := (1 : Int32)) S.1 S.2.1 d_Av_ruleOut_31 (by decide) ?_
    refine lv_iadd S.1 S.2.1 d_Av_ruleOut_32 ?_
    refine u_top (y := (nI (w + 1))) (nI_add w 1) ?_
    refine u_put S hw 13 (by decide) rfl rfl in_Av ty_Av tk_Av nm_Av 3 (by decide) lf_Av_22 rfl rfl rfl rfl (Nat.le_of_ble_eq_true rfl) rfl d_Av_ruleOut_33 (fun H locs hw => ?_)
    exact u_vret S hr hlk hw (by unfold n_Av_ruleOut; rw [if_pos hc]) d_Av_ruleOut_36
set_option maxHeartbeats 4000000 in
set_option maxRecDepth 100000 in
theorem c_Mo_openIn (l : Launch) (G : UG) (mem : um_M) (a0 : Int32) (n : Nat) (hn : n ≤ 24) (hnn : mem 0 7 = nI n) : MetM l G y_Mo_openIn b_Mo_openIn 4 (some .int) ({ frames := 2, cells := 0, slots := 0, locals := 46 }) [.ref (G.2.1 0), .int a0] mem (fun r mem' => r = nI (cnt (fun i => decide (¬ s_Mo_isOpen (mem 1 i) (mem 2 i) (mem 4 i) a0 = 0)) n) ∧ mem = mem') := by
  refine u_start [.ref (G.2.1 0), .int a0] (by decide) (Nat.le_of_ble_eq_true rfl) ?_
  intro p_ e_ s_ m_ bl_ me_ c_ ls S hr hlk hin hl hB
  have hw := uH_start hB
  have hl : lv_has ls 4 [(0, .ref (G.2.1 0)), (1, .int a0)] := hl
  refine lv_iconst (v := (0 : Int32)) S.1 S.2.1 d_Mo_openIn_0 (by decide) ?_
  refine lv_istore_n (lv' := [(2, .int (0 : Int32)), (0, .ref (G.2.1 0)), (1, .int a0)]) S.1 S.2.1 d_Mo_openIn_1 rfl hl (by decide) rfl (fun ls hl => ?_)
  refine lv_iconst (v := (0 : Int32)) S.1 S.2.1 d_Mo_openIn_2 (by decide) ?_
  refine lv_istore_n (lv' := [(3, .int (0 : Int32)), (2, .int (0 : Int32)), (0, .ref (G.2.1 0)), (1, .int a0)]) S.1 S.2.1 d_Mo_openIn_3 rfl hl (by decide) rfl (fun ls hl => ?_)
  refine u_loop (σ := Nat × Nat) (fun (x : Nat × Nat) (mem_ : um_M) (ls : Array Slot) => match x with | (i, a) => (i ≤ n) ∧ (a = cnt (fun i => decide (¬ s_Mo_isOpen (mem 1 i) (mem 2 i) (mem 4 i) a0 = 0)) i) ∧ mem = mem_ ∧ lv_has ls 4 [(0, .ref (G.2.1 0)), (1, .int a0), (2, .int (nI a)), (3, .int (nI i))]) (fun x => match x with | (i, a) => n - i) ?_ (0, 0) hw ⟨Nat.zero_le _, rfl, rfl, lv_sub hl [2, 3, 1, 0] rfl⟩
  intro x memq H locs ls hw hI ih4
  obtain ⟨i, a⟩ := x
  obtain ⟨hik, ha, rfl, hl⟩ := hI
  dsimp only at ih4
  refine lv_iload_n S.1 S.2.1 d_Mo_openIn_4 rfl (lv_at hl 3 rfl) ?_
  refine lv_aload_n S.1 S.2.1 d_Mo_openIn_5 rfl (lv_at hl 0 rfl) ?_
  refine u_get (v := .int (mem 0 7)) S hw 0 (by decide) rfl rfl in_Mo 7 (by decide) lf_Mo_77 rfl d_Mo_openIn_6 ?_
  refine u_top (y := (nI n)) hnn ?_
  refine lv_icmp_ge (tgt := 30) S.1 S.2.1 d_Mo_openIn_9 (by decide) (fun c1 => ?_) (fun c1 => ?_)
  · skip
    have hi2 : i = n := by have q := nle c1 (by omega) (by omega); omega
    refine lv_iload_n S.1 S.2.1 d_Mo_openIn_30 rfl (lv_at hl 2 rfl) ?_
    exact u_iret S hr hlk hw ⟨by rw [ha, hi2], rfl⟩ d_Mo_openIn_31
  · skip
    have hi2 : i < n := nlt c1 (by omega) (by omega)
    refine lv_aload_n S.1 S.2.1 d_Mo_openIn_12 rfl (lv_at hl 0 rfl) ?_
    refine lv_iload_n S.1 S.2.1 d_Mo_openIn_13 rfl (lv_at hl 1 rfl) ?_
    refine lv_iload_n S.1 S.2.1 d_Mo_openIn_14 rfl (lv_at hl 3 rfl) ?_
    refine u_calli hw (va_runV (As := [.int a0, .int (nI i)]) (rest := []) S (c_Mo_isOpen l G mem a0 i (by omega)) ⟨u_cB S.2.2.2.2 t_Mo_isOpen ln_Mo lm_Mo_80 hd_Mo_isOpen rfl rfl ⟨Nat.le_of_ble_eq_true rfl, Nat.le_of_ble_eq_true rfl⟩, S.2.2.2.2 _ li_Mo_isOpen, S.2.2.2.2 _ ls_Mo_isOpen⟩ (u_preV hw 0 (by decide) rfl rfl) rfl rfl hl.1 rfl (lv_room (Nat.le_of_ble_eq_true rfl)) d_Mo_openIn_15 ⟨Nat.zero_le _, Nat.zero_le _⟩) (fun r3 mem2 H locs hp hw => ?_)
    obtain ⟨hp, rfl⟩ := hp
    refine u_top (y := (s_Mo_isOpen (mem 1 i) (mem 2 i) (mem 4 i) a0)) hp ?_
    refine lv_if_eq (tgt := 24) S.1 S.2.1 d_Mo_openIn_18 (by decide) (fun c4 => ?_) (fun c4 => ?_)
    · skip
      have hpi : decide (¬ s_Mo_isOpen (mem 1 i) (mem 2 i) (mem 4 i) a0 = 0) = false := df (fun h => h c4)
      refine lv_iinc (v := (nI (i + 1))) (lv' := [(3, .int (nI (i + 1))), (0, .ref (G.2.1 0)), (1, .int a0), (2, .int (nI a))]) S.1 S.2.1 d_Mo_openIn_24 hl (k := 3) rfl (nI_1 _) (by decide) rfl (fun ls hl => ?_)
      refine lv_goto (tgt := 4) S.1 S.2.1 d_Mo_openIn_27 (by decide) ?_
      exact ih4 (i + 1, a) _ H locs ls (by omega) hw ⟨hi2, (by rw [ha, cnt_f hpi]), rfl, lv_sub hl [1, 2, 3, 0] rfl⟩
    · skip
      have hpi : decide (¬ s_Mo_isOpen (mem 1 i) (mem 2 i) (mem 4 i) a0 = 0) = true := dt c4
      refine lv_iinc (v := (nI (a + 1))) (lv' := [(2, .int (nI (a + 1))), (0, .ref (G.2.1 0)), (1, .int a0), (3, .int (nI i))]) S.1 S.2.1 d_Mo_openIn_21 hl (k := 2) rfl (nI_1 _) (by decide) rfl (fun ls hl => ?_)
      refine lv_iinc (v := (nI (i + 1))) (lv' := [(3, .int (nI (i + 1))), (2, .int (nI (a + 1))), (0, .ref (G.2.1 0)), (1, .int a0)]) S.1 S.2.1 d_Mo_openIn_24 hl (k := 3) rfl (nI_1 _) (by decide) rfl (fun ls hl => ?_)
      refine lv_goto (tgt := 4) S.1 S.2.1 d_Mo_openIn_27 (by decide) ?_
      exact ih4 (i + 1, a + 1) _ H locs ls (by omega) hw ⟨hi2, (by rw [ha, cnt_t hpi]), rfl, lv_sub hl [2, 3, 1, 0] rfl⟩
def mOC (mem : um_M) (n : Nat) (a0 : Int32) : Nat := cnt (fun i => decide (¬ s_Mo_isOpen (mem 1 i) (mem 2 i) (mem 4 i) a0 = 0)) n
theorem mOC_le (mem : um_M) (n : Nat) (a0 : Int32) : mOC mem n a0 ≤ n := cnt_le _ _
set_option maxHeartbeats 4000000 in
set_option maxRecDepth 100000 in
theorem c_Mo_find (l : Launch) (G : UG) (mem : um_M) (a0 : Int32) (k : Nat) (hk : k ≤ 300) (hkk : mem 0 17 = nI k) : MetM l G y_Mo_find b_Mo_find 3 (some .int) ({ frames := 0, cells := 0, slots := 0, locals := 0 }) [.ref (G.2.1 0), .int a0] mem (fun r mem' => r = (if lst (fun i => decide (mem 8 i = a0)) k < k then nI (lst (fun i => decide (mem 8 i = a0)) k) else (-1 : Int32)) ∧ mem = mem') := by
  refine u_start [.ref (G.2.1 0), .int a0] (by decide) (Nat.le_of_ble_eq_true rfl) ?_
  intro p_ e_ s_ m_ bl_ me_ c_ ls S hr hlk hin hl hB
  have hw := uH_start hB
  have hl : lv_has ls 3 [(0, .ref (G.2.1 0)), (1, .int a0)] := hl
  refine lv_iconst (v := (0 : Int32)) S.1 S.2.1 d_Mo_find_0 (by decide) ?_
  refine lv_istore_n (lv' := [(2, .int (0 : Int32)), (0, .ref (G.2.1 0)), (1, .int a0)]) S.1 S.2.1 d_Mo_find_1 rfl hl (by decide) rfl (fun ls hl => ?_)
  refine u_loop (σ := Nat) (fun (x : Nat) (mem_ : um_M) (ls : Array Slot) => match x with | (i) => (i ≤ k) ∧ (∀ j, j < i → (fun i => decide (mem 8 i = a0)) j = false) ∧ mem = mem_ ∧ lv_has ls 3 [(0, .ref (G.2.1 0)), (1, .int a0), (2, .int (nI i))]) (fun x => match x with | (i) => k - i) ?_ (0) hw ⟨Nat.zero_le _, lt_zero, rfl, lv_sub hl [1, 2, 0] rfl⟩
  intro i memq H locs ls hw hI ih2
  obtain ⟨hik, hno, rfl, hl⟩ := hI
  dsimp only at ih2
  refine lv_iload_n S.1 S.2.1 d_Mo_find_2 rfl (lv_at hl 2 rfl) ?_
  refine lv_aload_n S.1 S.2.1 d_Mo_find_3 rfl (lv_at hl 0 rfl) ?_
  refine u_get (v := .int (mem 0 17)) S hw 0 (by decide) rfl rfl in_Mo 17 (by decide) lf_Mo_106 rfl d_Mo_find_4 ?_
  refine u_top (y := (nI k)) hkk ?_
  refine lv_icmp_ge (tgt := 28) S.1 S.2.1 d_Mo_find_7 (by decide) (fun c1 => ?_) (fun c1 => ?_)
  · skip
    have hi2 : i = k := by have q := nle c1 (by omega) (by omega); omega
    have hl0 : lst (fun i => decide (mem 8 i = a0)) k = k := lst_all (fun j hj => hno j (by omega))
    refine lv_iconst (v := (-1 : Int32)) S.1 S.2.1 d_Mo_find_28 (by decide) ?_
    exact u_iret S hr hlk hw ⟨by rw [hl0, if_neg (Nat.lt_irrefl _)], rfl⟩ d_Mo_find_29
  · skip
    have hi2 : i < k := nlt c1 (by omega) (by omega)
    refine lv_aload_n S.1 S.2.1 d_Mo_find_10 rfl (lv_at hl 0 rfl) ?_
    refine u_get (v := .ref (G.2.1 8)) S hw 0 (by decide) rfl rfl in_Mo 12 (by decide) lf_Mo_31 rfl d_Mo_find_11 ?_
    refine lv_iload_n S.1 S.2.1 d_Mo_find_14 rfl (lv_at hl 2 rfl) ?_
    refine u_iaN S hw 8 0 (by decide) rfl rfl (j := i) rfl (by omega) (by decide) d_Mo_find_15 ?_
    refine lv_iload_n S.1 S.2.1 d_Mo_find_16 rfl (lv_at hl 1 rfl) ?_
    refine lv_icmp_ne (tgt := 22) S.1 S.2.1 d_Mo_find_17 (by decide) (fun c2 => ?_) (fun c2 => ?_)
    · skip
      have hpi : decide (mem 8 i = a0) = false := df c2
      refine lv_iinc (v := (nI (i + 1))) (lv' := [(2, .int (nI (i + 1))), (0, .ref (G.2.1 0)), (1, .int a0)]) S.1 S.2.1 d_Mo_find_22 hl (k := 2) rfl (nI_1 _) (by decide) rfl (fun ls hl => ?_)
      refine lv_goto (tgt := 2) S.1 S.2.1 d_Mo_find_25 (by decide) ?_
      exact ih2 (i + 1) _ H locs ls (by omega) hw ⟨hi2, lt_step hno hpi, rfl, lv_sub hl [1, 2, 0] rfl⟩
    · skip
      have hpi : decide (mem 8 i = a0) = true := dt c2
      have hl0 := lst_at (p := (fun i => decide (mem 8 i = a0))) hi2 hpi hno
      refine lv_iload_n S.1 S.2.1 d_Mo_find_20 rfl (lv_at hl 2 rfl) ?_
      exact u_iret S hr hlk hw ⟨by rw [hl0, if_pos hi2], rfl⟩ d_Mo_find_21
def mFind (st : Nat → Int32) (k : Nat) (a0 : Int32) : Int32 := if lst (fun i => decide (st i = a0)) k < k then nI (lst (fun i => decide (st i = a0)) k) else (-1 : Int32)
theorem mi_t {a : Int32} {n : Nat} (hn : n < 2 ^ 30) (h : ¬ s_Mo_in a 0 (nI n - 1) = 0) : ∃ i, i < n ∧ a = nI i := by
  unfold s_Mo_in at h
  by_cases h1 : a < 0
  · rw [if_pos h1] at h; exact absurd rfl h
  · rw [if_neg h1] at h
    by_cases h2 : nI n - 1 < a
    · rw [if_pos h2] at h; exact absurd rfl h
    · obtain ⟨j, hj, rfl⟩ := nI_of h1
      refine ⟨j, ?_, rfl⟩
      have h3 : (nI n - nI 1).toInt = (n : Int) - 1 := pk_sub_toInt hn (by decide)
      have h4 : ¬ (nI n - nI 1) < nI j := h2
      rw [Int32.lt_iff_toInt_lt, h3, nI_toInt hj] at h4
      omega
theorem mi_f {a : Int32} {n : Nat} (hn : n < 2 ^ 30) (h : s_Mo_in a 0 (nI n - 1) = 0) (i : Nat) (hi : i < n) : a ≠ nI i := by
  rintro rfl
  unfold s_Mo_in at h
  have h3 : (nI n - nI 1).toInt = (n : Int) - 1 := pk_sub_toInt hn (by decide)
  have h4 : ¬ (nI n - 1) < nI i := by
    show ¬ (nI n - nI 1) < nI i
    rw [Int32.lt_iff_toInt_lt, h3, nI_toInt (by omega)]
    omega
  rw [if_neg (nI_pos (by omega)), if_neg h4] at h
  exact absurd h (by decide)
set_option maxHeartbeats 4000000 in
set_option maxRecDepth 100000 in
theorem c_Mo_fails (l : Launch) (G : UG) (mem : um_M) (a0 : Int32) (c : Nat) (hc : c ≤ 6) (hcc : mem 0 8 = nI c) (k : Nat) (hk : k ≤ 300) (hkk : mem 0 17 = nI k) : MetM l G y_Mo_fails b_Mo_fails 3 (some .int) ({ frames := 2, cells := 0, slots := 0, locals := 45 }) [.ref (G.2.1 0), .int a0] mem (fun r mem' => (mem 0 18 = 0 → r = -2) ∧ ((∀ i, i < c → a0 ≠ nI i) → r = -2) ∧ (¬ mem 0 18 = 0 → ∀ t, t < c → a0 = nI t → r = (if lst (fun i => decide (¬ s_Mo_failsIn (mem 5 t) (mem 6 t) (mem 7 t) (mem 8 i) = 0)) k < k then nI (lst (fun i => decide (¬ s_Mo_failsIn (mem 5 t) (mem 6 t) (mem 7 t) (mem 8 i) = 0)) k) else (-2 : Int32))) ∧ mem = mem') := by
  refine u_start [.ref (G.2.1 0), .int a0] (by decide) (Nat.le_of_ble_eq_true rfl) ?_
  intro p_ e_ s_ m_ bl_ me_ c_ ls S hr hlk hin hl hB
  have hw := uH_start hB
  have hl : lv_has ls 3 [(0, .ref (G.2.1 0)), (1, .int a0)] := hl
  refine lv_aload_n S.1 S.2.1 d_Mo_fails_0 rfl (lv_at hl 0 rfl) ?_
  refine u_get (v := .int (mem 0 18)) S hw 0 (by decide) rfl rfl in_Mo 18 (by decide) lf_Mo_91 rfl d_Mo_fails_1 ?_
  refine lv_if_eq (tgt := 21) S.1 S.2.1 d_Mo_fails_4 (by decide) (fun c1 => ?_) (fun c1 => ?_)
  · skip
    have h18 := c1
    refine lv_bipush (v := (-2 : Int32)) S.1 S.2.1 d_Mo_fails_21 (by decide) ?_
    exact u_iret S hr hlk hw ⟨fun _ => rfl, fun _ => rfl, fun h => absurd h18 h, rfl⟩ d_Mo_fails_23
  · skip
    have h18 := c1
    refine lv_iload_n S.1 S.2.1 d_Mo_fails_7 rfl (lv_at hl 1 rfl) ?_
    refine lv_iconst (v := (0 : Int32)) S.1 S.2.1 d_Mo_fails_8 (by decide) ?_
    refine lv_aload_n S.1 S.2.1 d_Mo_fails_9 rfl (lv_at hl 0 rfl) ?_
    refine u_get (v := .int (mem 0 8)) S hw 0 (by decide) rfl rfl in_Mo 8 (by decide) lf_Mo_103 rfl d_Mo_fails_10 ?_
    refine u_top (y := (nI c)) hcc ?_
    refine lv_iconst (v := (1 : Int32)) S.1 S.2.1 d_Mo_fails_13 (by decide) ?_
    refine lv_isub S.1 S.2.1 d_Mo_fails_14 ?_
    refine u_callp hw (va_runS (As := [.int a0, .int (0 : Int32), .int ((nI c) - (1 : Int32))]) (rest := []) S (c_Mo_in l a0 (0 : Int32) ((nI c) - (1 : Int32))) ⟨u_cB S.2.2.2.2 t_Mo_in ln_Mo lm_Mo_84 hd_Mo_in rfl rfl ⟨Nat.le_of_ble_eq_true rfl, Nat.le_of_ble_eq_true rfl⟩, S.2.2.2.2 _ lt_Mo_in⟩ (u_preP hw.1.2) rfl rfl hl.1 rfl (lv_room (Nat.le_of_ble_eq_true rfl)) d_Mo_fails_15 ⟨Nat.zero_le _, Nat.zero_le _⟩) (fun r H locs hp hw => ?_)
    refine u_top (y := (s_Mo_in a0 (0 : Int32) ((nI c) - (1 : Int32)))) hp ?_
    refine lv_if_ne (tgt := 24) S.1 S.2.1 d_Mo_fails_18 (by decide) (fun c2 => ?_) (fun c2 => ?_)
    · skip
      obtain ⟨t, ht, rfl⟩ := mi_t (by omega) c2
      refine lv_iconst (v := (0 : Int32)) S.1 S.2.1 d_Mo_fails_24 (by decide) ?_
      refine lv_istore_n (lv' := [(2, .int (0 : Int32)), (0, .ref (G.2.1 0)), (1, .int (nI t))]) S.1 S.2.1 d_Mo_fails_25 rfl hl (by decide) rfl (fun ls hl => ?_)
      refine u_loop (σ := Nat) (fun (x : Nat) (mem_ : um_M) (ls : Array Slot) => match x with | (i) => (i ≤ k) ∧ (∀ j, j < i → (fun i => decide (¬ s_Mo_failsIn (mem 5 t) (mem 6 t) (mem 7 t) (mem 8 i) = 0)) j = false) ∧ mem = mem_ ∧ lv_has ls 3 [(0, .ref (G.2.1 0)), (1, .int (nI t)), (2, .int (nI i))]) (fun x => match x with | (i) => k - i) ?_ (0) hw ⟨Nat.zero_le _, lt_zero, rfl, lv_sub hl [1, 2, 0] rfl⟩
      intro i memq H locs ls hw hI ih26
      obtain ⟨hik, hno, rfl, hl⟩ := hI
      dsimp only at ih26
      refine lv_iload_n S.1 S.2.1 d_Mo_fails_26 rfl (lv_at hl 2 rfl) ?_
      refine lv_aload_n S.1 S.2.1 d_Mo_fails_27 rfl (lv_at hl 0 rfl) ?_
      refine u_get (v := .int (mem 0 17)) S hw 0 (by decide) rfl rfl in_Mo 17 (by decide) lf_Mo_106 rfl d_Mo_fails_28 ?_
      refine u_top (y := (nI k)) hkk ?_
      refine lv_icmp_ge (tgt := 56) S.1 S.2.1 d_Mo_fails_31 (by decide) (fun c3 => ?_) (fun c3 => ?_)
      · skip
        have hi2 : i = k := by have q := nle c3 (by omega) (by omega); omega
        have hl0 : lst (fun i => decide (¬ s_Mo_failsIn (mem 5 t) (mem 6 t) (mem 7 t) (mem 8 i) = 0)) k = k := lst_all (fun j hj => hno j (by omega))
        refine lv_bipush (v := (-2 : Int32)) S.1 S.2.1 d_Mo_fails_56 (by decide) ?_
        exact u_iret S hr hlk hw ⟨fun h => absurd h h18, fun h => absurd rfl (h t ht), fun _ t' ht' h => by rw [← (nI_eq (by omega) (by omega)).mp h, hl0, if_neg (Nat.lt_irrefl _)], rfl⟩ d_Mo_fails_58
      · skip
        have hi2 : i < k := nlt c3 (by omega) (by omega)
        refine lv_aload_n S.1 S.2.1 d_Mo_fails_34 rfl (lv_at hl 0 rfl) ?_
        refine lv_iload_n S.1 S.2.1 d_Mo_fails_35 rfl (lv_at hl 1 rfl) ?_
        refine lv_aload_n S.1 S.2.1 d_Mo_fails_36 rfl (lv_at hl 0 rfl) ?_
        refine u_get (v := .ref (G.2.1 8)) S hw 0 (by decide) rfl rfl in_Mo 12 (by decide) lf_Mo_31 rfl d_Mo_fails_37 ?_
        refine lv_iload_n S.1 S.2.1 d_Mo_fails_40 rfl (lv_at hl 2 rfl) ?_
        refine u_iaN S hw 8 0 (by decide) rfl rfl (j := i) rfl (by omega) (by decide) d_Mo_fails_41 ?_
        refine u_calli hw (va_runV (As := [.int (nI t), .int (mem 8 i)]) (rest := []) S (c_Mo_failsIn l G mem t (mem 8 i) (by omega)) ⟨u_cB S.2.2.2.2 t_Mo_failsIn ln_Mo lm_Mo_115 hd_Mo_failsIn rfl rfl ⟨Nat.le_of_ble_eq_true rfl, Nat.le_of_ble_eq_true rfl⟩, S.2.2.2.2 _ li_Mo_failsIn, S.2.2.2.2 _ ls_Mo_failsIn⟩ (u_preV hw 0 (by decide) rfl rfl) rfl rfl hl.1 rfl (lv_room (Nat.le_of_ble_eq_true rfl)) d_Mo_fails_42 ⟨Nat.zero_le _, Nat.zero_le _⟩) (fun r5 mem4 H locs hp hw => ?_)
        obtain ⟨hp, rfl⟩ := hp
        refine u_top (y := (s_Mo_failsIn (mem 5 t) (mem 6 t) (mem 7 t) (mem 8 i))) hp ?_
        refine lv_if_eq (tgt := 50) S.1 S.2.1 d_Mo_fails_45 (by decide) (fun c6 => ?_) (fun c6 => ?_)
        · skip
          have hpi : decide (¬ s_Mo_failsIn (mem 5 t) (mem 6 t) (mem 7 t) (mem 8 i) = 0) = false := df (fun h => h c6)
          refine lv_iinc (v := (nI (i + 1))) (lv' := [(2, .int (nI (i + 1))), (0, .ref (G.2.1 0)), (1, .int (nI t))]) S.1 S.2.1 d_Mo_fails_50 hl (k := 2) rfl (nI_1 _) (by decide) rfl (fun ls hl => ?_)
          refine lv_goto (tgt := 26) S.1 S.2.1 d_Mo_fails_53 (by decide) ?_
          exact ih26 (i + 1) _ H locs ls (by omega) hw ⟨hi2, lt_step hno hpi, rfl, lv_sub hl [1, 2, 0] rfl⟩
        · skip
          have hl0 := lst_at (p := (fun i => decide (¬ s_Mo_failsIn (mem 5 t) (mem 6 t) (mem 7 t) (mem 8 i) = 0))) hi2 (dt c6) hno
          refine lv_iload_n S.1 S.2.1 d_Mo_fails_48 rfl (lv_at hl 2 rfl) ?_
          exact u_iret S hr hlk hw ⟨fun h => absurd h h18, fun h => absurd rfl (h t ht), fun _ t' ht' h => by rw [← (nI_eq (by omega) (by omega)).mp h, hl0, if_pos hi2], rfl⟩ d_Mo_fails_49
    · skip
      have hno := mi_f (by omega) c2
      refine lv_bipush (v := (-2 : Int32)) S.1 S.2.1 d_Mo_fails_21 (by decide) ?_
      exact u_iret S hr hlk hw ⟨fun _ => rfl, fun _ => rfl, fun _ t ht h => absurd h (hno t ht), rfl⟩ d_Mo_fails_23
set_option maxHeartbeats 4000000 in
set_option maxRecDepth 100000 in
theorem c_Mo_stuck (l : Launch) (G : UG) (mem : um_M) (a0 : Int32) (n : Nat) (hn : n ≤ 24) (hnn : mem 0 7 = nI n) (k : Nat) (hk : k ≤ 300) (hkk : mem 0 17 = nI k) : MetM l G y_Mo_stuck b_Mo_stuck 3 (some .int) ({ frames := 3, cells := 0, slots := 0, locals := 69 }) [.ref (G.2.1 0), .int a0] mem (fun r mem' => (mem 0 18 = 0 → r = -2) ∧ (¬ mem 0 18 = 0 → r = (if lst (fun i => decide (mOC mem n (mem 8 i) = 0 ∧ s_Mo_isDone (mem 8 i) = a0)) k < k then nI (lst (fun i => decide (mOC mem n (mem 8 i) = 0 ∧ s_Mo_isDone (mem 8 i) = a0)) k) else (-2 : Int32))) ∧ mem = mem') := by
  refine u_start [.ref (G.2.1 0), .int a0] (by decide) (Nat.le_of_ble_eq_true rfl) ?_
  intro p_ e_ s_ m_ bl_ me_ c_ ls S hr hlk hin hl hB
  have hw := uH_start hB
  have hl : lv_has ls 3 [(0, .ref (G.2.1 0)), (1, .int a0)] := hl
  refine lv_iconst (v := (0 : Int32)) S.1 S.2.1 d_Mo_stuck_0 (by decide) ?_
  refine lv_istore_n (lv' := [(2, .int (0 : Int32)), (0, .ref (G.2.1 0)), (1, .int a0)]) S.1 S.2.1 d_Mo_stuck_1 rfl hl (by decide) rfl (fun ls hl => ?_)
  refine u_loop (σ := Nat) (fun (x : Nat) (mem_ : um_M) (ls : Array Slot) => match x with | (i) => (i ≤ k) ∧ (∀ j, j < i → (fun i => decide (mOC mem n (mem 8 i) = 0 ∧ s_Mo_isDone (mem 8 i) = a0)) j = false) ∧ mem = mem_ ∧ lv_has ls 3 [(0, .ref (G.2.1 0)), (1, .int a0), (2, .int (nI i))]) (fun x => match x with | (i) => k - i) ?_ (0) hw ⟨Nat.zero_le _, lt_zero, rfl, lv_sub hl [1, 2, 0] rfl⟩
  intro i memq H locs ls hw hI ih2
  obtain ⟨hik, hno, rfl, hl⟩ := hI
  dsimp only at ih2
  refine lv_iload_n S.1 S.2.1 d_Mo_stuck_2 rfl (lv_at hl 2 rfl) ?_
  refine lv_aload_n S.1 S.2.1 d_Mo_stuck_3 rfl (lv_at hl 0 rfl) ?_
  refine u_get (v := .int (mem 0 17)) S hw 0 (by decide) rfl rfl in_Mo 17 (by decide) lf_Mo_106 rfl d_Mo_stuck_4 ?_
  refine u_top (y := (nI k)) hkk ?_
  refine lv_icmp_ge (tgt := 51) S.1 S.2.1 d_Mo_stuck_7 (by decide) (fun c1 => ?_) (fun c1 => ?_)
  · skip
    have hi2 : i = k := by have q := nle c1 (by omega) (by omega); omega
    have hl0 : lst (fun i => decide (mOC mem n (mem 8 i) = 0 ∧ s_Mo_isDone (mem 8 i) = a0)) k = k := lst_all (fun j hj => hno j (by omega))
    refine lv_bipush (v := (-2 : Int32)) S.1 S.2.1 d_Mo_stuck_51 (by decide) ?_
    exact u_iret S hr hlk hw ⟨fun _ => rfl, fun _ => by rw [hl0, if_neg (Nat.lt_irrefl _)], rfl⟩ d_Mo_stuck_53
  · skip
    have hi2 : i < k := nlt c1 (by omega) (by omega)
    refine lv_aload_n S.1 S.2.1 d_Mo_stuck_10 rfl (lv_at hl 0 rfl) ?_
    refine u_get (v := .int (mem 0 18)) S hw 0 (by decide) rfl rfl in_Mo 18 (by decide) lf_Mo_91 rfl d_Mo_stuck_11 ?_
    refine lv_if_eq (tgt := 51) S.1 S.2.1 d_Mo_stuck_14 (by decide) (fun c2 => ?_) (fun c2 => ?_)
    · skip
      have h18 := c2
      refine lv_bipush (v := (-2 : Int32)) S.1 S.2.1 d_Mo_stuck_51 (by decide) ?_
      exact u_iret S hr hlk hw ⟨fun _ => rfl, fun h => absurd h18 h, rfl⟩ d_Mo_stuck_53
    · skip
      have h18 := c2
      refine lv_aload_n S.1 S.2.1 d_Mo_stuck_17 rfl (lv_at hl 0 rfl) ?_
      refine lv_aload_n S.1 S.2.1 d_Mo_stuck_18 rfl (lv_at hl 0 rfl) ?_
      refine u_get (v := .ref (G.2.1 8)) S hw 0 (by decide) rfl rfl in_Mo 12 (by decide) lf_Mo_31 rfl d_Mo_stuck_19 ?_
      refine lv_iload_n S.1 S.2.1 d_Mo_stuck_22 rfl (lv_at hl 2 rfl) ?_
      refine u_iaN S hw 8 0 (by decide) rfl rfl (j := i) rfl (by omega) (by decide) d_Mo_stuck_23 ?_
      refine u_calli hw (va_runV (As := [.int (mem 8 i)]) (rest := []) S (c_Mo_openIn l G mem (mem 8 i) n hn hnn) ⟨u_cB S.2.2.2.2 t_Mo_openIn ln_Mo lm_Mo_118 hd_Mo_openIn rfl rfl ⟨Nat.le_of_ble_eq_true rfl, Nat.le_of_ble_eq_true rfl⟩, S.2.2.2.2 _ li_Mo_openIn, S.2.2.2.2 _ ls_Mo_openIn⟩ (u_preV hw 0 (by decide) rfl rfl) rfl rfl hl.1 rfl (lv_room (Nat.le_of_ble_eq_true rfl)) d_Mo_stuck_24 ⟨Nat.zero_le _, Nat.zero_le _⟩) (fun r4 mem3 H locs hp hw => ?_)
      obtain ⟨hp, rfl⟩ := hp
      refine u_top (y := (nI (mOC mem n (mem 8 i)))) hp ?_
      refine lv_if_ne (tgt := 45) S.1 S.2.1 d_Mo_stuck_27 (by decide) (fun c5 => ?_) (fun c5 => ?_)
      · skip
        have hm : ¬ mOC mem n (mem 8 i) = 0 := fun h => c5 (by rw [h]; rfl)
        have hpi : decide (mOC mem n (mem 8 i) = 0 ∧ s_Mo_isDone (mem 8 i) = a0) = false := df (fun h => hm h.1)
        refine lv_iinc (v := (nI (i + 1))) (lv' := [(2, .int (nI (i + 1))), (0, .ref (G.2.1 0)), (1, .int a0)]) S.1 S.2.1 d_Mo_stuck_45 hl (k := 2) rfl (nI_1 _) (by decide) rfl (fun ls hl => ?_)
        refine lv_goto (tgt := 2) S.1 S.2.1 d_Mo_stuck_48 (by decide) ?_
        exact ih2 (i + 1) _ H locs ls (by omega) hw ⟨hi2, lt_step hno hpi, rfl, lv_sub hl [1, 2, 0] rfl⟩
      · skip
        have hm : mOC mem n (mem 8 i) = 0 := (nI_eq (by have := cnt_le (fun i => decide (¬ s_Mo_isOpen (mem 1 i) (mem 2 i) (mem 4 i) (mem 8 i) = 0)) n; have q := mOC_le mem n (mem 8 i); omega) (by decide)).mp c5
        refine lv_aload_n S.1 S.2.1 d_Mo_stuck_30 rfl (lv_at hl 0 rfl) ?_
        refine u_get (v := .ref (G.2.1 8)) S hw 0 (by decide) rfl rfl in_Mo 12 (by decide) lf_Mo_31 rfl d_Mo_stuck_31 ?_
        refine lv_iload_n S.1 S.2.1 d_Mo_stuck_34 rfl (lv_at hl 2 rfl) ?_
        refine u_iaN S hw 8 0 (by decide) rfl rfl (j := i) rfl (by omega) (by decide) d_Mo_stuck_35 ?_
        refine u_callp hw (va_runS (As := [.int (mem 8 i)]) (rest := []) S (c_Mo_isDone l (mem 8 i)) ⟨u_cB S.2.2.2.2 t_Mo_isDone ln_Mo lm_Mo_121 hd_Mo_isDone rfl rfl ⟨Nat.le_of_ble_eq_true rfl, Nat.le_of_ble_eq_true rfl⟩, S.2.2.2.2 _ lt_Mo_isDone⟩ (u_preP hw.1.2) rfl rfl hl.1 rfl (lv_room (Nat.le_of_ble_eq_true rfl)) d_Mo_stuck_36 ⟨Nat.zero_le _, Nat.zero_le _⟩) (fun r H locs hp hw => ?_)
        refine u_top (y := (s_Mo_isDone (mem 8 i))) hp ?_
        refine lv_iload_n S.1 S.2.1 d_Mo_stuck_39 rfl (lv_at hl 1 rfl) ?_
        refine lv_icmp_ne (tgt := 45) S.1 S.2.1 d_Mo_stuck_40 (by decide) (fun c6 => ?_) (fun c6 => ?_)
        · skip
          have hpi : decide (mOC mem n (mem 8 i) = 0 ∧ s_Mo_isDone (mem 8 i) = a0) = false := df (fun h => c6 h.2)
          refine lv_iinc (v := (nI (i + 1))) (lv' := [(2, .int (nI (i + 1))), (0, .ref (G.2.1 0)), (1, .int a0)]) S.1 S.2.1 d_Mo_stuck_45 hl (k := 2) rfl (nI_1 _) (by decide) rfl (fun ls hl => ?_)
          refine lv_goto (tgt := 2) S.1 S.2.1 d_Mo_stuck_48 (by decide) ?_
          exact ih2 (i + 1) _ H locs ls (by omega) hw ⟨hi2, lt_step hno hpi, rfl, lv_sub hl [1, 2, 0] rfl⟩
        · skip
          have hl0 := lst_at (p := (fun i => decide (mOC mem n (mem 8 i) = 0 ∧ s_Mo_isDone (mem 8 i) = a0))) hi2 (dt ⟨hm, c6⟩) hno
          refine lv_iload_n S.1 S.2.1 d_Mo_stuck_43 rfl (lv_at hl 2 rfl) ?_
          exact u_iret S hr hlk hw ⟨fun h => absurd h h18, fun _ => by rw [hl0, if_pos hi2], rfl⟩ d_Mo_stuck_44
