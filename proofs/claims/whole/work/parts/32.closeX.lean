set_option maxHeartbeats 4000000 in
set_option maxRecDepth 100000 in
theorem c_Av_closeWaysInto (l : Launch) (G : UG) (mem : um_M) (n v : Nat) (tr : Nat → Nat → Nat) (q : Bq) (fl : Nat → Bool) (ro : Nat → Bool) (wt : Nat → Nat) (w : Nat) (cs : Nat → Bool) (hk : q.1 ≤ 300) (hv : v < q.1) (hL : mem 10 v = pv (nxq n tr q) (nI v) (q.1 * 24)) (h11 : ∀ p, p < q.1 * 24 → nxq n tr q p ≠ -2 → mem 11 p = pv (nxq n tr q) (nxq n tr q p) p) (hA : AvI mem (nxq n tr q) fl q.1 ro wt w cs) (hro : ro v = true) (hcs0 : ∀ p, p < q.1 * 24 → nxq n tr q p = nI v → cs p = false) : MetXv l G y_Av_closeWaysInto b_Av_closeWaysInto 6 ({ frames := 1, cells := 0, slots := 0, locals := 21 }) [.ref (G.2.1 13), .int (nI v), .ref (G.2.1 3)] mem (fun mem' => fAv mem mem' ∧ ∃ ro' wt' w' cs', AvI mem' (nxq n tr q) fl q.1 ro' wt' w' cs' ∧ (∀ u, u < q.1 → ro u = true → ro' u = true) ∧ w ≤ w' ∧ (∀ j, j < w → wt' j = wt j) ∧ ∀ p, p < q.1 * 24 → cs' p = (cs p || decide ((nxq n tr q) p = nI v))) := by
  refine u_start [.ref (G.2.1 13), .int (nI v), .ref (G.2.1 3)] (by decide) (Nat.le_of_ble_eq_true rfl) ?_
  intro p_ e_ s_ m_ bl_ me_ c_ ls S hr hlk hin hl hB
  have hw := uH_start hB
  have hl : lv_has ls 6 [(0, .ref (G.2.1 13)), (1, .int (nI v)), (2, .ref (G.2.1 3))] := hl
  refine lv_aload_n S.1 S.2.1 d_Av_closeWaysInto_0 rfl (lv_at hl 2 rfl) ?_
  refine lv_iload_n S.1 S.2.1 d_Av_closeWaysInto_1 rfl (lv_at hl 1 rfl) ?_
  refine u_calli hw (va_runV (As := [.int (nI v)]) (rest := []) S (c_Sp_lastPairInto l G mem v (by omega)) ⟨u_cB S.2.2.2.2 t_Sp_lastPairInto ln_Sp lm_Av_53 hd_Sp_lastPairInto rfl rfl ⟨Nat.le_of_ble_eq_true rfl, Nat.le_of_ble_eq_true rfl⟩, S.2.2.2.2 _ li_Sp_lastPairInto, S.2.2.2.2 _ ls_Sp_lastPairInto⟩ (u_preV hw 3 (by decide) rfl rfl) rfl rfl hl.1 rfl (lv_room (Nat.le_of_ble_eq_true rfl)) d_Av_closeWaysInto_2 ⟨Nat.zero_le _, Nat.zero_le _⟩) (fun r2 mem1 H locs hp hw => ?_)
  obtain ⟨hp, rfl⟩ := hp
  refine u_top (y := (s_Sp_lastPairInto (mem 10 v))) hp ?_
  refine u_top (y := (pv (nxq n tr q) (nI v) (q.1 * 24))) hL ?_
  refine lv_istore_n (lv' := [(3, .int (pv (nxq n tr q) (nI v) (q.1 * 24))), (0, .ref (G.2.1 13)), (1, .int (nI v)), (2, .ref (G.2.1 3))]) S.1 S.2.1 d_Av_closeWaysInto_5 rfl hl (by decide) rfl (fun ls hl => ?_)
  refine lv_iconst (v := (0 : Int32)) S.1 S.2.1 d_Av_closeWaysInto_6 (by decide) ?_
  refine lv_istore (lv' := [(4, .int (0 : Int32)), (3, .int (pv (nxq n tr q) (nI v) (q.1 * 24))), (0, .ref (G.2.1 13)), (1, .int (nI v)), (2, .ref (G.2.1 3))]) S.1 S.2.1 d_Av_closeWaysInto_7 hl (by decide) rfl (fun ls hl => ?_)
  refine u_loop (σ := Nat × Nat) (fun (x : Nat × Nat) (mem_ : um_M) (ls : Array Slot) => match x with | (i, b) => (i + b ≤ 7200) ∧ (b ≤ q.1 * 24) ∧ (fAv mem mem_) ∧ (∃ ro' wt' w' cs', AvI mem_ (nxq n tr q) fl q.1 ro' wt' w' cs' ∧ (∀ u, u < q.1 → ro u = true → ro' u = true) ∧ w ≤ w' ∧ (∀ j, j < w → wt' j = wt j) ∧ ∀ p, p < q.1 * 24 → cs' p = (cs p || (decide ((nxq n tr q) p = nI v) && decide (b ≤ p)))) ∧ lv_has ls 6 [(0, .ref (G.2.1 13)), (1, .int (nI v)), (2, .ref (G.2.1 3)), (3, .int (pv (nxq n tr q) (nI v) b)), (4, .int (nI i))]) (fun x => match x with | (i, b) => 7201 - i) ?_ (0, q.1 * 24) hw ⟨(by omega), Nat.le_refl _, fAv_rf mem, ⟨ro, wt, w, cs, hA, fun _ _ h => h, Nat.le_refl _, fun _ _ => rfl, fun p hp => by rw [df (by omega : ¬ q.1 * 24 ≤ p)]; simp⟩, lv_sub hl [2, 3, 4, 1, 0] rfl⟩
  intro x memj H locs ls hw hI ih9
  obtain ⟨i, b⟩ := x
  obtain ⟨hib, hbk, hFj, hE, hl⟩ := hI
  dsimp only at ih9
  obtain ⟨ro1, wt1, w1, cs1, hA1, hmono, hww, hjj, hcs1⟩ := hE
  refine lv_iload S.1 S.2.1 d_Av_closeWaysInto_9 (lv_at hl 4 rfl) ?_
  refine lv_sipush (v := (7200 : Int32)) S.1 S.2.1 d_Av_closeWaysInto_11 (by decide) ?_
  refine lv_icmp_ge (tgt := 68) S.1 S.2.1 d_Av_closeWaysInto_14 (by decide) (fun c3 => ?_) (fun c3 => ?_)
  · skip
    have hi2 : i = 7200 := by have z := nle (a := 7200) c3 (by omega) (by omega); omega
    have hnone : ∀ p, p < b → (nxq n tr q) p ≠ nI v := fun p hp => by omega
    exact u_vret S hr hlk hw ⟨hFj, ro1, wt1, w1, cs1, hA1, hmono, hww, hjj, cs_end hcs1 hnone⟩ d_Av_closeWaysInto_68
  · skip
    have hi2 : i < 7200 := nlt (a := 7200) c3 (by omega) (by omega)
    refine lv_iload_n S.1 S.2.1 d_Av_closeWaysInto_17 rfl (lv_at hl 3 rfl) ?_
    refine lv_bipush (v := (-2 : Int32)) S.1 S.2.1 d_Av_closeWaysInto_18 (by decide) ?_
    refine lv_icmp_eq (tgt := 68) S.1 S.2.1 d_Av_closeWaysInto_20 (by decide) (fun c4 => ?_) (fun c4 => ?_)
    · skip
      have hnone := pv_m2 (by omega) c4
      exact u_vret S hr hlk hw ⟨hFj, ro1, wt1, w1, cs1, hA1, hmono, hww, hjj, cs_end hcs1 hnone⟩ d_Av_closeWaysInto_68
    · skip
      obtain ⟨p0, hp0, e0, hx0, hno⟩ := pv_some c4; rw [e0] at hl
      have hpk : p0 < q.1 * 24 := by omega
      have hr1 := hmono v hv hro
      have hc0 := cs_0 hcs1 hp0 hbk hx0 hcs0
      have hpb : ∀ {Y : um_M}, fAv mem Y → s_Sp_pairBefore (Y 11 p0) = pv (nxq n tr q) (nI v) p0 := fun {Y} hY => by show Y 11 p0 = _; rw [hY 11 (by decide), h11 p0 hpk (by rw [hx0]; exact nI_m2 (by omega)), hx0]
      refine lv_iload_n S.1 S.2.1 d_Av_closeWaysInto_23 rfl (lv_at hl 3 rfl) ?_
      refine lv_bipush (v := (24 : Int32)) S.1 S.2.1 d_Av_closeWaysInto_24 (by decide) ?_
      refine lv_idiv S.1 S.2.1 d_Av_closeWaysInto_26 (by decide) ?_
      refine u_top (y := (nI (p0 / 24))) (pk_div (d := 24) (by omega) (by decide) (by decide)) ?_
      refine lv_istore (lv' := [(5, .int (nI (p0 / 24))), (0, .ref (G.2.1 13)), (1, .int (nI v)), (2, .ref (G.2.1 3)), (3, .int (nI p0)), (4, .int (nI i))]) S.1 S.2.1 d_Av_closeWaysInto_27 hl (by decide) rfl (fun ls hl => ?_)
      refine lv_aload_n S.1 S.2.1 d_Av_closeWaysInto_29 rfl (lv_at hl 1 rfl) ?_
      refine u_get (v := .ref (G.2.1 15)) S hw 13 (by decide) rfl rfl in_Av 1 (by decide) lf_Av_15 rfl d_Av_closeWaysInto_30 ?_
      refine lv_iload S.1 S.2.1 d_Av_closeWaysInto_33 (lv_at hl 0 rfl) ?_
      refine lv_dup2_11 S.1 S.2.1 d_Av_closeWaysInto_35 rfl rfl ?_
      refine u_iaN S hw 15 0 (by decide) rfl rfl (j := (p0 / 24)) rfl (by omega) (by decide) d_Av_closeWaysInto_36 ?_
      refine lv_iconst (v := (1 : Int32)) S.1 S.2.1 d_Av_closeWaysInto_37 (by decide) ?_
      refine lv_isub S.1 S.2.1 d_Av_closeWaysInto_38 ?_
      refine u_isN S hw 15 0 (by decide) (fun _ => rfl) rfl (j := (p0 / 24)) rfl (by omega) (by decide) d_Av_closeWaysInto_39 (fun H locs hw => ?_)
      refine lv_aload_n S.1 S.2.1 d_Av_closeWaysInto_40 rfl (lv_at hl 1 rfl) ?_
      refine u_get (v := .ref (G.2.1 15)) S hw 13 (by decide) rfl rfl in_Av 1 (by decide) lf_Av_15 rfl d_Av_closeWaysInto_41 ?_
      refine lv_iload S.1 S.2.1 d_Av_closeWaysInto_44 (lv_at hl 0 rfl) ?_
      refine u_iaN S hw 15 0 (by decide) rfl rfl (j := (p0 / 24)) rfl (by omega) (by decide) d_Av_closeWaysInto_46 ?_
      refine u_top (y := (nI (lfc (nxq n tr q) (va_up cs1 p0 true) (p0 / 24)))) (um_self.trans (dec_v hA1 hpk hx0 hv hk hc0)) ?_
      refine lv_if_ne (tgt := 56) S.1 S.2.1 d_Av_closeWaysInto_47 (by decide) (fun c5 => ?_) (fun c5 => ?_)
      · skip
        have hz : ¬ lfc (nxq n tr q) (va_up cs1 p0 true) (p0 / 24) = 0 := fun z => c5 (by rw [z]; rfl)
        have hFn : fAv mem (um_set memj 15 (p0 / 24) ((memj 15 (p0 / 24)) - (1 : Int32))) := fAv_s hFj (by decide)
        refine lv_aload_n S.1 S.2.1 d_Av_closeWaysInto_56 rfl (lv_at hl 3 rfl) ?_
        refine lv_iload_n S.1 S.2.1 d_Av_closeWaysInto_57 rfl (lv_at hl 4 rfl) ?_
        refine u_calli hw (va_runV (As := [.int (nI p0)]) (rest := []) S (c_Sp_pairBefore l G (um_set memj 15 (p0 / 24) ((memj 15 (p0 / 24)) - (1 : Int32))) p0 (by omega)) ⟨u_cB S.2.2.2.2 t_Sp_pairBefore ln_Sp lm_Av_56 hd_Sp_pairBefore rfl rfl ⟨Nat.le_of_ble_eq_true rfl, Nat.le_of_ble_eq_true rfl⟩, S.2.2.2.2 _ li_Sp_pairBefore, S.2.2.2.2 _ ls_Sp_pairBefore⟩ (u_preV hw 3 (by decide) rfl rfl) rfl rfl hl.1 rfl (lv_room (Nat.le_of_ble_eq_true rfl)) d_Av_closeWaysInto_58 ⟨Nat.zero_le _, Nat.zero_le _⟩) (fun r7 mem6 H locs hp hw => ?_)
        obtain ⟨hp, rfl⟩ := hp
        refine u_top (y := (s_Sp_pairBefore (memj 11 p0))) hp ?_
        refine u_top (y := (pv (nxq n tr q) (nI v) p0)) (hpb hFj) ?_
        refine lv_istore_n (lv' := [(3, .int (pv (nxq n tr q) (nI v) p0)), (5, .int (nI (p0 / 24))), (0, .ref (G.2.1 13)), (1, .int (nI v)), (2, .ref (G.2.1 3)), (4, .int (nI i))]) S.1 S.2.1 d_Av_closeWaysInto_61 rfl hl (by decide) rfl (fun ls hl => ?_)
        refine lv_iinc (v := (nI (i + 1))) (lv' := [(4, .int (nI (i + 1))), (3, .int (pv (nxq n tr q) (nI v) p0)), (5, .int (nI (p0 / 24))), (0, .ref (G.2.1 13)), (1, .int (nI v)), (2, .ref (G.2.1 3))]) S.1 S.2.1 d_Av_closeWaysInto_62 hl (k := 5) rfl (nI_1 _) (by decide) rfl (fun ls hl => ?_)
        refine lv_goto (tgt := 9) S.1 S.2.1 d_Av_closeWaysInto_65 (by decide) ?_
        exact ih9 (i + 1, p0) _ H locs ls (by omega) hw ⟨(by show i + 1 + p0 ≤ 7200; omega), (by show p0 ≤ q.1 * 24; omega), hFn, ⟨ro1, wt1, w1, va_up cs1 p0 true, dec_nz hA1 hpk hx0 hv hk hr1 hc0 hz, hmono, hww, hjj, cs_step hcs1 hp0 hx0 hno⟩, lv_sub hl [3, 4, 5, 1, 0] rfl⟩
      · skip
        have hz : lfc (nxq n tr q) (va_up cs1 p0 true) (p0 / 24) = 0 := (nI_eq (b := 0) (by have := lfc_le (nxq n tr q) (va_up cs1 p0 true) (p0 / 24); omega) (by decide)).mp c5
        obtain ⟨ro2, wt2, w2, hA2, hm2, hw2, hj2⟩ := dec_z hA1 hpk hx0 hv hk hr1 hc0 hz
        refine lv_aload_n S.1 S.2.1 d_Av_closeWaysInto_50 rfl (lv_at hl 1 rfl) ?_
        refine lv_iload S.1 S.2.1 d_Av_closeWaysInto_51 (lv_at hl 0 rfl) ?_
        refine u_callv hw (va_runV (As := [.int (nI (p0 / 24))]) (rest := []) S (c_Av_ruleOut l G (um_set memj 15 (p0 / 24) ((memj 15 (p0 / 24)) - (1 : Int32))) w1 (p0 / 24) (by omega) hA1.2.2.1.1 (fun z => AvI_w hA1 hk (s := p0 / 24) (by omega) z)) ⟨u_cB S.2.2.2.2 t_Av_ruleOut ln_Av lm_Av_45 hd_Av_ruleOut rfl rfl ⟨Nat.le_of_ble_eq_true rfl, Nat.le_of_ble_eq_true rfl⟩, S.2.2.2.2 _ li_Av_ruleOut, S.2.2.2.2 _ ls_Av_ruleOut⟩ (u_preV hw 13 (by decide) rfl rfl) rfl rfl hl.1 rfl (lv_room (Nat.le_of_ble_eq_true rfl)) d_Av_closeWaysInto_53 ⟨Nat.zero_le _, Nat.zero_le _⟩) (fun mem8 H locs hp hw => ?_)
        subst hp
        have hFn : fAv mem (n_Av_ruleOut (um_set memj 15 (p0 / 24) ((memj 15 (p0 / 24)) - (1 : Int32))) w1 (p0 / 24)) := fAv_rule (fAv_s hFj (by decide))
        refine lv_aload_n S.1 S.2.1 d_Av_closeWaysInto_56 rfl (lv_at hl 3 rfl) ?_
        refine lv_iload_n S.1 S.2.1 d_Av_closeWaysInto_57 rfl (lv_at hl 4 rfl) ?_
        refine u_calli hw (va_runV (As := [.int (nI p0)]) (rest := []) S (c_Sp_pairBefore l G (n_Av_ruleOut (um_set memj 15 (p0 / 24) ((memj 15 (p0 / 24)) - (1 : Int32))) w1 (p0 / 24)) p0 (by omega)) ⟨u_cB S.2.2.2.2 t_Sp_pairBefore ln_Sp lm_Av_56 hd_Sp_pairBefore rfl rfl ⟨Nat.le_of_ble_eq_true rfl, Nat.le_of_ble_eq_true rfl⟩, S.2.2.2.2 _ li_Sp_pairBefore, S.2.2.2.2 _ ls_Sp_pairBefore⟩ (u_preV hw 3 (by decide) rfl rfl) rfl rfl hl.1 rfl (lv_room (Nat.le_of_ble_eq_true rfl)) d_Av_closeWaysInto_58 ⟨Nat.zero_le _, Nat.zero_le _⟩) (fun r10 mem9 H locs hp hw => ?_)
        obtain ⟨hp, rfl⟩ := hp
        refine u_top (y := (s_Sp_pairBefore ((n_Av_ruleOut (um_set memj 15 (p0 / 24) ((memj 15 (p0 / 24)) - (1 : Int32))) w1 (p0 / 24)) 11 p0))) hp ?_
        refine u_top (y := (pv (nxq n tr q) (nI v) p0)) (hpb hFn) ?_
        refine lv_istore_n (lv' := [(3, .int (pv (nxq n tr q) (nI v) p0)), (5, .int (nI (p0 / 24))), (0, .ref (G.2.1 13)), (1, .int (nI v)), (2, .ref (G.2.1 3)), (4, .int (nI i))]) S.1 S.2.1 d_Av_closeWaysInto_61 rfl hl (by decide) rfl (fun ls hl => ?_)
        refine lv_iinc (v := (nI (i + 1))) (lv' := [(4, .int (nI (i + 1))), (3, .int (pv (nxq n tr q) (nI v) p0)), (5, .int (nI (p0 / 24))), (0, .ref (G.2.1 13)), (1, .int (nI v)), (2, .ref (G.2.1 3))]) S.1 S.2.1 d_Av_closeWaysInto_62 hl (k := 5) rfl (nI_1 _) (by decide) rfl (fun ls hl => ?_)
        refine lv_goto (tgt := 9) S.1 S.2.1 d_Av_closeWaysInto_65 (by decide) ?_
        exact ih9 (i + 1, p0) _ H locs ls (by omega) hw ⟨(by show i + 1 + p0 ≤ 7200; omega), (by show p0 ≤ q.1 * 24; omega), hFn, ⟨ro2, wt2, w2, va_up cs1 p0 true, hA2, fun u hu h => hm2 u hu (hmono u hu h), Nat.le_trans hww hw2, fun j hj => (hj2 j (by omega)).trans (hjj j hj), cs_step hcs1 hp0 hx0 hno⟩, lv_sub hl [3, 4, 5, 1, 0] rfl⟩
