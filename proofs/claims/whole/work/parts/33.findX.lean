def flX (X : um_M) (c : Nat) (q : Bq) : Nat → Bool := fun s => decide (¬ s_Cm_failsIn (X (41 + c)) (q.2.1 s) = 0)
set_option maxHeartbeats 4000000 in
set_option maxRecDepth 100000 in
theorem c_Av_find (l : Launch) (G : UG) (mem : um_M) (n c : Nat) (tr : Nat → Nat → Nat) (q : Bq) (hc : c < 6) (hk : q.1 ≤ 300) (hS : RXs mem q) (hP : RXp mem n tr q (q.1 * 24)) : MetXv l G y_Av_find b_Av_find 4 ({ frames := 2, cells := 0, slots := 0, locals := 46 }) [.ref (G.2.1 13), .ref (G.2.1 3), .ref (G.2.1 (41 + c))] mem (fun mem' => fAv mem mem' ∧ ∀ s, s < q.1 → mem' 14 s = if stB q.1 (nxq n tr q) (flX mem c q) s = true then 0 else 1) := by
  refine u_start [.ref (G.2.1 13), .ref (G.2.1 3), .ref (G.2.1 (41 + c))] (by decide) (Nat.le_of_ble_eq_true rfl) ?_
  intro p_ e_ s_ m_ bl_ me_ c_ ls S hr hlk hin hl hB
  have hw := uH_start hB
  have hl : lv_has ls 4 [(0, .ref (G.2.1 13)), (1, .ref (G.2.1 3)), (2, .ref (G.2.1 (41 + c)))] := hl
  refine lv_aload_n S.1 S.2.1 d_Av_find_0 rfl (lv_at hl 0 rfl) ?_
  refine lv_iconst (v := (0 : Int32)) S.1 S.2.1 d_Av_find_1 (by decide) ?_
  refine u_put S hw 13 (by decide) rfl rfl in_Av ty_Av tk_Av nm_Av 3 (by decide) lf_Av_22 rfl rfl rfl rfl (Nat.le_of_ble_eq_true rfl) rfl d_Av_find_2 (fun H locs hw => ?_)
  refine lv_iconst (v := (0 : Int32)) S.1 S.2.1 d_Av_find_5 (by decide) ?_
  refine lv_istore_n (lv' := [(3, .int (0 : Int32)), (0, .ref (G.2.1 13)), (1, .ref (G.2.1 3)), (2, .ref (G.2.1 (41 + c)))]) S.1 S.2.1 d_Av_find_6 rfl hl (by decide) rfl (fun ls hl => ?_)
  refine u_loop (σ := Nat) (fun (x : Nat) (mem_ : um_M) (ls : Array Slot) => match x with | (i) => (i ≤ q.1) ∧ (fAv mem mem_) ∧ (∃ wt w, P1 mem mem_ (flX mem c q) i wt w) ∧ lv_has ls 4 [(0, .ref (G.2.1 13)), (1, .ref (G.2.1 3)), (2, .ref (G.2.1 (41 + c))), (3, .int (nI i))]) (fun x => match x with | (i) => 301 - i) ?_ (0) hw ⟨Nat.zero_le _, fAv_s (fAv_rf mem) (by decide), ⟨fun _ => 0, 0, lt_zero, lt_zero, ⟨rfl, rfl⟩, lt_zero, fun s hs => absurd hs (Nat.not_lt_zero _), fun a b ha => absurd ha (Nat.not_lt_zero _)⟩, lv_sub hl [1, 2, 3, 0] rfl⟩
  intro i memi H locs ls hw hI ih7
  obtain ⟨hik, hFi, hPe, hl⟩ := hI
  dsimp only at ih7
  obtain ⟨wt, w, hP1⟩ := hPe
  refine lv_iload_n S.1 S.2.1 d_Av_find_7 rfl (lv_at hl 3 rfl) ?_
  refine lv_aload_n S.1 S.2.1 d_Av_find_8 rfl (lv_at hl 1 rfl) ?_
  refine u_calli hw (va_runV (As := []) (rest := [.int (nI i)]) S (c_Sp_size l G memi ) ⟨u_cB S.2.2.2.2 t_Sp_size ln_Sp lm_Av_26 hd_Sp_size rfl rfl ⟨Nat.le_of_ble_eq_true rfl, Nat.le_of_ble_eq_true rfl⟩, S.2.2.2.2 _ li_Sp_size, S.2.2.2.2 _ ls_Sp_size⟩ (u_preV hw 3 (by decide) rfl rfl) rfl rfl hl.1 rfl (lv_room (Nat.le_of_ble_eq_true rfl)) d_Av_find_9 ⟨Nat.zero_le _, Nat.zero_le _⟩) (fun r2 mem1 H locs hp hw => ?_)
  obtain ⟨hp, rfl⟩ := hp
  refine u_top (y := (s_Sp_size (memi 3 9))) hp ?_
  refine u_top (y := (nI q.1)) (show memi 3 9 = _ from by rw [hFi 3 (by decide)]; exact hS.1) ?_
  refine lv_icmp_ge (tgt := 56) S.1 S.2.1 d_Av_find_12 (by decide) (fun c3 => ?_) (fun c3 => ?_)
  · skip
    have hi2 : i = q.1 := by have z := nle c3 (by omega) (by omega); omega
    refine lv_iconst (v := (0 : Int32)) S.1 S.2.1 d_Av_find_56 (by decide) ?_
    refine lv_istore_n (lv' := [(3, .int (0 : Int32)), (0, .ref (G.2.1 13)), (1, .ref (G.2.1 3)), (2, .ref (G.2.1 (41 + c)))]) S.1 S.2.1 d_Av_find_57 rfl hl (by decide) rfl (fun ls hl => ?_)
    refine u_loop (σ := Nat) (fun (x : Nat) (mem_ : um_M) (ls : Array Slot) => match x with | (i) => (fAv mem mem_) ∧ (∃ ro wt w cs, AvI mem_ (nxq n tr q) (flX mem c q) q.1 ro wt w cs ∧ i ≤ w ∧ ∀ p, p < q.1 * 24 → (cs p = true ↔ ∃ j, j < i ∧ (nxq n tr q) p = nI (wt j))) ∧ lv_has ls 4 [(0, .ref (G.2.1 13)), (1, .ref (G.2.1 3)), (2, .ref (G.2.1 (41 + c))), (3, .int (nI i))]) (fun x => match x with | (i) => 301 - i) ?_ (0) hw ⟨hFi, ⟨(flX mem c q), wt, w, fun _ => false, P1_end hP hk (by rw [← hi2]; exact hP1), Nat.zero_le _, fun p hp => ⟨fun z => absurd (show false = true from z) (by decide), fun ⟨j, hj, _⟩ => absurd hj (Nat.not_lt_zero _)⟩⟩, lv_sub hl [1, 2, 3, 0] rfl⟩
    intro i memk H locs ls hw hI ih58
    obtain ⟨hF2, hE, hl⟩ := hI
    dsimp only at ih58
    obtain ⟨ro, wt, w, cs, hA, hiw, hcs⟩ := hE
    have hwk : w ≤ q.1 := by have z := hA.2.2.1.2; have z2 := cnt_le ro q.1; omega
    refine lv_iload_n S.1 S.2.1 d_Av_find_58 rfl (lv_at hl 3 rfl) ?_
    refine lv_aload_n S.1 S.2.1 d_Av_find_59 rfl (lv_at hl 0 rfl) ?_
    refine u_get (v := .int (memk 13 3)) S hw 13 (by decide) rfl rfl in_Av 3 (by decide) lf_Av_22 rfl d_Av_find_60 ?_
    refine u_top (y := (nI w)) hA.2.2.1.1 ?_
    refine lv_icmp_ge (tgt := 90) S.1 S.2.1 d_Av_find_63 (by decide) (fun c4 => ?_) (fun c4 => ?_)
    · skip
      have hi3 : i = w := by have z := nle c4 (by omega) (by omega); omega
      exact u_vret S hr hlk hw ⟨hF2, Av_end hA (by rw [← hi3]; exact hcs)⟩ d_Av_find_90
    · skip
      have hi2 : i < w := nlt c4 (by omega) (by omega)
      refine lv_iload_n S.1 S.2.1 d_Av_find_66 rfl (lv_at hl 3 rfl) ?_
      refine lv_sipush (v := (300 : Int32)) S.1 S.2.1 d_Av_find_67 (by decide) ?_
      refine lv_icmp_ge (tgt := 90) S.1 S.2.1 d_Av_find_70 (by decide) (fun c5 => ?_) (fun c5 => ?_)
      · skip
        have hi3 : i = w := by have z := nle (a := 300) c5 (by omega) (by omega); omega
        exact u_vret S hr hlk hw ⟨hF2, Av_end hA (by rw [← hi3]; exact hcs)⟩ d_Av_find_90
      · skip
        refine lv_aload_n S.1 S.2.1 d_Av_find_73 rfl (lv_at hl 0 rfl) ?_
        refine lv_aload_n S.1 S.2.1 d_Av_find_74 rfl (lv_at hl 0 rfl) ?_
        refine u_get (v := .ref (G.2.1 16)) S hw 13 (by decide) rfl rfl in_Av 2 (by decide) lf_Av_19 rfl d_Av_find_75 ?_
        refine lv_iload_n S.1 S.2.1 d_Av_find_78 rfl (lv_at hl 3 rfl) ?_
        refine u_iaN S hw 16 0 (by decide) rfl rfl (j := i) rfl (by omega) (by decide) d_Av_find_79 ?_
        refine u_top (y := (nI (wt i))) (hA.2.1 i hi2).1 ?_
        refine lv_aload_n S.1 S.2.1 d_Av_find_80 rfl (lv_at hl 1 rfl) ?_
        refine u_callv hw (va_runV (As := [.int (nI (wt i)), .ref (G.2.1 3)]) (rest := []) S (c_Av_closeWaysInto l G memk n (wt i) tr q (flX mem c q) ro wt w cs hk (hA.2.1 i hi2).2.1 (by rw [hF2 10 (by decide), hP.2.2.2.1 _ (hA.2.1 i hi2).2.1]; exact pv_congr (fun p hp => hP.1 p hp)) (fun p hp hn => by rw [hF2 11 (by decide), hP.2.2.2.2 p hp (by rw [hP.1 p hp]; exact hn), hP.1 p hp]; exact pv_congr (fun p2 hp2 => hP.1 p2 (by omega))) hA (hA.2.1 i hi2).2.2 (cs_free hk hcs (fun j hj => (hA.2.1 j hj).2.1) hi2 hA.2.2.2.2.2.2.2.2.2)) ⟨u_cB S.2.2.2.2 t_Av_closeWaysInto ln_Av lm_Av_49 hd_Av_closeWaysInto rfl rfl ⟨Nat.le_of_ble_eq_true rfl, Nat.le_of_ble_eq_true rfl⟩, S.2.2.2.2 _ li_Av_closeWaysInto, S.2.2.2.2 _ ls_Av_closeWaysInto⟩ (u_preV hw 13 (by decide) rfl rfl) rfl rfl hl.1 rfl (lv_room (Nat.le_of_ble_eq_true rfl)) d_Av_find_81 ⟨Nat.zero_le _, Nat.zero_le _⟩) (fun mem6 H locs hp hw => ?_)
        have hp81 := hp
        refine lv_iinc (v := (nI (i + 1))) (lv' := [(3, .int (nI (i + 1))), (0, .ref (G.2.1 13)), (1, .ref (G.2.1 3)), (2, .ref (G.2.1 (41 + c)))]) S.1 S.2.1 d_Av_find_84 hl (k := 3) rfl (nI_1 _) (by decide) rfl (fun ls hl => ?_)
        refine lv_goto (tgt := 58) S.1 S.2.1 d_Av_find_87 (by decide) ?_
        exact ih58 (i + 1) _ H locs ls (by omega) hw ⟨(fAv_tr hF2 hp81.1), (by obtain ⟨_, ro2, wt2, w2, cs2, a1, a2, a3, a4, a5⟩ := hp81; exact ⟨ro2, wt2, w2, cs2, a1, by omega, cs_next hcs a5 hi2 a4⟩), lv_sub hl [1, 2, 3, 0] rfl⟩
  · skip
    have hi2 : i < q.1 := nlt c3 (by omega) (by omega)
    refine lv_aload_n S.1 S.2.1 d_Av_find_15 rfl (lv_at hl 0 rfl) ?_
    refine u_get (v := .ref (G.2.1 14)) S hw 13 (by decide) rfl rfl in_Av 0 (by decide) lf_Av_9 rfl d_Av_find_16 ?_
    refine lv_iload_n S.1 S.2.1 d_Av_find_19 rfl (lv_at hl 3 rfl) ?_
    refine lv_iconst (v := (0 : Int32)) S.1 S.2.1 d_Av_find_20 (by decide) ?_
    refine u_zsN S hw 14 1 (by decide) (fun _ => rfl) rfl (j := i) rfl (by omega) (by decide) (by decide) d_Av_find_21 (fun H locs hw => ?_)
    refine lv_aload_n S.1 S.2.1 d_Av_find_22 rfl (lv_at hl 0 rfl) ?_
    refine u_get (v := .ref (G.2.1 15)) S hw 13 (by decide) rfl rfl in_Av 1 (by decide) lf_Av_15 rfl d_Av_find_23 ?_
    refine lv_iload_n S.1 S.2.1 d_Av_find_26 rfl (lv_at hl 3 rfl) ?_
    refine lv_aload_n S.1 S.2.1 d_Av_find_27 rfl (lv_at hl 1 rfl) ?_
    refine lv_iload_n S.1 S.2.1 d_Av_find_28 rfl (lv_at hl 3 rfl) ?_
    refine u_calli hw (va_runV (As := [.int (nI i)]) (rest := [.int (nI i), .ref (G.2.1 15)]) S (c_Sp_openIn l G (um_set memi 14 i (0 : Int32)) i (by omega)) ⟨u_cB S.2.2.2.2 t_Sp_openIn ln_Sp lm_Av_32 hd_Sp_openIn rfl rfl ⟨Nat.le_of_ble_eq_true rfl, Nat.le_of_ble_eq_true rfl⟩, S.2.2.2.2 _ li_Sp_openIn, S.2.2.2.2 _ ls_Sp_openIn⟩ (u_preV hw 3 (by decide) rfl rfl) rfl rfl hl.1 rfl (lv_room (Nat.le_of_ble_eq_true rfl)) d_Av_find_29 ⟨Nat.zero_le _, Nat.zero_le _⟩) (fun r8 mem7 H locs hp hw => ?_)
    obtain ⟨hp, rfl⟩ := hp
    refine u_top (y := (s_Sp_openIn (memi 8 i))) hp ?_
    refine u_top (y := (mem 8 i)) (show memi 8 i = _ from by rw [hFi 8 (by decide)]) ?_
    refine u_isN S hw 15 0 (by decide) (fun _ => rfl) rfl (j := i) rfl (by omega) (by decide) d_Av_find_32 (fun H locs hw => ?_)
    refine lv_aload_n S.1 S.2.1 d_Av_find_33 rfl (lv_at hl 2 rfl) ?_
    refine lv_aload_n S.1 S.2.1 d_Av_find_34 rfl (lv_at hl 1 rfl) ?_
    refine lv_iload_n S.1 S.2.1 d_Av_find_35 rfl (lv_at hl 3 rfl) ?_
    refine u_calli hw (va_runV (As := [.int (nI i)]) (rest := [.ref (G.2.1 (41 + c))]) S (c_Sp_packed l G (um_set (um_set memi 14 i (0 : Int32)) 15 i (mem 8 i)) i (by omega)) ⟨u_cB S.2.2.2.2 t_Sp_packed ln_Sp lm_Av_36 hd_Sp_packed rfl rfl ⟨Nat.le_of_ble_eq_true rfl, Nat.le_of_ble_eq_true rfl⟩, S.2.2.2.2 _ li_Sp_packed, S.2.2.2.2 _ ls_Sp_packed⟩ (u_preV hw 3 (by decide) rfl rfl) rfl rfl hl.1 rfl (lv_room (Nat.le_of_ble_eq_true rfl)) d_Av_find_36 ⟨Nat.zero_le _, Nat.zero_le _⟩) (fun r10 mem9 H locs hp hw => ?_)
    obtain ⟨hp, rfl⟩ := hp
    refine u_top (y := (s_Sp_packed (memi 4 i))) hp ?_
    refine u_top (y := (q.2.1 i)) (show memi 4 i = _ from by rw [hFi 4 (by decide)]; exact (hS.2.1 i hi2).1) ?_
    refine u_calli hw (va_runV (As := [.int (q.2.1 i)]) (rest := []) S (c_Cm_failsIn l G (um_set (um_set memi 14 i (0 : Int32)) 15 i (mem 8 i)) c (by omega) (q.2.1 i)) ⟨u_cB S.2.2.2.2 t_Cm_failsIn ln_Cm lm_Av_39 hd_Cm_failsIn rfl rfl ⟨Nat.le_of_ble_eq_true rfl, Nat.le_of_ble_eq_true rfl⟩, S.2.2.2.2 _ li_Cm_failsIn, S.2.2.2.2 _ ls_Cm_failsIn⟩ (u_preV hw (41 + c) (by omega) (sh_Cm c hc) rfl) rfl rfl hl.1 rfl (lv_room (Nat.le_of_ble_eq_true rfl)) d_Av_find_39 ⟨Nat.zero_le _, Nat.zero_le _⟩) (fun r12 mem11 H locs hp hw => ?_)
    obtain ⟨hp, rfl⟩ := hp
    refine u_top (y := (s_Cm_failsIn ((um_set (um_set memi 14 i (0 : Int32)) 15 i (mem 8 i)) (41 + c)) (q.2.1 i))) hp ?_
    refine u_top (y := (s_Cm_failsIn (mem (41 + c)) (q.2.1 i))) (by rw [um_k (by omega), um_k (by omega), hFi (41 + c) (by omega)]) ?_
    refine lv_if_eq (tgt := 50) S.1 S.2.1 d_Av_find_42 (by decide) (fun c13 => ?_) (fun c13 => ?_)
    · skip
      have hfi : (flX mem c q) i = false := df (fun h => h c13)
      refine lv_iinc (v := (nI (i + 1))) (lv' := [(3, .int (nI (i + 1))), (0, .ref (G.2.1 13)), (1, .ref (G.2.1 3)), (2, .ref (G.2.1 (41 + c)))]) S.1 S.2.1 d_Av_find_50 hl (k := 3) rfl (nI_1 _) (by decide) rfl (fun ls hl => ?_)
      refine lv_goto (tgt := 7) S.1 S.2.1 d_Av_find_53 (by decide) ?_
      exact ih7 (i + 1) _ H locs ls (by omega) hw ⟨hi2, (fAv_s (fAv_s hFi (by decide)) (by decide)), ⟨_, _, P1_f hP1 hfi⟩, lv_sub hl [1, 2, 3, 0] rfl⟩
    · skip
      have hfi : (flX mem c q) i = true := dt c13
      refine lv_aload_n S.1 S.2.1 d_Av_find_45 rfl (lv_at hl 0 rfl) ?_
      refine lv_iload_n S.1 S.2.1 d_Av_find_46 rfl (lv_at hl 3 rfl) ?_
      refine u_callv hw (va_runV (As := [.int (nI i)]) (rest := []) S (c_Av_ruleOut l G (um_set (um_set memi 14 i (0 : Int32)) 15 i (mem 8 i)) w i (by omega) hP1.2.2.1.1 (fun _ => by have := hP1.2.2.1.2; have := cnt_le (flX mem c q) i; omega)) ⟨u_cB S.2.2.2.2 t_Av_ruleOut ln_Av lm_Av_45 hd_Av_ruleOut rfl rfl ⟨Nat.le_of_ble_eq_true rfl, Nat.le_of_ble_eq_true rfl⟩, S.2.2.2.2 _ li_Av_ruleOut, S.2.2.2.2 _ ls_Av_ruleOut⟩ (u_preV hw 13 (by decide) rfl rfl) rfl rfl hl.1 rfl (lv_room (Nat.le_of_ble_eq_true rfl)) d_Av_find_47 ⟨Nat.zero_le _, Nat.zero_le _⟩) (fun mem14 H locs hp hw => ?_)
      subst hp
      refine lv_iinc (v := (nI (i + 1))) (lv' := [(3, .int (nI (i + 1))), (0, .ref (G.2.1 13)), (1, .ref (G.2.1 3)), (2, .ref (G.2.1 (41 + c)))]) S.1 S.2.1 d_Av_find_50 hl (k := 3) rfl (nI_1 _) (by decide) rfl (fun ls hl => ?_)
      refine lv_goto (tgt := 7) S.1 S.2.1 d_Av_find_53 (by decide) ?_
      exact ih7 (i + 1) _ H locs ls (by omega) hw ⟨hi2, (fAv_rule (fAv_s (fAv_s hFi (by decide)) (by decide))), ⟨_, _, P1_t hP1 hfi⟩, lv_sub hl [1, 2, 3, 0] rfl⟩
