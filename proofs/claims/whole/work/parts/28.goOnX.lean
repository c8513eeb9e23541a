set_option maxHeartbeats 4000000 in
set_option maxRecDepth 100000 in
theorem c_Sp_goOnFrom (l : Launch) (G : UG) (mem : um_M) (n s : Nat) (tr : Nat → Nat → Nat) (q : Bq) (nn : Nat → Nat) (hT : RXt mem n tr) (hS : RXs mem q) (hH : RXh (mem 12) q nn) (hP : RXp mem n tr q (s * 24)) (hw0 : bwf n q) (hs : s < q.1) : MetX l G y_Sp_goOnFrom b_Sp_goOnFrom 6 (some .boolean) ({ frames := 4, cells := 0, slots := 0, locals := 93 }) [.ref (G.2.1 3), .int (nI s), .ref (G.2.1 1), .int (nI n)] mem (fun r mem' => fXE mem mem' ∧ ((∃ q', brow tr s n q = some q' ∧ r = 1 ∧ RXs mem' q' ∧ (∃ nn', RXh (mem' 12) q' nn') ∧ RXp mem' n tr q' ((s + 1) * 24)) ∨ (brow tr s n q = none ∧ r = 0 ∧ ∃ nn' : Nat → Nat, ∀ j, j < 1024 → mem' 12 j = nI (nn' j) ∧ nn' j ≤ 300))) := by
  refine u_start [.ref (G.2.1 3), .int (nI s), .ref (G.2.1 1), .int (nI n)] (by decide) (Nat.le_of_ble_eq_true rfl) ?_
  intro p_ e_ s_ m_ bl_ me_ c_ ls S hr hlk hin hl hB
  have hw := uH_start hB
  have hl : lv_has ls 6 [(0, .ref (G.2.1 3)), (1, .int (nI s)), (2, .ref (G.2.1 1)), (3, .int (nI n))] := hl
  refine lv_iconst (v := (0 : Int32)) S.1 S.2.1 d_Sp_goOnFrom_0 (by decide) ?_
  refine lv_istore (lv' := [(4, .int (0 : Int32)), (0, .ref (G.2.1 3)), (1, .int (nI s)), (2, .ref (G.2.1 1)), (3, .int (nI n))]) S.1 S.2.1 d_Sp_goOnFrom_1 hl (by decide) rfl (fun ls hl => ?_)
  refine u_loop (σ := Nat × Bq) (fun (x : Nat × Bq) (mem_ : um_M) (ls : Array Slot) => match x with | (t, q1) => (t ≤ 24) ∧ (brow tr s (min t n) q = some q1) ∧ (RXs mem_ q1) ∧ (∃ nn1, RXh (mem_ 12) q1 nn1) ∧ (RXp mem_ n tr q1 (s * 24 + t)) ∧ (fXE mem mem_) ∧ lv_has ls 6 [(0, .ref (G.2.1 3)), (1, .int (nI s)), (2, .ref (G.2.1 1)), (3, .int (nI n)), (4, .int (nI t))]) (fun x => match x with | (t, q1) => 24 - t) ?_ (0, q) hw ⟨Nat.zero_le _, by rw [show min 0 n = 0 by omega]; rfl, hS, ⟨nn, hH⟩, hP, fXE_rf mem, lv_sub hl [1, 2, 3, 4, 0] rfl⟩
  intro x memj H locs ls hw hI ih3
  obtain ⟨t, q1⟩ := x
  obtain ⟨ht0, hbr, hSj, hHj, hPj, hFj, hl⟩ := hI
  dsimp only at ih3
  have hn24 := hT.1
  have hww := brow_wf (S_led (fun t ht => (hT.2 t ht).1)) hw0 hs (min t n) q1 (by omega) hbr
  have hwj := hww.1
  have hs1 : s < q1.1 := by have := hww.2; omega
  have hk1 := hwj.2.1
  have hTj := RXt_f hT hFj
  obtain ⟨nn1, hH1⟩ := hHj
  refine lv_iload S.1 S.2.1 d_Sp_goOnFrom_3 (lv_at hl 4 rfl) ?_
  refine lv_bipush (v := (24 : Int32)) S.1 S.2.1 d_Sp_goOnFrom_5 (by decide) ?_
  refine lv_icmp_ge (tgt := 92) S.1 S.2.1 d_Sp_goOnFrom_7 (by decide) (fun c1 => ?_) (fun c1 => ?_)
  · skip
    have ht2 : t = 24 := by have z := nle (a := 24) c1 (by omega) (by omega); omega
    refine lv_iconst (v := (1 : Int32)) S.1 S.2.1 d_Sp_goOnFrom_92 (by decide) ?_
    exact u_zret S hr hlk hw (by first | rfl | assumption | exact nb01 (z_Ds_isBelow _ _)) ⟨hFj, Or.inl ⟨q1, by rw [show min t n = n by omega] at hbr; exact hbr, rfl, hSj, ⟨nn1, hH1⟩, by rw [show (s + 1) * 24 = s * 24 + t by omega]; exact hPj⟩⟩ d_Sp_goOnFrom_93
  · skip
    have ht24 : t < 24 := nlt (a := 24) c1 (by omega) (by omega)
    refine lv_aload_n S.1 S.2.1 d_Sp_goOnFrom_10 rfl (lv_at hl 0 rfl) ?_
    refine u_get (v := .ref (G.2.1 9)) S hw 3 (by decide) rfl rfl in_Sp 5 (by decide) lf_Sp_27 rfl d_Sp_goOnFrom_11 ?_
    refine lv_iload_n S.1 S.2.1 d_Sp_goOnFrom_14 rfl (lv_at hl 1 rfl) ?_
    refine lv_bipush (v := (24 : Int32)) S.1 S.2.1 d_Sp_goOnFrom_15 (by decide) ?_
    refine lv_imul S.1 S.2.1 d_Sp_goOnFrom_17 ?_
    refine u_top (y := (nI (s * 24))) (pk_mul s 24) ?_
    refine lv_iload S.1 S.2.1 d_Sp_goOnFrom_18 (lv_at hl 4 rfl) ?_
    refine lv_iadd S.1 S.2.1 d_Sp_goOnFrom_20 ?_
    refine u_top (y := (nI ((s * 24) + t))) (nI_add (s * 24) t) ?_
    refine lv_bipush (v := (-2 : Int32)) S.1 S.2.1 d_Sp_goOnFrom_21 (by decide) ?_
    refine u_isN S hw 9 0 (by decide) (fun _ => rfl) rfl (j := ((s * 24) + t)) rfl (by omega) (by decide) d_Sp_goOnFrom_23 (fun H locs hw => ?_)
    refine lv_iload S.1 S.2.1 d_Sp_goOnFrom_24 (lv_at hl 4 rfl) ?_
    refine lv_iload_n S.1 S.2.1 d_Sp_goOnFrom_26 rfl (lv_at hl 3 rfl) ?_
    refine lv_icmp_ge (tgt := 86) S.1 S.2.1 d_Sp_goOnFrom_27 (by decide) (fun c2 => ?_) (fun c2 => ?_)
    · skip
      have ht2 : ¬ t < n := by have z := nle c2 (by omega) (by omega); omega
      have hno : ¬ (t < n ∧ opn tr t (q1.2.1 s) = true) := fun z => ht2 z.1
      have hbr2 := min_stay hbr ht2
      refine lv_iinc (v := (nI (t + 1))) (lv' := [(4, .int (nI (t + 1))), (0, .ref (G.2.1 3)), (1, .int (nI s)), (2, .ref (G.2.1 1)), (3, .int (nI n))]) S.1 S.2.1 d_Sp_goOnFrom_86 hl (k := 4) rfl (nI_1 _) (by decide) rfl (fun ls hl => ?_)
      refine lv_goto (tgt := 3) S.1 S.2.1 d_Sp_goOnFrom_89 (by decide) ?_
      exact ih3 (t + 1, q1) _ H locs ls (by omega) hw ⟨(by omega), hbr2, (RXs_9 hSj), ⟨nn1, hH1⟩, (RXp_no hPj ht24 hs1 hk1 hno), (fXE_s hFj (by decide)), lv_sub hl [1, 2, 3, 4, 0] rfl⟩
    · skip
      have ht2 : t < n := nlt c2 (by omega) (by omega)
      refine lv_aload_n S.1 S.2.1 d_Sp_goOnFrom_30 rfl (lv_at hl 2 rfl) ?_
      refine lv_iload S.1 S.2.1 d_Sp_goOnFrom_31 (lv_at hl 4 rfl) ?_
      refine u_aaN S hw 1 2 (by decide) rfl rfl (j := t) rfl (by omega) (by decide) (v := .ref (G.2.1 (17 + t))) rfl d_Sp_goOnFrom_33 ?_
      have hop : s_Tr_isOpenIn (um_set memj 9 (s * 24 + t) (-2) (17 + t)) (q1.2.1 s) = s_Tr_isOpenIn (gX tr t) (q1.2.1 s) := s_open_congr (fun j hj => by rw [um_k (by omega)]; exact (hTj.2 t ht2).2 j hj)
      refine lv_aload_n S.1 S.2.1 d_Sp_goOnFrom_34 rfl (lv_at hl 0 rfl) ?_
      refine u_get (v := .ref (G.2.1 4)) S hw 3 (by decide) rfl rfl in_Sp 0 (by decide) lf_Sp_9 rfl d_Sp_goOnFrom_35 ?_
      refine lv_iload_n S.1 S.2.1 d_Sp_goOnFrom_38 rfl (lv_at hl 1 rfl) ?_
      refine u_iaN S hw 4 0 (by decide) rfl rfl (j := s) rfl (by omega) (by decide) d_Sp_goOnFrom_39 ?_
      refine u_top (y := (memj 4 s)) rfl ?_
      refine u_top (y := (q1.2.1 s)) (hSj.2.1 s hs1).1 ?_
      refine u_calli hw (va_runV (As := [.int (q1.2.1 s)]) (rest := []) S (c_Tr_isOpenIn l G (um_set memj 9 ((s * 24) + t) (-2 : Int32)) t (by omega) (q1.2.1 s)) ⟨u_cB S.2.2.2.2 t_Tr_isOpenIn ln_Tr lm_Sp_64 hd_Tr_isOpenIn rfl rfl ⟨Nat.le_of_ble_eq_true rfl, Nat.le_of_ble_eq_true rfl⟩, S.2.2.2.2 _ li_Tr_isOpenIn, S.2.2.2.2 _ ls_Tr_isOpenIn⟩ (u_preV hw (17 + t) (by omega) (sh_Tr t (by omega)) rfl) rfl rfl hl.1 rfl (lv_room (Nat.le_of_ble_eq_true rfl)) d_Sp_goOnFrom_40 ⟨Nat.zero_le _, Nat.zero_le _⟩) (fun r4 mem3 H locs hp hw => ?_)
      obtain ⟨hp, rfl⟩ := hp
      refine u_top (y := (s_Tr_isOpenIn ((um_set memj 9 ((s * 24) + t) (-2 : Int32)) (17 + t)) (q1.2.1 s))) hp ?_
      refine u_top (y := (s_Tr_isOpenIn (gX tr t) (q1.2.1 s))) hop ?_
      refine lv_if_eq (tgt := 86) S.1 S.2.1 d_Sp_goOnFrom_43 (by decide) (fun c5 => ?_) (fun c5 => ?_)
      · skip
        have hno : ¬ (t < n ∧ opn tr t (q1.2.1 s) = true) := fun z => of_decide_eq_true z.2 c5
        have hbr2 := min_step hbr ht2 (bst_no (fun z => hno ⟨ht2, z⟩))
        refine lv_iinc (v := (nI (t + 1))) (lv' := [(4, .int (nI (t + 1))), (0, .ref (G.2.1 3)), (1, .int (nI s)), (2, .ref (G.2.1 1)), (3, .int (nI n))]) S.1 S.2.1 d_Sp_goOnFrom_86 hl (k := 4) rfl (nI_1 _) (by decide) rfl (fun ls hl => ?_)
        refine lv_goto (tgt := 3) S.1 S.2.1 d_Sp_goOnFrom_89 (by decide) ?_
        exact ih3 (t + 1, q1) _ H locs ls (by omega) hw ⟨(by omega), hbr2, (RXs_9 hSj), ⟨nn1, hH1⟩, (RXp_no hPj ht24 hs1 hk1 hno), (fXE_s hFj (by decide)), lv_sub hl [1, 2, 3, 4, 0] rfl⟩
      · skip
        have ho : opn tr t (q1.2.1 s) = true := dt c5
        have hld : s_Tr_leadsFrom (um_set memj 9 (s * 24 + t) (-2) (17 + t)) (q1.2.1 s) = led tr t (q1.2.1 s) := s_lead_congr (fun j hj => by rw [um_k (by omega)]; exact (hTj.2 t ht2).2 j hj)
        refine lv_aload_n S.1 S.2.1 d_Sp_goOnFrom_46 rfl (lv_at hl 0 rfl) ?_
        refine lv_aload_n S.1 S.2.1 d_Sp_goOnFrom_47 rfl (lv_at hl 2 rfl) ?_
        refine lv_iload S.1 S.2.1 d_Sp_goOnFrom_48 (lv_at hl 4 rfl) ?_
        refine u_aaN S hw 1 2 (by decide) rfl rfl (j := t) rfl (by omega) (by decide) (v := .ref (G.2.1 (17 + t))) rfl d_Sp_goOnFrom_50 ?_
        refine lv_aload_n S.1 S.2.1 d_Sp_goOnFrom_51 rfl (lv_at hl 0 rfl) ?_
        refine u_get (v := .ref (G.2.1 4)) S hw 3 (by decide) rfl rfl in_Sp 0 (by decide) lf_Sp_9 rfl d_Sp_goOnFrom_52 ?_
        refine lv_iload_n S.1 S.2.1 d_Sp_goOnFrom_55 rfl (lv_at hl 1 rfl) ?_
        refine u_iaN S hw 4 0 (by decide) rfl rfl (j := s) rfl (by omega) (by decide) d_Sp_goOnFrom_56 ?_
        refine u_top (y := (memj 4 s)) rfl ?_
        refine u_top (y := (q1.2.1 s)) (hSj.2.1 s hs1).1 ?_
        refine u_calli hw (va_runV (As := [.int (q1.2.1 s)]) (rest := [.ref (G.2.1 3)]) S (c_Tr_leadsFrom l G (um_set memj 9 ((s * 24) + t) (-2 : Int32)) t (by omega) (q1.2.1 s)) ⟨u_cB S.2.2.2.2 t_Tr_leadsFrom ln_Tr lm_Sp_70 hd_Tr_leadsFrom rfl rfl ⟨Nat.le_of_ble_eq_true rfl, Nat.le_of_ble_eq_true rfl⟩, S.2.2.2.2 _ li_Tr_leadsFrom, S.2.2.2.2 _ ls_Tr_leadsFrom⟩ (u_preV hw (17 + t) (by omega) (sh_Tr t (by omega)) rfl) rfl rfl hl.1 rfl (lv_room (Nat.le_of_ble_eq_true rfl)) d_Sp_goOnFrom_57 ⟨Nat.zero_le _, Nat.zero_le _⟩) (fun r7 mem6 H locs hp hw => ?_)
        obtain ⟨hp, rfl⟩ := hp
        refine u_top (y := (s_Tr_leadsFrom ((um_set memj 9 ((s * 24) + t) (-2 : Int32)) (17 + t)) (q1.2.1 s))) hp ?_
        refine u_top (y := (led tr t (q1.2.1 s))) hld ?_
        have hnn1 : ∀ j, j < 1024 → um_set memj 9 (s * 24 + t) (-2) 12 j = nI (nn1 j) ∧ nn1 j ≤ 300 := fun j hj => ⟨(hH1.1 j hj).1, by have := (hH1.1 j hj).2; omega⟩
        refine lv_iload_n S.1 S.2.1 d_Sp_goOnFrom_60 rfl (lv_at hl 1 rfl) ?_
        refine lv_iload S.1 S.2.1 d_Sp_goOnFrom_61 (lv_at hl 4 rfl) ?_
        refine u_calli hw (va_runV (As := [.int (led tr t (q1.2.1 s)), .int (nI s), .int (nI t)]) (rest := []) S (c_Sp_numberFor l G (um_set memj 9 ((s * 24) + t) (-2 : Int32)) nn1 q1.1 s (led tr t (q1.2.1 s)) (nI t) hnn1 hk1 hSj.1 (by omega)) ⟨u_cB S.2.2.2.2 t_Sp_numberFor ln_Sp lm_Sp_74 hd_Sp_numberFor rfl rfl ⟨Nat.le_of_ble_eq_true rfl, Nat.le_of_ble_eq_true rfl⟩, S.2.2.2.2 _ li_Sp_numberFor, S.2.2.2.2 _ ls_Sp_numberFor⟩ (u_preV hw 3 (by decide) rfl rfl) rfl rfl hl.1 rfl (lv_room (Nat.le_of_ble_eq_true rfl)) d_Sp_goOnFrom_63 ⟨Nat.zero_le _, Nat.zero_le _⟩) (fun r9 mem8 H locs hp hw => ?_)
        have hp63 := hp
        refine lv_istore (lv' := [(5, .int r9), (0, .ref (G.2.1 3)), (1, .int (nI s)), (2, .ref (G.2.1 1)), (3, .int (nI n)), (4, .int (nI t))]) S.1 S.2.1 d_Sp_goOnFrom_66 hl (by decide) rfl (fun ls hl => ?_)
        refine lv_iload S.1 S.2.1 d_Sp_goOnFrom_68 (lv_at hl 0 rfl) ?_
        refine lv_bipush (v := (-2 : Int32)) S.1 S.2.1 d_Sp_goOnFrom_70 (by decide) ?_
        refine lv_icmp_ne (tgt := 77) S.1 S.2.1 d_Sp_goOnFrom_72 (by decide) (fun c10 => ?_) (fun c10 => ?_)
        · skip
          obtain ⟨q2, u, hst, rfl, hu, hul, hS2, ⟨nn2, hH2⟩, hP2, hF2, hs2, ho2⟩ := nf_some (X := um_set memj 9 (s * 24 + t) (-2)) (RXs_9 hSj) hH1 (RXp_w hPj) (fXE_s hFj (by decide)) hwj hs1 ht2 hn24 ho hp63 c10
          have hk2 := (bst_wf (S_led (fun t ht => (hT.2 t ht).1) t ht2) hwj hs1 ht2 hst).1.2.1
          refine lv_aload_n S.1 S.2.1 d_Sp_goOnFrom_77 rfl (lv_at hl 1 rfl) ?_
          refine lv_iload_n S.1 S.2.1 d_Sp_goOnFrom_78 rfl (lv_at hl 2 rfl) ?_
          refine lv_iload S.1 S.2.1 d_Sp_goOnFrom_79 (lv_at hl 5 rfl) ?_
          refine lv_iload S.1 S.2.1 d_Sp_goOnFrom_81 (lv_at hl 0 rfl) ?_
          refine u_callv hw (va_runV (As := [.int (nI s), .int (nI t), .int (nI u)]) (rest := []) S (c_Sp_join l G mem8 s t u (by omega) (by omega) (by omega)) ⟨u_cB S.2.2.2.2 t_Sp_join ln_Sp lm_Sp_78 hd_Sp_join rfl rfl ⟨Nat.le_of_ble_eq_true rfl, Nat.le_of_ble_eq_true rfl⟩, S.2.2.2.2 _ li_Sp_join, S.2.2.2.2 _ ls_Sp_join⟩ (u_preV hw 3 (by decide) rfl rfl) rfl rfl hl.1 rfl (lv_room (Nat.le_of_ble_eq_true rfl)) d_Sp_goOnFrom_83 ⟨Nat.zero_le _, Nat.zero_le _⟩) (fun mem11 H locs hp hw => ?_)
          subst hp
          refine lv_iinc (v := (nI (t + 1))) (lv' := [(4, .int (nI (t + 1))), (5, .int (nI u)), (0, .ref (G.2.1 3)), (1, .int (nI s)), (2, .ref (G.2.1 1)), (3, .int (nI n))]) S.1 S.2.1 d_Sp_goOnFrom_86 hl (k := 5) rfl (nI_1 _) (by decide) rfl (fun ls hl => ?_)
          refine lv_goto (tgt := 3) S.1 S.2.1 d_Sp_goOnFrom_89 (by decide) ?_
          exact ih3 (t + 1, q2) _ H locs ls (by omega) hw ⟨(by omega), (min_step hbr ht2 hst), (RXs_j hS2), ⟨nn2, by rw [join_12]; exact hH2⟩, (RXp_join hP2 ht2 hn24 hs2 hk2 ho2 hu hul), (fXE_join hF2), lv_sub hl [2, 3, 4, 5, 0] rfl⟩
        · skip
          obtain ⟨hst, hF2, h12⟩ := nf_none (X := um_set memj 9 (s * 24 + t) (-2)) (RXs_9 hSj) hH1 (fXE_s hFj (by decide)) hwj ho hp63 c10
          refine lv_iconst (v := (0 : Int32)) S.1 S.2.1 d_Sp_goOnFrom_75 (by decide) ?_
          exact u_zret S hr hlk hw (by first | rfl | assumption | exact nb01 (z_Ds_isBelow _ _)) ⟨hF2, Or.inr ⟨by have z := brow_none (min_step hbr ht2 hst) (n - min (t + 1) n); rw [show min (t + 1) n + (n - min (t + 1) n) = n by omega] at z; exact z, rfl, nn1, fun j hj => by rw [h12]; exact ⟨(hH1.1 j hj).1, by have := (hH1.1 j hj).2; omega⟩⟩⟩ d_Sp_goOnFrom_76
