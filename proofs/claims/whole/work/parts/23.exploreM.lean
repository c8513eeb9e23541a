set_option maxHeartbeats 4000000 in
set_option maxRecDepth 100000 in
theorem c_Mo_explore (l : Launch) (G : UG) (mem : um_M) (n v : Nat) (tr : Nat → Nat → Nat) (hT : RMt mem n tr) (hv : mem 0 9 = nI v) (hvl : v < 256) : MetM l G y_Mo_explore b_Mo_explore 4 (some .int) ({ frames := 2, cells := 0, slots := 0, locals := 51 }) [.ref (G.2.1 0)] mem (fun r mem' => fME mem mem' ∧ ((spc n tr (nI v) = none ∧ r = -4 ∧ mem' 0 18 = 0 ∧ ∃ k, k ≤ 300 ∧ mem' 0 17 = nI k) ∨ (∃ q, spc n tr (nI v) = some q ∧ r = nI q.1 ∧ mem' 0 18 = 1 ∧ RMq mem' q))) := by
  refine u_start [.ref (G.2.1 0)] (by decide) (Nat.le_of_ble_eq_true rfl) ?_
  intro p_ e_ s_ m_ bl_ me_ c_ ls S hr hlk hin hl hB
  have hw := uH_start hB
  have hl : lv_has ls 4 [(0, .ref (G.2.1 0))] := hl
  refine lv_aload_n S.1 S.2.1 d_Mo_explore_0 rfl (lv_at hl 0 rfl) ?_
  refine lv_iconst (v := (0 : Int32)) S.1 S.2.1 d_Mo_explore_1 (by decide) ?_
  refine u_put S hw 0 (by decide) rfl rfl in_Mo ty_Mo tk_Mo nm_Mo 18 (by decide) lf_Mo_91 rfl rfl (by first | rfl | assumption) rfl (Nat.le_of_ble_eq_true rfl) rfl d_Mo_explore_2 (fun H locs hw => ?_)
  refine lv_aload_n S.1 S.2.1 d_Mo_explore_5 rfl (lv_at hl 0 rfl) ?_
  refine lv_iconst (v := (1 : Int32)) S.1 S.2.1 d_Mo_explore_6 (by decide) ?_
  refine u_put S hw 0 (by decide) rfl rfl in_Mo ty_Mo tk_Mo nm_Mo 17 (by decide) lf_Mo_106 rfl rfl rfl rfl (Nat.le_of_ble_eq_true rfl) rfl d_Mo_explore_7 (fun H locs hw => ?_)
  refine lv_aload_n S.1 S.2.1 d_Mo_explore_10 rfl (lv_at hl 0 rfl) ?_
  refine u_get (v := .ref (G.2.1 8)) S hw 0 (by decide) rfl rfl in_Mo 12 (by decide) lf_Mo_31 rfl d_Mo_explore_11 ?_
  refine lv_iconst (v := (0 : Int32)) S.1 S.2.1 d_Mo_explore_14 (by decide) ?_
  refine lv_aload_n S.1 S.2.1 d_Mo_explore_15 rfl (lv_at hl 0 rfl) ?_
  refine u_calli hw (va_runV (As := []) (rest := [.int (0 : Int32), .ref (G.2.1 8)]) S (c_Mo_first l G (um_set (um_set mem 0 18 (0 : Int32)) 0 17 (1 : Int32)) ) ⟨u_cB S.2.2.2.2 t_Mo_first ln_Mo lm_Mo_47 hd_Mo_first rfl rfl ⟨Nat.le_of_ble_eq_true rfl, Nat.le_of_ble_eq_true rfl⟩, S.2.2.2.2 _ li_Mo_first, S.2.2.2.2 _ ls_Mo_first⟩ (u_preV hw 0 (by decide) rfl rfl) rfl rfl hl.1 rfl (lv_room (Nat.le_of_ble_eq_true rfl)) d_Mo_explore_16 ⟨Nat.zero_le _, Nat.zero_le _⟩) (fun r2 mem1 H locs hp hw => ?_)
  obtain ⟨hp, rfl⟩ := hp
  refine u_top (y := (s_Mo_first (mem 0 9))) hp ?_
  refine u_top (y := (cvI (nI v))) (by rw [hv]; exact (S_first hvl).1) ?_
  refine u_isN S hw 8 0 (by decide) (fun _ => rfl) rfl (j := 0) rfl (by decide) (by decide) d_Mo_explore_19 (fun H locs hw => ?_)
  refine lv_aload_n S.1 S.2.1 d_Mo_explore_20 rfl (lv_at hl 0 rfl) ?_
  refine u_get (v := .ref (G.2.1 9)) S hw 0 (by decide) rfl rfl in_Mo 13 (by decide) lf_Mo_34 rfl d_Mo_explore_21 ?_
  refine lv_iconst (v := (0 : Int32)) S.1 S.2.1 d_Mo_explore_24 (by decide) ?_
  refine lv_iconst (v := (-1 : Int32)) S.1 S.2.1 d_Mo_explore_25 (by decide) ?_
  refine u_isN S hw 9 0 (by decide) (fun _ => rfl) rfl (j := 0) rfl (by decide) (by decide) d_Mo_explore_26 (fun H locs hw => ?_)
  refine lv_aload_n S.1 S.2.1 d_Mo_explore_27 rfl (lv_at hl 0 rfl) ?_
  refine u_get (v := .ref (G.2.1 11)) S hw 0 (by decide) rfl rfl in_Mo 15 (by decide) lf_Mo_40 rfl d_Mo_explore_28 ?_
  refine lv_iconst (v := (0 : Int32)) S.1 S.2.1 d_Mo_explore_31 (by decide) ?_
  refine lv_iconst (v := (0 : Int32)) S.1 S.2.1 d_Mo_explore_32 (by decide) ?_
  refine u_isN S hw 11 0 (by decide) (fun _ => rfl) rfl (j := 0) rfl (by decide) (by decide) d_Mo_explore_33 (fun H locs hw => ?_)
  refine lv_iconst (v := (0 : Int32)) S.1 S.2.1 d_Mo_explore_34 (by decide) ?_
  refine lv_istore_n (lv' := [(1, .int (0 : Int32)), (0, .ref (G.2.1 0))]) S.1 S.2.1 d_Mo_explore_35 rfl hl (by decide) rfl (fun ls hl => ?_)
  refine u_loop (σ := Nat × Bq) (fun (x : Nat × Bq) (mem_ : um_M) (ls : Array Slot) => match x with | (s, q) => (s ≤ q.1) ∧ (bfs n tr (nI v) s = some q) ∧ (RMq mem_ q) ∧ (fME mem mem_) ∧ (mem_ 0 18 = 0) ∧ lv_has ls 4 [(0, .ref (G.2.1 0)), (1, .int (nI s))]) (fun x => match x with | (s, q) => 301 - s) ?_ (0, ((1, fun _ => nI v, fun _ => 0, fun _ => 0, fun _ => 0) : Bq)) hw ⟨Nat.zero_le _, rfl, RMq_0 rfl rfl rfl, fME_s (fME_s (fME_s (fME_f (fME_f (fME_rf mem) (Or.inr rfl)) (Or.inl rfl)) (by decide)) (by decide)) (by decide), rfl, lv_sub hl [1, 0] rfl⟩
  intro x memi H locs ls hw hI ih36
  obtain ⟨s, q⟩ := x
  obtain ⟨hsk, hb, hR, hF, h18, hl⟩ := hI
  dsimp only at ih36
  have hw0 := bfs_wf (S_led (fun t ht => (hT.2.2 t ht).1)) (S_first hvl).2 s q hb
  have hk0 := hw0.2.1
  have hn24 := hT.2.1
  refine lv_iload_n S.1 S.2.1 d_Mo_explore_36 rfl (lv_at hl 1 rfl) ?_
  refine lv_aload_n S.1 S.2.1 d_Mo_explore_37 rfl (lv_at hl 0 rfl) ?_
  refine u_get (v := .int (memi 0 17)) S hw 0 (by decide) rfl rfl in_Mo 17 (by decide) lf_Mo_106 rfl d_Mo_explore_38 ?_
  refine u_top (y := (nI q.1)) hR.1 ?_
  refine lv_icmp_ge (tgt := 176) S.1 S.2.1 d_Mo_explore_41 (by decide) (fun c3 => ?_) (fun c3 => ?_)
  · skip
    have hs2 : q.1 ≤ s := nle c3 (by omega) (by omega)
    refine lv_aload_n S.1 S.2.1 d_Mo_explore_176 rfl (lv_at hl 0 rfl) ?_
    refine lv_iconst (v := (1 : Int32)) S.1 S.2.1 d_Mo_explore_177 (by decide) ?_
    refine u_put S hw 0 (by decide) rfl rfl in_Mo ty_Mo tk_Mo nm_Mo 18 (by decide) lf_Mo_91 rfl rfl (by first | rfl | assumption) rfl (Nat.le_of_ble_eq_true rfl) rfl d_Mo_explore_178 (fun H locs hw => ?_)
    refine lv_aload_n S.1 S.2.1 d_Mo_explore_181 rfl (lv_at hl 0 rfl) ?_
    refine u_get (v := .int (memi 0 17)) S hw 0 (by decide) rfl rfl in_Mo 17 (by decide) lf_Mo_106 rfl d_Mo_explore_182 ?_
    refine u_top (y := (nI q.1)) hR.1 ?_
    exact u_iret S hr hlk hw ⟨fME_f hF (Or.inr rfl), Or.inr ⟨q, spc_some hb hs2 (by omega), rfl, rfl, hR⟩⟩ d_Mo_explore_185
  · skip
    have hs2 : s < q.1 := nlt c3 (by omega) (by omega)
    refine lv_iconst (v := (0 : Int32)) S.1 S.2.1 d_Mo_explore_44 (by decide) ?_
    refine lv_istore_n (lv' := [(2, .int (0 : Int32)), (0, .ref (G.2.1 0)), (1, .int (nI s))]) S.1 S.2.1 d_Mo_explore_45 rfl hl (by decide) rfl (fun ls hl => ?_)
    refine u_loop (σ := Nat × Bq) (fun (x : Nat × Bq) (mem_ : um_M) (ls : Array Slot) => match x with | (t, q1) => (t ≤ n) ∧ (brow tr s t q = some q1) ∧ (RMq mem_ q1) ∧ (fME mem mem_) ∧ (mem_ 0 18 = 0) ∧ lv_has ls 4 [(0, .ref (G.2.1 0)), (1, .int (nI s)), (2, .int (nI t))]) (fun x => match x with | (t, q1) => n - t) ?_ (0, q) hw ⟨Nat.zero_le _, rfl, hR, hF, h18, lv_sub hl [1, 2, 0] rfl⟩
    intro x memj H locs ls hw hI ih46
    obtain ⟨t, q1⟩ := x
    obtain ⟨htn, hbr, hRj, hFj, h18j, hl⟩ := hI
    dsimp only at ih46
    have hwj := (brow_wf (S_led (fun t ht => (hT.2.2 t ht).1)) hw0 hs2 t q1 htn hbr).1
    have hs1 : s < q1.1 := by have := (brow_wf (S_led (fun t ht => (hT.2.2 t ht).1)) hw0 hs2 t q1 htn hbr).2; omega
    have hk1 := hwj.2.1
    have hTj := RMt_f hT hFj
    refine lv_iload_n S.1 S.2.1 d_Mo_explore_46 rfl (lv_at hl 2 rfl) ?_
    refine lv_aload_n S.1 S.2.1 d_Mo_explore_47 rfl (lv_at hl 0 rfl) ?_
    refine u_get (v := .int (memj 0 7)) S hw 0 (by decide) rfl rfl in_Mo 7 (by decide) lf_Mo_77 rfl d_Mo_explore_48 ?_
    refine u_top (y := (nI n)) hTj.1 ?_
    refine lv_icmp_ge (tgt := 170) S.1 S.2.1 d_Mo_explore_51 (by decide) (fun c4 => ?_) (fun c4 => ?_)
    · skip
      have ht2 : t = n := by have z := nle c4 (by omega) (by omega); omega
      refine lv_iinc (v := (nI (s + 1))) (lv' := [(1, .int (nI (s + 1))), (0, .ref (G.2.1 0)), (2, .int (nI t))]) S.1 S.2.1 d_Mo_explore_170 hl (k := 1) rfl (nI_1 _) (by decide) rfl (fun ls hl => ?_)
      refine lv_goto (tgt := 36) S.1 S.2.1 d_Mo_explore_173 (by decide) ?_
      exact ih36 (s + 1, q1) _ H locs ls (by omega) hw ⟨(by show s + 1 ≤ q1.1; omega), (bfs_next hb hs2 (by rw [← ht2]; exact hbr)), hRj, hFj, h18j, lv_sub hl [1, 0] rfl⟩
    · skip
      have ht2 : t < n := nlt c4 (by omega) (by omega)
      obtain ⟨hok, e1, e2, e3, e4⟩ := hTj.2.2 t ht2
      have e8 := (hRj.2.1 s hs1).1
      have hvs := hwj.2.2.1 s hs1
      have hop : s_Mo_isOpen (memj 1 t) (memj 2 t) (memj 4 t) (memj 8 s) = s_Tr_isOpenIn (gX tr t) (q1.2.1 s) := by rw [e1, e2, e4, e8]; exact S_open hok hvs
      refine lv_aload_n S.1 S.2.1 d_Mo_explore_54 rfl (lv_at hl 0 rfl) ?_
      refine lv_aload_n S.1 S.2.1 d_Mo_explore_55 rfl (lv_at hl 0 rfl) ?_
      refine u_get (v := .ref (G.2.1 8)) S hw 0 (by decide) rfl rfl in_Mo 12 (by decide) lf_Mo_31 rfl d_Mo_explore_56 ?_
      refine lv_iload_n S.1 S.2.1 d_Mo_explore_59 rfl (lv_at hl 1 rfl) ?_
      refine u_iaN S hw 8 0 (by decide) rfl rfl (j := s) rfl (by omega) (by decide) d_Mo_explore_60 ?_
      refine lv_iload_n S.1 S.2.1 d_Mo_explore_61 rfl (lv_at hl 2 rfl) ?_
      refine u_calli hw (va_runV (As := [.int (memj 8 s), .int (nI t)]) (rest := []) S (c_Mo_isOpen l G memj (memj 8 s) t (by omega)) ⟨u_cB S.2.2.2.2 t_Mo_isOpen ln_Mo lm_Mo_80 hd_Mo_isOpen rfl rfl ⟨Nat.le_of_ble_eq_true rfl, Nat.le_of_ble_eq_true rfl⟩, S.2.2.2.2 _ li_Mo_isOpen, S.2.2.2.2 _ ls_Mo_isOpen⟩ (u_preV hw 0 (by decide) rfl rfl) rfl rfl hl.1 rfl (lv_room (Nat.le_of_ble_eq_true rfl)) d_Mo_explore_62 ⟨Nat.zero_le _, Nat.zero_le _⟩) (fun r6 mem5 H locs hp hw => ?_)
      obtain ⟨hp, rfl⟩ := hp
      refine u_top (y := (s_Mo_isOpen (memj 1 t) (memj 2 t) (memj 4 t) (memj 8 s))) hp ?_
      refine u_top (y := (s_Tr_isOpenIn (gX tr t) (q1.2.1 s))) hop ?_
      refine lv_if_ne (tgt := 71) S.1 S.2.1 d_Mo_explore_65 (by decide) (fun c7 => ?_) (fun c7 => ?_)
      · skip
        have ho : opn tr t (q1.2.1 s) = true := dt c7
        have hld : s_Mo_leads (memj 4 t) (memj 1 t) (memj 3 t) (memj 8 s) = cvI (led tr t (q1.2.1 s)) := by rw [e1, e3, e4, e8]; exact (S_lead hok hvs ho).1
        have hvx : vst (led tr t (q1.2.1 s)) := (S_lead hok hvs ho).2
        refine lv_aload_n S.1 S.2.1 d_Mo_explore_71 rfl (lv_at hl 0 rfl) ?_
        refine lv_aload_n S.1 S.2.1 d_Mo_explore_72 rfl (lv_at hl 0 rfl) ?_
        refine u_get (v := .ref (G.2.1 8)) S hw 0 (by decide) rfl rfl in_Mo 12 (by decide) lf_Mo_31 rfl d_Mo_explore_73 ?_
        refine lv_iload_n S.1 S.2.1 d_Mo_explore_76 rfl (lv_at hl 1 rfl) ?_
        refine u_iaN S hw 8 0 (by decide) rfl rfl (j := s) rfl (by omega) (by decide) d_Mo_explore_77 ?_
        refine lv_iload_n S.1 S.2.1 d_Mo_explore_78 rfl (lv_at hl 2 rfl) ?_
        refine u_calli hw (va_runV (As := [.int (memj 8 s), .int (nI t)]) (rest := []) S (c_Mo_leads l G memj (memj 8 s) t (by omega)) ⟨u_cB S.2.2.2.2 t_Mo_leads ln_Mo lm_Mo_109 hd_Mo_leads rfl rfl ⟨Nat.le_of_ble_eq_true rfl, Nat.le_of_ble_eq_true rfl⟩, S.2.2.2.2 _ li_Mo_leads, S.2.2.2.2 _ ls_Mo_leads⟩ (u_preV hw 0 (by decide) rfl rfl) rfl rfl hl.1 rfl (lv_room (Nat.le_of_ble_eq_true rfl)) d_Mo_explore_79 ⟨Nat.zero_le _, Nat.zero_le _⟩) (fun r9 mem8 H locs hp hw => ?_)
        obtain ⟨hp, rfl⟩ := hp
        refine u_top (y := (s_Mo_leads (memj 4 t) (memj 1 t) (memj 3 t) (memj 8 s))) hp ?_
        refine u_top (y := (cvI (led tr t (q1.2.1 s)))) hld ?_
        refine lv_istore_n (lv' := [(3, .int (cvI (led tr t (q1.2.1 s)))), (0, .ref (G.2.1 0)), (1, .int (nI s)), (2, .int (nI t))]) S.1 S.2.1 d_Mo_explore_82 rfl hl (by decide) rfl (fun ls hl => ?_)
        refine lv_aload_n S.1 S.2.1 d_Mo_explore_83 rfl (lv_at hl 1 rfl) ?_
        refine lv_iload_n S.1 S.2.1 d_Mo_explore_84 rfl (lv_at hl 0 rfl) ?_
        refine u_calli hw (va_runV (As := [.int (cvI (led tr t (q1.2.1 s)))]) (rest := []) S (c_Mo_find l G memj (cvI (led tr t (q1.2.1 s))) q1.1 hwj.2.1 hRj.1) ⟨u_cB S.2.2.2.2 t_Mo_find ln_Mo lm_Mo_112 hd_Mo_find rfl rfl ⟨Nat.le_of_ble_eq_true rfl, Nat.le_of_ble_eq_true rfl⟩, S.2.2.2.2 _ li_Mo_find, S.2.2.2.2 _ ls_Mo_find⟩ (u_preV hw 0 (by decide) rfl rfl) rfl rfl hl.1 rfl (lv_room (Nat.le_of_ble_eq_true rfl)) d_Mo_explore_85 ⟨Nat.zero_le _, Nat.zero_le _⟩) (fun r11 mem10 H locs hp hw => ?_)
        obtain ⟨hp, rfl⟩ := hp
        refine u_top (y := (mFind (memj 8) q1.1 (cvI (led tr t (q1.2.1 s))))) hp ?_
        refine u_top (y := (if fnd q1 (led tr t (q1.2.1 s)) < q1.1 then nI (fnd q1 (led tr t (q1.2.1 s))) else (-1 : Int32))) (mFind_fnd hRj hwj hvx) ?_
        refine lv_if_lt (tgt := 94) S.1 S.2.1 d_Mo_explore_88 (by decide) (fun c12 => ?_) (fun c12 => ?_)
        · skip
          have hnf : ¬ fnd q1 (led tr t (q1.2.1 s)) < q1.1 := fun z => by rw [if_pos z] at c12; exact nI_pos (by omega) c12
          refine lv_aload_n S.1 S.2.1 d_Mo_explore_94 rfl (lv_at hl 1 rfl) ?_
          refine u_get (v := .int (memj 0 17)) S hw 0 (by decide) rfl rfl in_Mo 17 (by decide) lf_Mo_106 rfl d_Mo_explore_95 ?_
          refine u_top (y := (nI q1.1)) hRj.1 ?_
          refine lv_sipush (v := (300 : Int32)) S.1 S.2.1 d_Mo_explore_98 (by decide) ?_
          refine lv_icmp_ne (tgt := 107) S.1 S.2.1 d_Mo_explore_101 (by decide) (fun c13 => ?_) (fun c13 => ?_)
          · skip
            have h3 : ¬ q1.1 = 300 := fun z => c13 (by rw [z]; rfl)
            have hst := bst_new ho hnf h3
            refine lv_aload_n S.1 S.2.1 d_Mo_explore_107 rfl (lv_at hl 1 rfl) ?_
            refine u_get (v := .ref (G.2.1 8)) S hw 0 (by decide) rfl rfl in_Mo 12 (by decide) lf_Mo_31 rfl d_Mo_explore_108 ?_
            refine lv_aload_n S.1 S.2.1 d_Mo_explore_111 rfl (lv_at hl 1 rfl) ?_
            refine u_get (v := .int (memj 0 17)) S hw 0 (by decide) rfl rfl in_Mo 17 (by decide) lf_Mo_106 rfl d_Mo_explore_112 ?_
            refine u_top (y := (nI q1.1)) hRj.1 ?_
            refine lv_iload_n S.1 S.2.1 d_Mo_explore_115 rfl (lv_at hl 0 rfl) ?_
            refine u_isN S hw 8 0 (by decide) (fun _ => rfl) rfl (j := q1.1) rfl (by omega) (by decide) d_Mo_explore_116 (fun H locs hw => ?_)
            refine lv_aload_n S.1 S.2.1 d_Mo_explore_117 rfl (lv_at hl 1 rfl) ?_
            refine u_get (v := .ref (G.2.1 9)) S hw 0 (by decide) rfl rfl in_Mo 13 (by decide) lf_Mo_34 rfl d_Mo_explore_118 ?_
            refine lv_aload_n S.1 S.2.1 d_Mo_explore_121 rfl (lv_at hl 1 rfl) ?_
            refine u_get (v := .int (memj 0 17)) S hw 0 (by decide) rfl rfl in_Mo 17 (by decide) lf_Mo_106 rfl d_Mo_explore_122 ?_
            refine u_top (y := (nI q1.1)) hRj.1 ?_
            refine lv_iload_n S.1 S.2.1 d_Mo_explore_125 rfl (lv_at hl 2 rfl) ?_
            refine u_isN S hw 9 0 (by decide) (fun _ => rfl) rfl (j := q1.1) rfl (by omega) (by decide) d_Mo_explore_126 (fun H locs hw => ?_)
            refine lv_aload_n S.1 S.2.1 d_Mo_explore_127 rfl (lv_at hl 1 rfl) ?_
            refine u_get (v := .ref (G.2.1 10)) S hw 0 (by decide) rfl rfl in_Mo 14 (by decide) lf_Mo_37 rfl d_Mo_explore_128 ?_
            refine lv_aload_n S.1 S.2.1 d_Mo_explore_131 rfl (lv_at hl 1 rfl) ?_
            refine u_get (v := .int (memj 0 17)) S hw 0 (by decide) rfl rfl in_Mo 17 (by decide) lf_Mo_106 rfl d_Mo_explore_132 ?_
            refine u_top (y := (nI q1.1)) hRj.1 ?_
            refine lv_iload_n S.1 S.2.1 d_Mo_explore_135 rfl (lv_at hl 3 rfl) ?_
            refine u_isN S hw 10 0 (by decide) (fun _ => rfl) rfl (j := q1.1) rfl (by omega) (by decide) d_Mo_explore_136 (fun H locs hw => ?_)
            refine lv_aload_n S.1 S.2.1 d_Mo_explore_137 rfl (lv_at hl 1 rfl) ?_
            refine u_get (v := .ref (G.2.1 11)) S hw 0 (by decide) rfl rfl in_Mo 15 (by decide) lf_Mo_40 rfl d_Mo_explore_138 ?_
            refine lv_aload_n S.1 S.2.1 d_Mo_explore_141 rfl (lv_at hl 1 rfl) ?_
            refine u_get (v := .int (memj 0 17)) S hw 0 (by decide) rfl rfl in_Mo 17 (by decide) lf_Mo_106 rfl d_Mo_explore_142 ?_
            refine u_top (y := (nI q1.1)) hRj.1 ?_
            refine lv_aload_n S.1 S.2.1 d_Mo_explore_145 rfl (lv_at hl 1 rfl) ?_
            refine u_get (v := .ref (G.2.1 11)) S hw 0 (by decide) rfl rfl in_Mo 15 (by decide) lf_Mo_40 rfl d_Mo_explore_146 ?_
            refine lv_iload_n S.1 S.2.1 d_Mo_explore_149 rfl (lv_at hl 2 rfl) ?_
            refine u_iaN S hw 11 0 (by decide) rfl rfl (j := s) rfl (by omega) (by decide) d_Mo_explore_150 ?_
            refine u_top (y := (memj 11 s)) rfl ?_
            refine u_top (y := (nI (q1.2.2.2.2 s))) (hRj.2.1 s hs1).2 ?_
            refine lv_iconst (v := (1 : Int32)) S.1 S.2.1 d_Mo_explore_151 (by decide) ?_
            refine lv_iadd S.1 S.2.1 d_Mo_explore_152 ?_
            refine u_top (y := (nI ((q1.2.2.2.2 s) + 1))) (nI_add (q1.2.2.2.2 s) 1) ?_
            refine u_isN S hw 11 0 (by decide) (fun _ => rfl) rfl (j := q1.1) rfl (by omega) (by decide) d_Mo_explore_153 (fun H locs hw => ?_)
            refine lv_aload_n S.1 S.2.1 d_Mo_explore_154 rfl (lv_at hl 1 rfl) ?_
            refine lv_dup S.1 S.2.1 d_Mo_explore_155 rfl ?_
            refine u_get (v := .int (memj 0 17)) S hw 0 (by decide) rfl rfl in_Mo 17 (by decide) lf_Mo_106 rfl d_Mo_explore_156 ?_
            refine u_top (y := (nI q1.1)) hRj.1 ?_
            refine lv_iconst (v := (1 : Int32)) S.1 S.2.1 d_Mo_explore_159 (by decide) ?_
            refine lv_iadd S.1 S.2.1 d_Mo_explore_160 ?_
            refine u_top (y := (nI (q1.1 + 1))) (nI_add q1.1 1) ?_
            refine u_put S hw 0 (by decide) rfl rfl in_Mo ty_Mo tk_Mo nm_Mo 17 (by decide) lf_Mo_106 rfl rfl rfl rfl (Nat.le_of_ble_eq_true rfl) rfl d_Mo_explore_161 (fun H locs hw => ?_)
            refine lv_iinc (v := (nI (t + 1))) (lv' := [(2, .int (nI (t + 1))), (3, .int (cvI (led tr t (q1.2.1 s)))), (0, .ref (G.2.1 0)), (1, .int (nI s))]) S.1 S.2.1 d_Mo_explore_164 hl (k := 3) rfl (nI_1 _) (by decide) rfl (fun ls hl => ?_)
            refine lv_goto (tgt := 46) S.1 S.2.1 d_Mo_explore_167 (by decide) ?_
            exact ih46 (t + 1, bnew q1 (led tr t (q1.2.1 s)) s t) _ H locs ls (by omega) hw ⟨(by omega), (brow_next hbr hst), (RMq_new hRj hs1), (fME_f (fME_s (fME_s (fME_s (fME_s hFj (by decide)) (by decide)) (by decide)) (by decide)) (Or.inl rfl)), h18j, lv_sub hl [2, 3, 0] rfl⟩
          · skip
            have h3 : q1.1 = 300 := (nI_eq (b := 300) (by omega) (by decide)).mp c13
            have hst := bst_large ho hnf h3
            refine lv_bipush (v := (-4 : Int32)) S.1 S.2.1 d_Mo_explore_104 (by decide) ?_
            exact u_iret S hr hlk hw ⟨hFj, Or.inl ⟨spc_none hb hs2 (by omega) ht2 (brow_next hbr hst), rfl, h18j, q1.1, hk1, hRj.1⟩⟩ d_Mo_explore_106
        · skip
          have hfd : fnd q1 (led tr t (q1.2.1 s)) < q1.1 := by
                    rcases Nat.lt_or_ge (fnd q1 (led tr t (q1.2.1 s))) q1.1 with z | z
                    · exact z
                    · rw [if_neg (Nat.not_lt.mpr z)] at c12; exact absurd (by decide) c12
          have hst := bst_old ho hfd
          refine lv_goto (tgt := 164) S.1 S.2.1 d_Mo_explore_91 (by decide) ?_
          refine lv_iinc (v := (nI (t + 1))) (lv' := [(2, .int (nI (t + 1))), (3, .int (cvI (led tr t (q1.2.1 s)))), (0, .ref (G.2.1 0)), (1, .int (nI s))]) S.1 S.2.1 d_Mo_explore_164 hl (k := 3) rfl (nI_1 _) (by decide) rfl (fun ls hl => ?_)
          refine lv_goto (tgt := 46) S.1 S.2.1 d_Mo_explore_167 (by decide) ?_
          exact ih46 (t + 1, q1) _ H locs ls (by omega) hw ⟨(by omega), (brow_next hbr hst), hRj, hFj, h18j, lv_sub hl [2, 3, 0] rfl⟩
      · skip
        have hst := bst_no (tr := tr) (s := s) (t := t) (q := q1) (fun z => of_decide_eq_true z c7)
        refine lv_goto (tgt := 164) S.1 S.2.1 d_Mo_explore_68 (by decide) ?_
        refine lv_iinc (v := (nI (t + 1))) (lv' := [(2, .int (nI (t + 1))), (0, .ref (G.2.1 0)), (1, .int (nI s))]) S.1 S.2.1 d_Mo_explore_164 hl (k := 2) rfl (nI_1 _) (by decide) rfl (fun ls hl => ?_)
        refine lv_goto (tgt := 46) S.1 S.2.1 d_Mo_explore_167 (by decide) ?_
        exact ih46 (t + 1, q1) _ H locs ls (by omega) hw ⟨(by omega), (brow_next hbr hst), hRj, hFj, h18j, lv_sub hl [1, 2, 0] rfl⟩
