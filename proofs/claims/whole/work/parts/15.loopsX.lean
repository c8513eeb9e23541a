def s_Pk_allAtLastPlace (a0 : Int32) : Int32 := (if (s_Pk_place a0 (0 : Int32)) = (7 : Int32) then (if (s_Pk_place a0 (1 : Int32)) = (7 : Int32) then (if (s_Pk_place a0 (2 : Int32)) = (7 : Int32) then (1 : Int32) else (0 : Int32)) else (0 : Int32)) else (0 : Int32))
set_option maxHeartbeats 4000000 in
set_option maxRecDepth 100000 in
theorem c_Pk_allAtLastPlace (l : Launch) (a0 : Int32) : MetP l y_Pk_allAtLastPlace b_Pk_allAtLastPlace 3 (some .boolean) ({ frames := 1, cells := 0, slots := 0, locals := 21 }) [.int a0] (s_Pk_allAtLastPlace a0) := by
  refine u_start [.int a0] (by decide) (Nat.le_of_ble_eq_true rfl) ?_
  intro p_ e_ s_ m_ bl_ me_ c_ ls S hr hlk hin hl hB
  have hw : uN s_ ∧ va_S (fun _ => False) s_.heap s_.heap [] := ⟨hB, va_S.rf⟩
  have hl : lv_has ls 3 [(0, .int a0)] := hl
  refine lv_iconst (v := (1 : Int32)) S.1 S.2.1 d_Pk_allAtLastPlace_0 (by decide) ?_
  refine lv_istore_n (lv' := [(1, .int (1 : Int32)), (0, .int a0)]) S.1 S.2.1 d_Pk_allAtLastPlace_1 rfl hl (by decide) rfl (fun ls hl => ?_)
  refine lv_iconst (v := (0 : Int32)) S.1 S.2.1 d_Pk_allAtLastPlace_2 (by decide) ?_
  refine lv_istore_n (lv' := [(2, .int (0 : Int32)), (1, .int (1 : Int32)), (0, .int a0)]) S.1 S.2.1 d_Pk_allAtLastPlace_3 rfl hl (by decide) rfl (fun ls hl => ?_)
  refine lv_iload_n S.1 S.2.1 d_Pk_allAtLastPlace_4 rfl (lv_at hl 0 rfl) ?_
  refine lv_iconst (v := (3 : Int32)) S.1 S.2.1 d_Pk_allAtLastPlace_5 (by decide) ?_
  refine lv_icmp_ge (tgt := 35) S.1 S.2.1 d_Pk_allAtLastPlace_6 (by decide) (fun c1 => ?_) (fun c1 => ?_)
  · skip
    exact absurd c1 (by decide)
  · skip
    refine lv_iload_n S.1 S.2.1 d_Pk_allAtLastPlace_9 rfl (lv_at hl 1 rfl) ?_
    refine lv_if_eq (tgt := 27) S.1 S.2.1 d_Pk_allAtLastPlace_10 (by decide) (fun c2 => ?_) (fun c2 => ?_)
    · skip
      exact absurd c2 (by decide)
    · skip
      refine lv_iload_n S.1 S.2.1 d_Pk_allAtLastPlace_13 rfl (lv_at hl 2 rfl) ?_
      refine lv_iload_n S.1 S.2.1 d_Pk_allAtLastPlace_14 rfl (lv_at hl 0 rfl) ?_
      refine u_callpp hw (va_runS (As := [.int a0, .int (0 : Int32)]) (rest := []) S (c_Pk_place l a0 (0 : Int32)) ⟨u_cB S.2.2.2.2 t_Pk_place ln_Pk lm_Pk_17 hd_Pk_place rfl rfl ⟨Nat.le_of_ble_eq_true rfl, Nat.le_of_ble_eq_true rfl⟩, S.2.2.2.2 _ lt_Pk_place⟩ (u_preP hw.1) rfl rfl hl.1 rfl (lv_room (Nat.le_of_ble_eq_true rfl)) d_Pk_allAtLastPlace_15 ⟨Nat.zero_le _, Nat.zero_le _⟩) (fun r H locs hp hw => ?_)
      refine u_top (y := (s_Pk_place a0 (0 : Int32))) hp ?_
      refine lv_bipush (v := (7 : Int32)) S.1 S.2.1 d_Pk_allAtLastPlace_18 (by decide) ?_
      refine lv_icmp_ne (tgt := 27) S.1 S.2.1 d_Pk_allAtLastPlace_20 (by decide) (fun c3 => ?_) (fun c3 => ?_)
      · skip
        refine lv_iconst (v := (0 : Int32)) S.1 S.2.1 d_Pk_allAtLastPlace_27 (by decide) ?_
        refine lv_istore_n (lv' := [(1, .int (0 : Int32)), (2, .int (0 : Int32)), (0, .int a0)]) S.1 S.2.1 d_Pk_allAtLastPlace_28 rfl hl (by decide) rfl (fun ls hl => ?_)
        refine lv_iinc (v := (1 : Int32)) (lv' := [(2, .int (1 : Int32)), (1, .int (0 : Int32)), (0, .int a0)]) S.1 S.2.1 d_Pk_allAtLastPlace_29 hl (k := 1) rfl (by decide) (by decide) rfl (fun ls hl => ?_)
        refine lv_goto (tgt := 4) S.1 S.2.1 d_Pk_allAtLastPlace_32 (by decide) ?_
        refine lv_iload_n S.1 S.2.1 d_Pk_allAtLastPlace_4 rfl (lv_at hl 0 rfl) ?_
        refine lv_iconst (v := (3 : Int32)) S.1 S.2.1 d_Pk_allAtLastPlace_5 (by decide) ?_
        refine lv_icmp_ge (tgt := 35) S.1 S.2.1 d_Pk_allAtLastPlace_6 (by decide) (fun c4 => ?_) (fun c4 => ?_)
        · skip
          exact absurd c4 (by decide)
        · skip
          refine lv_iload_n S.1 S.2.1 d_Pk_allAtLastPlace_9 rfl (lv_at hl 1 rfl) ?_
          refine lv_if_eq (tgt := 27) S.1 S.2.1 d_Pk_allAtLastPlace_10 (by decide) (fun c5 => ?_) (fun c5 => ?_)
          · skip
            refine lv_iconst (v := (0 : Int32)) S.1 S.2.1 d_Pk_allAtLastPlace_27 (by decide) ?_
            refine lv_istore_n (lv' := [(1, .int (0 : Int32)), (2, .int (1 : Int32)), (0, .int a0)]) S.1 S.2.1 d_Pk_allAtLastPlace_28 rfl hl (by decide) rfl (fun ls hl => ?_)
            refine lv_iinc (v := (2 : Int32)) (lv' := [(2, .int (2 : Int32)), (1, .int (0 : Int32)), (0, .int a0)]) S.1 S.2.1 d_Pk_allAtLastPlace_29 hl (k := 1) rfl (by decide) (by decide) rfl (fun ls hl => ?_)
            refine lv_goto (tgt := 4) S.1 S.2.1 d_Pk_allAtLastPlace_32 (by decide) ?_
            refine lv_iload_n S.1 S.2.1 d_Pk_allAtLastPlace_4 rfl (lv_at hl 0 rfl) ?_
            refine lv_iconst (v := (3 : Int32)) S.1 S.2.1 d_Pk_allAtLastPlace_5 (by decide) ?_
            refine lv_icmp_ge (tgt := 35) S.1 S.2.1 d_Pk_allAtLastPlace_6 (by decide) (fun c6 => ?_) (fun c6 => ?_)
            · skip
              exact absurd c6 (by decide)
            · skip
              refine lv_iload_n S.1 S.2.1 d_Pk_allAtLastPlace_9 rfl (lv_at hl 1 rfl) ?_
              refine lv_if_eq (tgt := 27) S.1 S.2.1 d_Pk_allAtLastPlace_10 (by decide) (fun c7 => ?_) (fun c7 => ?_)
              · skip
                refine lv_iconst (v := (0 : Int32)) S.1 S.2.1 d_Pk_allAtLastPlace_27 (by decide) ?_
                refine lv_istore_n (lv' := [(1, .int (0 : Int32)), (2, .int (2 : Int32)), (0, .int a0)]) S.1 S.2.1 d_Pk_allAtLastPlace_28 rfl hl (by decide) rfl (fun ls hl => ?_)
                refine lv_iinc (v := (3 : Int32)) (lv' := [(2, .int (3 : Int32)), (1, .int (0 : Int32)), (0, .int a0)]) S.1 S.2.1 d_Pk_allAtLastPlace_29 hl (k := 1) rfl (by decide) (by decide) rfl (fun ls hl => ?_)
                refine lv_goto (tgt := 4) S.1 S.2.1 d_Pk_allAtLastPlace_32 (by decide) ?_
                refine lv_iload_n S.1 S.2.1 d_Pk_allAtLastPlace_4 rfl (lv_at hl 0 rfl) ?_
                refine lv_iconst (v := (3 : Int32)) S.1 S.2.1 d_Pk_allAtLastPlace_5 (by decide) ?_
                refine lv_icmp_ge (tgt := 35) S.1 S.2.1 d_Pk_allAtLastPlace_6 (by decide) (fun c8 => ?_) (fun c8 => ?_)
                · skip
                  refine lv_iload_n S.1 S.2.1 d_Pk_allAtLastPlace_35 rfl (lv_at hl 1 rfl) ?_
                  exact u_pzret S hr hlk hw (by first | rfl | assumption | exact nb01 (z_Ds_isBelow _ _)) (by unfold s_Pk_allAtLastPlace; simp only [if_neg c3]) d_Pk_allAtLastPlace_36
                · skip
                  exact absurd (by decide) c8
              · skip
                exact absurd (by decide) c7
          · skip
            exact absurd (by decide) c5
      · skip
        refine lv_iconst (v := (1 : Int32)) S.1 S.2.1 d_Pk_allAtLastPlace_23 (by decide) ?_
        refine lv_goto (tgt := 28) S.1 S.2.1 d_Pk_allAtLastPlace_24 (by decide) ?_
        refine lv_istore_n (lv' := [(1, .int (1 : Int32)), (2, .int (0 : Int32)), (0, .int a0)]) S.1 S.2.1 d_Pk_allAtLastPlace_28 rfl hl (by decide) rfl (fun ls hl => ?_)
        refine lv_iinc (v := (1 : Int32)) (lv' := [(2, .int (1 : Int32)), (1, .int (1 : Int32)), (0, .int a0)]) S.1 S.2.1 d_Pk_allAtLastPlace_29 hl (k := 1) rfl (by decide) (by decide) rfl (fun ls hl => ?_)
        refine lv_goto (tgt := 4) S.1 S.2.1 d_Pk_allAtLastPlace_32 (by decide) ?_
        refine lv_iload_n S.1 S.2.1 d_Pk_allAtLastPlace_4 rfl (lv_at hl 0 rfl) ?_
        refine lv_iconst (v := (3 : Int32)) S.1 S.2.1 d_Pk_allAtLastPlace_5 (by decide) ?_
        refine lv_icmp_ge (tgt := 35) S.1 S.2.1 d_Pk_allAtLastPlace_6 (by decide) (fun c9 => ?_) (fun c9 => ?_)
        · skip
          exact absurd c9 (by decide)
        · skip
          refine lv_iload_n S.1 S.2.1 d_Pk_allAtLastPlace_9 rfl (lv_at hl 1 rfl) ?_
          refine lv_if_eq (tgt := 27) S.1 S.2.1 d_Pk_allAtLastPlace_10 (by decide) (fun c10 => ?_) (fun c10 => ?_)
          · skip
            exact absurd c10 (by decide)
          · skip
            refine lv_iload_n S.1 S.2.1 d_Pk_allAtLastPlace_13 rfl (lv_at hl 2 rfl) ?_
            refine lv_iload_n S.1 S.2.1 d_Pk_allAtLastPlace_14 rfl (lv_at hl 0 rfl) ?_
            refine u_callpp hw (va_runS (As := [.int a0, .int (1 : Int32)]) (rest := []) S (c_Pk_place l a0 (1 : Int32)) ⟨u_cB S.2.2.2.2 t_Pk_place ln_Pk lm_Pk_17 hd_Pk_place rfl rfl ⟨Nat.le_of_ble_eq_true rfl, Nat.le_of_ble_eq_true rfl⟩, S.2.2.2.2 _ lt_Pk_place⟩ (u_preP hw.1) rfl rfl hl.1 rfl (lv_room (Nat.le_of_ble_eq_true rfl)) d_Pk_allAtLastPlace_15 ⟨Nat.zero_le _, Nat.zero_le _⟩) (fun r H locs hp hw => ?_)
            refine u_top (y := (s_Pk_place a0 (1 : Int32))) hp ?_
            refine lv_bipush (v := (7 : Int32)) S.1 S.2.1 d_Pk_allAtLastPlace_18 (by decide) ?_
            refine lv_icmp_ne (tgt := 27) S.1 S.2.1 d_Pk_allAtLastPlace_20 (by decide) (fun c11 => ?_) (fun c11 => ?_)
            · skip
              refine lv_iconst (v := (0 : Int32)) S.1 S.2.1 d_Pk_allAtLastPlace_27 (by decide) ?_
              refine lv_istore_n (lv' := [(1, .int (0 : Int32)), (2, .int (1 : Int32)), (0, .int a0)]) S.1 S.2.1 d_Pk_allAtLastPlace_28 rfl hl (by decide) rfl (fun ls hl => ?_)
              refine lv_iinc (v := (2 : Int32)) (lv' := [(2, .int (2 : Int32)), (1, .int (0 : Int32)), (0, .int a0)]) S.1 S.2.1 d_Pk_allAtLastPlace_29 hl (k := 1) rfl (by decide) (by decide) rfl (fun ls hl => ?_)
              refine lv_goto (tgt := 4) S.1 S.2.1 d_Pk_allAtLastPlace_32 (by decide) ?_
              refine lv_iload_n S.1 S.2.1 d_Pk_allAtLastPlace_4 rfl (lv_at hl 0 rfl) ?_
              refine lv_iconst (v := (3 : Int32)) S.1 S.2.1 d_Pk_allAtLastPlace_5 (by decide) ?_
              refine lv_icmp_ge (tgt := 35) S.1 S.2.1 d_Pk_allAtLastPlace_6 (by decide) (fun c12 => ?_) (fun c12 => ?_)
              · skip
                exact absurd c12 (by decide)
              · skip
                refine lv_iload_n S.1 S.2.1 d_Pk_allAtLastPlace_9 rfl (lv_at hl 1 rfl) ?_
                refine lv_if_eq (tgt := 27) S.1 S.2.1 d_Pk_allAtLastPlace_10 (by decide) (fun c13 => ?_) (fun c13 => ?_)
                · skip
                  refine lv_iconst (v := (0 : Int32)) S.1 S.2.1 d_Pk_allAtLastPlace_27 (by decide) ?_
                  refine lv_istore_n (lv' := [(1, .int (0 : Int32)), (2, .int (2 : Int32)), (0, .int a0)]) S.1 S.2.1 d_Pk_allAtLastPlace_28 rfl hl (by decide) rfl (fun ls hl => ?_)
                  refine lv_iinc (v := (3 : Int32)) (lv' := [(2, .int (3 : Int32)), (1, .int (0 : Int32)), (0, .int a0)]) S.1 S.2.1 d_Pk_allAtLastPlace_29 hl (k := 1) rfl (by decide) (by decide) rfl (fun ls hl => ?_)
                  refine lv_goto (tgt := 4) S.1 S.2.1 d_Pk_allAtLastPlace_32 (by decide) ?_
                  refine lv_iload_n S.1 S.2.1 d_Pk_allAtLastPlace_4 rfl (lv_at hl 0 rfl) ?_
                  refine lv_iconst (v := (3 : Int32)) S.1 S.2.1 d_Pk_allAtLastPlace_5 (by decide) ?_
                  refine lv_icmp_ge (tgt := 35) S.1 S.2.1 d_Pk_allAtLastPlace_6 (by decide) (fun c14 => ?_) (fun c14 => ?_)
                  · skip
                    refine lv_iload_n S.1 S.2.1 d_Pk_allAtLastPlace_35 rfl (lv_at hl 1 rfl) ?_
                    exact u_pzret S hr hlk hw (by first | rfl | assumption | exact nb01 (z_Ds_isBelow _ _)) (by unfold s_Pk_allAtLastPlace; simp only [if_pos c3, if_neg c11]) d_Pk_allAtLastPlace_36
                  · skip
                    exact absurd (by decide) c14
                · skip
                  exact absurd (by decide) c13
            · skip
              refine lv_iconst (v := (1 : Int32)) S.1 S.2.1 d_Pk_allAtLastPlace_23 (by decide) ?_
              refine lv_goto (tgt := 28) S.1 S.2.1 d_Pk_allAtLastPlace_24 (by decide) ?_
              refine lv_istore_n (lv' := [(1, .int (1 : Int32)), (2, .int (1 : Int32)), (0, .int a0)]) S.1 S.2.1 d_Pk_allAtLastPlace_28 rfl hl (by decide) rfl (fun ls hl => ?_)
              refine lv_iinc (v := (2 : Int32)) (lv' := [(2, .int (2 : Int32)), (1, .int (1 : Int32)), (0, .int a0)]) S.1 S.2.1 d_Pk_allAtLastPlace_29 hl (k := 1) rfl (by decide) (by decide) rfl (fun ls hl => ?_)
              refine lv_goto (tgt := 4) S.1 S.2.1 d_Pk_allAtLastPlace_32 (by decide) ?_
              refine lv_iload_n S.1 S.2.1 d_Pk_allAtLastPlace_4 rfl (lv_at hl 0 rfl) ?_
              refine lv_iconst (v := (3 : Int32)) S.1 S.2.1 d_Pk_allAtLastPlace_5 (by decide) ?_
              refine lv_icmp_ge (tgt := 35) S.1 S.2.1 d_Pk_allAtLastPlace_6 (by decide) (fun c15 => ?_) (fun c15 => ?_)
              · skip
                exact absurd c15 (by decide)
              · skip
                refine lv_iload_n S.1 S.2.1 d_Pk_allAtLastPlace_9 rfl (lv_at hl 1 rfl) ?_
                refine lv_if_eq (tgt := 27) S.1 S.2.1 d_Pk_allAtLastPlace_10 (by decide) (fun c16 => ?_) (fun c16 => ?_)
                · skip
                  exact absurd c16 (by decide)
                · skip
                  refine lv_iload_n S.1 S.2.1 d_Pk_allAtLastPlace_13 rfl (lv_at hl 2 rfl) ?_
                  refine lv_iload_n S.1 S.2.1 d_Pk_allAtLastPlace_14 rfl (lv_at hl 0 rfl) ?_
                  refine u_callpp hw (va_runS (As := [.int a0, .int (2 : Int32)]) (rest := []) S (c_Pk_place l a0 (2 : Int32)) ⟨u_cB S.2.2.2.2 t_Pk_place ln_Pk lm_Pk_17 hd_Pk_place rfl rfl ⟨Nat.le_of_ble_eq_true rfl, Nat.le_of_ble_eq_true rfl⟩, S.2.2.2.2 _ lt_Pk_place⟩ (u_preP hw.1) rfl rfl hl.1 rfl (lv_room (Nat.le_of_ble_eq_true rfl)) d_Pk_allAtLastPlace_15 ⟨Nat.zero_le _, Nat.zero_le _⟩) (fun r H locs hp hw => ?_)
                  refine u_top (y := (s_Pk_place a0 (2 : Int32))) hp ?_
                  refine lv_bipush (v := (7 : Int32)) S.1 S.2.1 d_Pk_allAtLastPlace_18 (by decide) ?_
                  refine lv_icmp_ne (tgt := 27) S.1 S.2.1 d_Pk_allAtLastPlace_20 (by decide) (fun c17 => ?_) (fun c17 => ?_)
                  · skip
                    refine lv_iconst (v := (0 : Int32)) S.1 S.2.1 d_Pk_allAtLastPlace_27 (by decide) ?_
                    refine lv_istore_n (lv' := [(1, .int (0 : Int32)), (2, .int (2 : Int32)), (0, .int a0)]) S.1 S.2.1 d_Pk_allAtLastPlace_28 rfl hl (by decide) rfl (fun ls hl => ?_)
                    refine lv_iinc (v := (3 : Int32)) (lv' := [(2, .int (3 : Int32)), (1, .int (0 : Int32)), (0, .int a0)]) S.1 S.2.1 d_Pk_allAtLastPlace_29 hl (k := 1) rfl (by decide) (by decide) rfl (fun ls hl => ?_)
                    refine lv_goto (tgt := 4) S.1 S.2.1 d_Pk_allAtLastPlace_32 (by decide) ?_
                    refine lv_iload_n S.1 S.2.1 d_Pk_allAtLastPlace_4 rfl (lv_at hl 0 rfl) ?_
                    refine lv_iconst (v := (3 : Int32)) S.1 S.2.1 d_Pk_allAtLastPlace_5 (by decide) ?_
                    refine lv_icmp_ge (tgt := 35) S.1 S.2.1 d_Pk_allAtLastPlace_6 (by decide) (fun c18 => ?_) (fun c18 => ?_)
                    · skip
                      refine lv_iload_n S.1 S.2.1 d_Pk_allAtLastPlace_35 rfl (lv_at hl 1 rfl) ?_
                      exact u_pzret S hr hlk hw (by first | rfl | assumption | exact nb01 (z_Ds_isBelow _ _)) (by unfold s_Pk_allAtLastPlace; simp only [if_pos c3, if_pos c11, if_neg c17]) d_Pk_allAtLastPlace_36
                    · skip
                      exact absurd (by decide) c18
                  · skip
                    refine lv_iconst (v := (1 : Int32)) S.1 S.2.1 d_Pk_allAtLastPlace_23 (by decide) ?_
                    refine lv_goto (tgt := 28) S.1 S.2.1 d_Pk_allAtLastPlace_24 (by decide) ?_
                    refine lv_istore_n (lv' := [(1, .int (1 : Int32)), (2, .int (2 : Int32)), (0, .int a0)]) S.1 S.2.1 d_Pk_allAtLastPlace_28 rfl hl (by decide) rfl (fun ls hl => ?_)
                    refine lv_iinc (v := (3 : Int32)) (lv' := [(2, .int (3 : Int32)), (1, .int (1 : Int32)), (0, .int a0)]) S.1 S.2.1 d_Pk_allAtLastPlace_29 hl (k := 1) rfl (by decide) (by decide) rfl (fun ls hl => ?_)
                    refine lv_goto (tgt := 4) S.1 S.2.1 d_Pk_allAtLastPlace_32 (by decide) ?_
                    refine lv_iload_n S.1 S.2.1 d_Pk_allAtLastPlace_4 rfl (lv_at hl 0 rfl) ?_
                    refine lv_iconst (v := (3 : Int32)) S.1 S.2.1 d_Pk_allAtLastPlace_5 (by decide) ?_
                    refine lv_icmp_ge (tgt := 35) S.1 S.2.1 d_Pk_allAtLastPlace_6 (by decide) (fun c19 => ?_) (fun c19 => ?_)
                    · skip
                      refine lv_iload_n S.1 S.2.1 d_Pk_allAtLastPlace_35 rfl (lv_at hl 1 rfl) ?_
                      exact u_pzret S hr hlk hw (by first | rfl | assumption | exact nb01 (z_Ds_isBelow _ _)) (by unfold s_Pk_allAtLastPlace; simp only [if_pos c3, if_pos c11, if_pos c17]) d_Pk_allAtLastPlace_36
                    · skip
                      exact absurd (by decide) c19
theorem z_Pk_allAtLastPlace (a0 : Int32) : s_Pk_allAtLastPlace a0 = 0 ∨ s_Pk_allAtLastPlace a0 = 1 := by
  unfold s_Pk_allAtLastPlace
  (repeat' split) <;> first | exact Or.inl rfl | exact Or.inr rfl | exact z_Ds_isBelow _ _
theorem ib_t {a : Int32} {n : Nat} (hn : n < 2 ^ 31) (h : ¬ s_Ds_isBelow a (nI n) = 0) : ∃ i, i < n ∧ a = nI i := by
  unfold s_Ds_isBelow at h
  by_cases h1 : a < 0
  · rw [if_pos h1] at h; exact absurd rfl h
  · rw [if_neg h1] at h
    by_cases h2 : nI n ≤ a
    · rw [if_pos h2] at h; exact absurd rfl h
    · obtain ⟨j, hj, rfl⟩ := nI_of h1
      exact ⟨j, nlt h2 hn hj, rfl⟩
theorem ib_f {a : Int32} {n : Nat} (hn : n < 2 ^ 31) (h : s_Ds_isBelow a (nI n) = 0) (i : Nat) (hi : i < n) : a ≠ nI i := by
  rintro rfl
  unfold s_Ds_isBelow at h
  rw [if_neg (nI_pos (by omega)), if_neg (nI_ge hi hn)] at h
  exact absurd h (by decide)
theorem ib_1 {i n : Nat} (hn : n < 2 ^ 31) (hi : i < n) : s_Ds_isBelow (nI i) (nI n) = 1 := by
  unfold s_Ds_isBelow
  rw [if_neg (nI_pos (by omega)), if_neg (nI_ge hi hn)]
theorem ib_0 {a : Int32} {n : Nat} (hn : n < 2 ^ 31) (h : ∀ i, i < n → a ≠ nI i) : s_Ds_isBelow a (nI n) = 0 := by
  rcases z_Ds_isBelow a (nI n) with q | q
  · exact q
  · obtain ⟨i, h1, h2⟩ := ib_t hn (by rw [q]; decide : ¬ s_Ds_isBelow a (nI n) = 0)
    exact absurd h2 (h i h1)
def itr (F : Nat → Nat) : Nat → Nat → Nat
  | 0, s => s
  | j + 1, s => F (itr F j s)
set_option maxHeartbeats 4000000 in
set_option maxRecDepth 100000 in
theorem c_Sp_leastFailing (l : Launch) (G : UG) (mem : um_M) (t : Nat) (ht : t < 6) (k : Nat) (hk : k ≤ 300) (hsz : mem 3 9 = nI k) : MetX l G y_Sp_leastFailing b_Sp_leastFailing 3 (some .int) ({ frames := 2, cells := 0, slots := 0, locals := 42 }) [.ref (G.2.1 3), .ref (G.2.1 (41 + t))] mem (fun r mem' => r = (if lst (fun i => decide (¬ s_Cm_failsIn (mem (41 + t)) (mem 4 i) = 0)) k < k then nI (lst (fun i => decide (¬ s_Cm_failsIn (mem (41 + t)) (mem 4 i) = 0)) k) else (-2 : Int32)) ∧ mem = mem') := by
  refine u_start [.ref (G.2.1 3), .ref (G.2.1 (41 + t))] (by decide) (Nat.le_of_ble_eq_true rfl) ?_
  intro p_ e_ s_ m_ bl_ me_ c_ ls S hr hlk hin hl hB
  have hw := uH_start hB
  have hl : lv_has ls 3 [(0, .ref (G.2.1 3)), (1, .ref (G.2.1 (41 + t)))] := hl
  refine lv_iconst (v := (0 : Int32)) S.1 S.2.1 d_Sp_leastFailing_0 (by decide) ?_
  refine lv_istore_n (lv' := [(2, .int (0 : Int32)), (0, .ref (G.2.1 3)), (1, .ref (G.2.1 (41 + t)))]) S.1 S.2.1 d_Sp_leastFailing_1 rfl hl (by decide) rfl (fun ls hl => ?_)
  refine u_loop (σ := Nat) (fun (x : Nat) (mem_ : um_M) (ls : Array Slot) => match x with | (i) => (i ≤ k) ∧ (∀ j, j < i → (fun i => decide (¬ s_Cm_failsIn (mem (41 + t)) (mem 4 i) = 0)) j = false) ∧ mem = mem_ ∧ lv_has ls 3 [(0, .ref (G.2.1 3)), (1, .ref (G.2.1 (41 + t))), (2, .int (nI i))]) (fun x => match x with | (i) => k - i) ?_ (0) hw ⟨Nat.zero_le _, lt_zero, rfl, lv_sub hl [1, 2, 0] rfl⟩
  intro i memq H locs ls hw hI ih2
  obtain ⟨hik, hno, rfl, hl⟩ := hI
  dsimp only at ih2
  refine lv_iload_n S.1 S.2.1 d_Sp_leastFailing_2 rfl (lv_at hl 2 rfl) ?_
  refine lv_aload_n S.1 S.2.1 d_Sp_leastFailing_3 rfl (lv_at hl 0 rfl) ?_
  refine u_get (v := .int (mem 3 9)) S hw 3 (by decide) rfl rfl in_Sp 9 (by decide) lf_Sp_39 rfl d_Sp_leastFailing_4 ?_
  refine u_top (y := (nI k)) hsz ?_
  refine lv_icmp_ge (tgt := 31) S.1 S.2.1 d_Sp_leastFailing_7 (by decide) (fun c1 => ?_) (fun c1 => ?_)
  · skip
    have hi2 : i = k := by have q := nle c1 (by omega) (by omega); omega
    have hl0 : lst (fun i => decide (¬ s_Cm_failsIn (mem (41 + t)) (mem 4 i) = 0)) k = k := lst_all (fun j hj => hno j (by omega))
    refine lv_bipush (v := (-2 : Int32)) S.1 S.2.1 d_Sp_leastFailing_31 (by decide) ?_
    exact u_iret S hr hlk hw ⟨by rw [hl0, if_neg (Nat.lt_irrefl _)], rfl⟩ d_Sp_leastFailing_33
  · skip
    have hi2 : i < k := nlt c1 (by omega) (by omega)
    refine lv_aload_n S.1 S.2.1 d_Sp_leastFailing_10 rfl (lv_at hl 1 rfl) ?_
    refine lv_aload_n S.1 S.2.1 d_Sp_leastFailing_11 rfl (lv_at hl 0 rfl) ?_
    refine u_get (v := .ref (G.2.1 4)) S hw 3 (by decide) rfl rfl in_Sp 0 (by decide) lf_Sp_9 rfl d_Sp_leastFailing_12 ?_
    refine lv_iload_n S.1 S.2.1 d_Sp_leastFailing_15 rfl (lv_at hl 2 rfl) ?_
    refine u_iaN S hw 4 0 (by decide) rfl rfl (j := i) rfl (by omega) (by decide) d_Sp_leastFailing_16 ?_
    refine u_calli hw (va_runV (As := [.int (mem 4 i)]) (rest := []) S (c_Cm_failsIn l G mem t (by omega) (mem 4 i)) ⟨u_cB S.2.2.2.2 t_Cm_failsIn ln_Cm lm_Sp_102 hd_Cm_failsIn rfl rfl ⟨Nat.le_of_ble_eq_true rfl, Nat.le_of_ble_eq_true rfl⟩, S.2.2.2.2 _ li_Cm_failsIn, S.2.2.2.2 _ ls_Cm_failsIn⟩ (u_preV hw (41 + t) (by omega) (sh_Cm t ht) rfl) rfl rfl hl.1 rfl (lv_room (Nat.le_of_ble_eq_true rfl)) d_Sp_leastFailing_17 ⟨Nat.zero_le _, Nat.zero_le _⟩) (fun r3 mem2 H locs hp hw => ?_)
    obtain ⟨hp, rfl⟩ := hp
    refine u_top (y := (s_Cm_failsIn (mem (41 + t)) (mem 4 i))) hp ?_
    refine lv_if_eq (tgt := 25) S.1 S.2.1 d_Sp_leastFailing_20 (by decide) (fun c4 => ?_) (fun c4 => ?_)
    · skip
      have hpi : decide (¬ s_Cm_failsIn (mem (41 + t)) (mem 4 i) = 0) = false := df (fun h => h c4)
      refine lv_iinc (v := (nI (i + 1))) (lv' := [(2, .int (nI (i + 1))), (0, .ref (G.2.1 3)), (1, .ref (G.2.1 (41 + t)))]) S.1 S.2.1 d_Sp_leastFailing_25 hl (k := 2) rfl (nI_1 _) (by decide) rfl (fun ls hl => ?_)
      refine lv_goto (tgt := 2) S.1 S.2.1 d_Sp_leastFailing_28 (by decide) ?_
      exact ih2 (i + 1) _ H locs ls (by omega) hw ⟨hi2, lt_step hno hpi, rfl, lv_sub hl [1, 2, 0] rfl⟩
    · skip
      have hpi : decide (¬ s_Cm_failsIn (mem (41 + t)) (mem 4 i) = 0) = true := dt c4
      have hl0 := lst_at (p := (fun i => decide (¬ s_Cm_failsIn (mem (41 + t)) (mem 4 i) = 0))) hi2 hpi hno
      refine lv_iload_n S.1 S.2.1 d_Sp_leastFailing_23 rfl (lv_at hl 2 rfl) ?_
      exact u_iret S hr hlk hw ⟨by rw [hl0, if_pos hi2], rfl⟩ d_Sp_leastFailing_24
set_option maxHeartbeats 4000000 in
set_option maxRecDepth 100000 in
theorem c_Sp_leastStuck (l : Launch) (G : UG) (mem : um_M) (a0 : Int32) (k : Nat) (hk : k ≤ 300) (hsz : mem 3 9 = nI k) : MetX l G y_Sp_leastStuck b_Sp_leastStuck 3 (some .int) ({ frames := 2, cells := 0, slots := 0, locals := 43 }) [.ref (G.2.1 3), .int a0] mem (fun r mem' => r = (if lst (fun i => decide (mem 8 i = 0 ∧ s_Pk_allAtLastPlace (mem 4 i) = a0)) k < k then nI (lst (fun i => decide (mem 8 i = 0 ∧ s_Pk_allAtLastPlace (mem 4 i) = a0)) k) else (-2 : Int32)) ∧ mem = mem') := by
  refine u_start [.ref (G.2.1 3), .int a0] (by decide) (Nat.le_of_ble_eq_true rfl) ?_
  intro p_ e_ s_ m_ bl_ me_ c_ ls S hr hlk hin hl hB
  have hw := uH_start hB
  have hl : lv_has ls 3 [(0, .ref (G.2.1 3)), (1, .int a0)] := hl
  refine lv_iconst (v := (0 : Int32)) S.1 S.2.1 d_Sp_leastStuck_0 (by decide) ?_
  refine lv_istore_n (lv' := [(2, .int (0 : Int32)), (0, .ref (G.2.1 3)), (1, .int a0)]) S.1 S.2.1 d_Sp_leastStuck_1 rfl hl (by decide) rfl (fun ls hl => ?_)
  refine u_loop (σ := Nat) (fun (x : Nat) (mem_ : um_M) (ls : Array Slot) => match x with | (i) => (i ≤ k) ∧ (∀ j, j < i → (fun i => decide (mem 8 i = 0 ∧ s_Pk_allAtLastPlace (mem 4 i) = a0)) j = false) ∧ mem = mem_ ∧ lv_has ls 3 [(0, .ref (G.2.1 3)), (1, .int a0), (2, .int (nI i))]) (fun x => match x with | (i) => k - i) ?_ (0) hw ⟨Nat.zero_le _, lt_zero, rfl, lv_sub hl [1, 2, 0] rfl⟩
  intro i memq H locs ls hw hI ih2
  obtain ⟨hik, hno, rfl, hl⟩ := hI
  dsimp only at ih2
  refine lv_iload_n S.1 S.2.1 d_Sp_leastStuck_2 rfl (lv_at hl 2 rfl) ?_
  refine lv_aload_n S.1 S.2.1 d_Sp_leastStuck_3 rfl (lv_at hl 0 rfl) ?_
  refine u_get (v := .int (mem 3 9)) S hw 3 (by decide) rfl rfl in_Sp 9 (by decide) lf_Sp_39 rfl d_Sp_leastStuck_4 ?_
  refine u_top (y := (nI k)) hsz ?_
  refine lv_icmp_ge (tgt := 40) S.1 S.2.1 d_Sp_leastStuck_7 (by decide) (fun c1 => ?_) (fun c1 => ?_)
  · skip
    have hi2 : i = k := by have q := nle c1 (by omega) (by omega); omega
    have hl0 : lst (fun i => decide (mem 8 i = 0 ∧ s_Pk_allAtLastPlace (mem 4 i) = a0)) k = k := lst_all (fun j hj => hno j (by omega))
    refine lv_bipush (v := (-2 : Int32)) S.1 S.2.1 d_Sp_leastStuck_40 (by decide) ?_
    exact u_iret S hr hlk hw ⟨by rw [hl0, if_neg (Nat.lt_irrefl _)], rfl⟩ d_Sp_leastStuck_42
  · skip
    have hi2 : i < k := nlt c1 (by omega) (by omega)
    refine lv_aload_n S.1 S.2.1 d_Sp_leastStuck_10 rfl (lv_at hl 0 rfl) ?_
    refine u_get (v := .ref (G.2.1 8)) S hw 3 (by decide) rfl rfl in_Sp 4 (by decide) lf_Sp_24 rfl d_Sp_leastStuck_11 ?_
    refine lv_iload_n S.1 S.2.1 d_Sp_leastStuck_14 rfl (lv_at hl 2 rfl) ?_
    refine u_iaN S hw 8 0 (by decide) rfl rfl (j := i) rfl (by omega) (by decide) d_Sp_leastStuck_15 ?_
    refine lv_if_ne (tgt := 34) S.1 S.2.1 d_Sp_leastStuck_16 (by decide) (fun c2 => ?_) (fun c2 => ?_)
    · skip
      have hpi : decide (mem 8 i = 0 ∧ s_Pk_allAtLastPlace (mem 4 i) = a0) = false := df (fun h => c2 h.1)
      refine lv_iinc (v := (nI (i + 1))) (lv' := [(2, .int (nI (i + 1))), (0, .ref (G.2.1 3)), (1, .int a0)]) S.1 S.2.1 d_Sp_leastStuck_34 hl (k := 2) rfl (nI_1 _) (by decide) rfl (fun ls hl => ?_)
      refine lv_goto (tgt := 2) S.1 S.2.1 d_Sp_leastStuck_37 (by decide) ?_
      exact ih2 (i + 1) _ H locs ls (by omega) hw ⟨hi2, lt_step hno hpi, rfl, lv_sub hl [1, 2, 0] rfl⟩
    · skip
      have h0 := c2
      refine lv_aload_n S.1 S.2.1 d_Sp_leastStuck_19 rfl (lv_at hl 0 rfl) ?_
      refine u_get (v := .ref (G.2.1 4)) S hw 3 (by decide) rfl rfl in_Sp 0 (by decide) lf_Sp_9 rfl d_Sp_leastStuck_20 ?_
      refine lv_iload_n S.1 S.2.1 d_Sp_leastStuck_23 rfl (lv_at hl 2 rfl) ?_
      refine u_iaN S hw 4 0 (by decide) rfl rfl (j := i) rfl (by omega) (by decide) d_Sp_leastStuck_24 ?_
      refine u_callp hw (va_runS (As := [.int (mem 4 i)]) (rest := []) S (c_Pk_allAtLastPlace l (mem 4 i)) ⟨u_cB S.2.2.2.2 t_Pk_allAtLastPlace ln_Pk lm_Sp_107 hd_Pk_allAtLastPlace rfl rfl ⟨Nat.le_of_ble_eq_true rfl, Nat.le_of_ble_eq_true rfl⟩, S.2.2.2.2 _ lt_Pk_allAtLastPlace⟩ (u_preP hw.1.2) rfl rfl hl.1 rfl (lv_room (Nat.le_of_ble_eq_true rfl)) d_Sp_leastStuck_25 ⟨Nat.zero_le _, Nat.zero_le _⟩) (fun r H locs hp hw => ?_)
      refine u_top (y := (s_Pk_allAtLastPlace (mem 4 i))) hp ?_
      refine lv_iload_n S.1 S.2.1 d_Sp_leastStuck_28 rfl (lv_at hl 1 rfl) ?_
      refine lv_icmp_ne (tgt := 34) S.1 S.2.1 d_Sp_leastStuck_29 (by decide) (fun c3 => ?_) (fun c3 => ?_)
      · skip
        have hpi : decide (mem 8 i = 0 ∧ s_Pk_allAtLastPlace (mem 4 i) = a0) = false := df (fun h => c3 h.2)
        refine lv_iinc (v := (nI (i + 1))) (lv' := [(2, .int (nI (i + 1))), (0, .ref (G.2.1 3)), (1, .int a0)]) S.1 S.2.1 d_Sp_leastStuck_34 hl (k := 2) rfl (nI_1 _) (by decide) rfl (fun ls hl => ?_)
        refine lv_goto (tgt := 2) S.1 S.2.1 d_Sp_leastStuck_37 (by decide) ?_
        exact ih2 (i + 1) _ H locs ls (by omega) hw ⟨hi2, lt_step hno hpi, rfl, lv_sub hl [1, 2, 0] rfl⟩
      · skip
        have hpi : decide (mem 8 i = 0 ∧ s_Pk_allAtLastPlace (mem 4 i) = a0) = true := dt ⟨h0, c3⟩
        have hl0 := lst_at (p := (fun i => decide (mem 8 i = 0 ∧ s_Pk_allAtLastPlace (mem 4 i) = a0))) hi2 hpi hno
        refine lv_iload_n S.1 S.2.1 d_Sp_leastStuck_32 rfl (lv_at hl 2 rfl) ?_
        exact u_iret S hr hlk hw ⟨by rw [hl0, if_pos hi2], rfl⟩ d_Sp_leastStuck_33
set_option maxHeartbeats 4000000 in
set_option maxRecDepth 100000 in
theorem c_Sp_longestWay (l : Launch) (G : UG) (mem : um_M) (k : Nat) (hk : k ≤ 300) (hsz : mem 3 9 = nI k) : MetX l G y_Sp_longestWay b_Sp_longestWay 3 (some .int) ({ frames := 1, cells := 0, slots := 0, locals := 21 }) [.ref (G.2.1 3)] mem (fun r mem' => r = mx (mem 7) k ∧ mem = mem') := by
  refine u_start [.ref (G.2.1 3)] (by decide) (Nat.le_of_ble_eq_true rfl) ?_
  intro p_ e_ s_ m_ bl_ me_ c_ ls S hr hlk hin hl hB
  have hw := uH_start hB
  have hl : lv_has ls 3 [(0, .ref (G.2.1 3))] := hl
  refine lv_iconst (v := (0 : Int32)) S.1 S.2.1 d_Sp_longestWay_0 (by decide) ?_
  refine lv_istore_n (lv' := [(1, .int (0 : Int32)), (0, .ref (G.2.1 3))]) S.1 S.2.1 d_Sp_longestWay_1 rfl hl (by decide) rfl (fun ls hl => ?_)
  refine lv_iconst (v := (0 : Int32)) S.1 S.2.1 d_Sp_longestWay_2 (by decide) ?_
  refine lv_istore_n (lv' := [(2, .int (0 : Int32)), (1, .int (0 : Int32)), (0, .ref (G.2.1 3))]) S.1 S.2.1 d_Sp_longestWay_3 rfl hl (by decide) rfl (fun ls hl => ?_)
  refine u_loop (σ := Nat × Int32) (fun (x : Nat × Int32) (mem_ : um_M) (ls : Array Slot) => match x with | (i, a) => (i ≤ k) ∧ (a = mx (mem 7) i) ∧ mem = mem_ ∧ lv_has ls 3 [(0, .ref (G.2.1 3)), (1, .int a), (2, .int (nI i))]) (fun x => match x with | (i, a) => k - i) ?_ (0, 0) hw ⟨Nat.zero_le _, rfl, rfl, lv_sub hl [2, 1, 0] rfl⟩
  intro x memq H locs ls hw hI ih4
  obtain ⟨i, a⟩ := x
  obtain ⟨hik, ha, rfl, hl⟩ := hI
  dsimp only at ih4
  refine lv_iload_n S.1 S.2.1 d_Sp_longestWay_4 rfl (lv_at hl 2 rfl) ?_
  refine lv_aload_n S.1 S.2.1 d_Sp_longestWay_5 rfl (lv_at hl 0 rfl) ?_
  refine u_get (v := .int (mem 3 9)) S hw 3 (by decide) rfl rfl in_Sp 9 (by decide) lf_Sp_39 rfl d_Sp_longestWay_6 ?_
  refine u_top (y := (nI k)) hsz ?_
  refine lv_icmp_ge (tgt := 29) S.1 S.2.1 d_Sp_longestWay_9 (by decide) (fun c1 => ?_) (fun c1 => ?_)
  · skip
    have hi2 : i = k := by have q := nle c1 (by omega) (by omega); omega
    refine lv_iload_n S.1 S.2.1 d_Sp_longestWay_29 rfl (lv_at hl 1 rfl) ?_
    exact u_iret S hr hlk hw ⟨by rw [ha, hi2], rfl⟩ d_Sp_longestWay_30
  · skip
    have hi2 : i < k := nlt c1 (by omega) (by omega)
    refine lv_iload_n S.1 S.2.1 d_Sp_longestWay_12 rfl (lv_at hl 1 rfl) ?_
    refine lv_aload_n S.1 S.2.1 d_Sp_longestWay_13 rfl (lv_at hl 0 rfl) ?_
    refine u_get (v := .ref (G.2.1 7)) S hw 3 (by decide) rfl rfl in_Sp 3 (by decide) lf_Sp_21 rfl d_Sp_longestWay_14 ?_
    refine lv_iload_n S.1 S.2.1 d_Sp_longestWay_17 rfl (lv_at hl 2 rfl) ?_
    refine u_iaN S hw 7 0 (by decide) rfl rfl (j := i) rfl (by omega) (by decide) d_Sp_longestWay_18 ?_
    refine va_mmax S.1 S.2.1 (S.2.2.1.trans hl.1.symm) S.2.2.2.1 (S.2.2.2.2 _ lm_Sp_94) (S.2.2.2.2 _ lt_Ma_max) (S.2.2.2.2 _ ln_Ma) (S.2.2.2.2 _ t_Ma_max) (Nat.le_of_ble_eq_true rfl) (Nat.le_of_ble_eq_true rfl) (Nat.zero_le _) (Nat.zero_le _) d_Sp_longestWay_19 ?_
    refine lv_istore_n (lv' := [(1, .int (if a < (mem 7 i) then (mem 7 i) else a)), (0, .ref (G.2.1 3)), (2, .int (nI i))]) S.1 S.2.1 d_Sp_longestWay_22 rfl hl (by decide) rfl (fun ls hl => ?_)
    refine lv_iinc (v := (nI (i + 1))) (lv' := [(2, .int (nI (i + 1))), (1, .int (if a < (mem 7 i) then (mem 7 i) else a)), (0, .ref (G.2.1 3))]) S.1 S.2.1 d_Sp_longestWay_23 hl (k := 2) rfl (nI_1 _) (by decide) rfl (fun ls hl => ?_)
    refine lv_goto (tgt := 4) S.1 S.2.1 d_Sp_longestWay_26 (by decide) ?_
    exact ih4 (i + 1, _) _ H locs ls (by omega) hw ⟨hi2, (by rw [ha]; rfl), rfl, lv_sub hl [2, 1, 0] rfl⟩
set_option maxHeartbeats 4000000 in
set_option maxRecDepth 100000 in
theorem c_Sp_pairs (l : Launch) (G : UG) (mem : um_M) (k : Nat) (hk : k ≤ 300) (hsz : mem 3 9 = nI k) : MetX l G y_Sp_pairs b_Sp_pairs 3 (some .int) ({ frames := 0, cells := 0, slots := 0, locals := 0 }) [.ref (G.2.1 3)] mem (fun r mem' => r = sm (mem 8) k ∧ mem = mem') := by
  refine u_start [.ref (G.2.1 3)] (by decide) (Nat.le_of_ble_eq_true rfl) ?_
  intro p_ e_ s_ m_ bl_ me_ c_ ls S hr hlk hin hl hB
  have hw := uH_start hB
  have hl : lv_has ls 3 [(0, .ref (G.2.1 3))] := hl
  refine lv_iconst (v := (0 : Int32)) S.1 S.2.1 d_Sp_pairs_0 (by decide) ?_
  refine lv_istore_n (lv' := [(1, .int (0 : Int32)), (0, .ref (G.2.1 3))]) S.1 S.2.1 d_Sp_pairs_1 rfl hl (by decide) rfl (fun ls hl => ?_)
  refine lv_iconst (v := (0 : Int32)) S.1 S.2.1 d_Sp_pairs_2 (by decide) ?_
  refine lv_istore_n (lv' := [(2, .int (0 : Int32)), (1, .int (0 : Int32)), (0, .ref (G.2.1 3))]) S.1 S.2.1 d_Sp_pairs_3 rfl hl (by decide) rfl (fun ls hl => ?_)
  refine u_loop (σ := Nat × Int32) (fun (x : Nat × Int32) (mem_ : um_M) (ls : Array Slot) => match x with | (i, a) => (i ≤ k) ∧ (a = sm (mem 8) i) ∧ mem = mem_ ∧ lv_has ls 3 [(0, .ref (G.2.1 3)), (1, .int a), (2, .int (nI i))]) (fun x => match x with | (i, a) => k - i) ?_ (0, 0) hw ⟨Nat.zero_le _, rfl, rfl, lv_sub hl [2, 1, 0] rfl⟩
  intro x memq H locs ls hw hI ih4
  obtain ⟨i, a⟩ := x
  obtain ⟨hik, ha, rfl, hl⟩ := hI
  dsimp only at ih4
  refine lv_iload_n S.1 S.2.1 d_Sp_pairs_4 rfl (lv_at hl 2 rfl) ?_
  refine lv_aload_n S.1 S.2.1 d_Sp_pairs_5 rfl (lv_at hl 0 rfl) ?_
  refine u_get (v := .int (mem 3 9)) S hw 3 (by decide) rfl rfl in_Sp 9 (by decide) lf_Sp_39 rfl d_Sp_pairs_6 ?_
  refine u_top (y := (nI k)) hsz ?_
  refine lv_icmp_ge (tgt := 27) S.1 S.2.1 d_Sp_pairs_9 (by decide) (fun c1 => ?_) (fun c1 => ?_)
  · skip
    have hi2 : i = k := by have q := nle c1 (by omega) (by omega); omega
    refine lv_iload_n S.1 S.2.1 d_Sp_pairs_27 rfl (lv_at hl 1 rfl) ?_
    exact u_iret S hr hlk hw ⟨by rw [ha, hi2], rfl⟩ d_Sp_pairs_28
  · skip
    have hi2 : i < k := nlt c1 (by omega) (by omega)
    refine lv_iload_n S.1 S.2.1 d_Sp_pairs_12 rfl (lv_at hl 1 rfl) ?_
    refine lv_aload_n S.1 S.2.1 d_Sp_pairs_13 rfl (lv_at hl 0 rfl) ?_
    refine u_get (v := .ref (G.2.1 8)) S hw 3 (by decide) rfl rfl in_Sp 4 (by decide) lf_Sp_24 rfl d_Sp_pairs_14 ?_
    refine lv_iload_n S.1 S.2.1 d_Sp_pairs_17 rfl (lv_at hl 2 rfl) ?_
    refine u_iaN S hw 8 0 (by decide) rfl rfl (j := i) rfl (by omega) (by decide) d_Sp_pairs_18 ?_
    refine lv_iadd S.1 S.2.1 d_Sp_pairs_19 ?_
    refine lv_istore_n (lv' := [(1, .int (a + (mem 8 i))), (0, .ref (G.2.1 3)), (2, .int (nI i))]) S.1 S.2.1 d_Sp_pairs_20 rfl hl (by decide) rfl (fun ls hl => ?_)
    refine lv_iinc (v := (nI (i + 1))) (lv' := [(2, .int (nI (i + 1))), (1, .int (a + (mem 8 i))), (0, .ref (G.2.1 3))]) S.1 S.2.1 d_Sp_pairs_21 hl (k := 2) rfl (nI_1 _) (by decide) rfl (fun ls hl => ?_)
    refine lv_goto (tgt := 4) S.1 S.2.1 d_Sp_pairs_24 (by decide) ?_
    exact ih4 (i + 1, _) _ H locs ls (by omega) hw ⟨hi2, (by rw [ha]; rfl), rfl, lv_sub hl [2, 1, 0] rfl⟩
set_option maxHeartbeats 4000000 in
set_option maxRecDepth 100000 in
theorem c_Sp_statesWhereOpen (l : Launch) (G : UG) (mem : um_M) (t : Nat) (ht : t < 24) (k : Nat) (hk : k ≤ 300) (hsz : mem 3 9 = nI k) : MetX l G y_Sp_statesWhereOpen b_Sp_statesWhereOpen 4 (some .int) ({ frames := 0, cells := 0, slots := 0, locals := 0 }) [.ref (G.2.1 3), .int (nI t)] mem (fun r mem' => r = nI (cnt (fun i => decide (¬ mem 9 (i * 24 + t) = (-2 : Int32))) k) ∧ mem = mem') := by
  refine u_start [.ref (G.2.1 3), .int (nI t)] (by decide) (Nat.le_of_ble_eq_true rfl) ?_
  intro p_ e_ s_ m_ bl_ me_ c_ ls S hr hlk hin hl hB
  have hw := uH_start hB
  have hl : lv_has ls 4 [(0, .ref (G.2.1 3)), (1, .int (nI t))] := hl
  refine lv_iconst (v := (0 : Int32)) S.1 S.2.1 d_Sp_statesWhereOpen_0 (by decide) ?_
  refine lv_istore_n (lv' := [(2, .int (0 : Int32)), (0, .ref (G.2.1 3)), (1, .int (nI t))]) S.1 S.2.1 d_Sp_statesWhereOpen_1 rfl hl (by decide) rfl (fun ls hl => ?_)
  refine lv_iconst (v := (0 : Int32)) S.1 S.2.1 d_Sp_statesWhereOpen_2 (by decide) ?_
  refine lv_istore_n (lv' := [(3, .int (0 : Int32)), (2, .int (0 : Int32)), (0, .ref (G.2.1 3)), (1, .int (nI t))]) S.1 S.2.1 d_Sp_statesWhereOpen_3 rfl hl (by decide) rfl (fun ls hl => ?_)
  refine u_loop (σ := Nat × Nat) (fun (x : Nat × Nat) (mem_ : um_M) (ls : Array Slot) => match x with | (i, a) => (i ≤ k) ∧ (a = cnt (fun i => decide (¬ mem 9 (i * 24 + t) = (-2 : Int32))) i) ∧ mem = mem_ ∧ lv_has ls 4 [(0, .ref (G.2.1 3)), (1, .int (nI t)), (2, .int (nI a)), (3, .int (nI i))]) (fun x => match x with | (i, a) => k - i) ?_ (0, 0) hw ⟨Nat.zero_le _, rfl, rfl, lv_sub hl [2, 3, 1, 0] rfl⟩
  intro x memq H locs ls hw hI ih4
  obtain ⟨i, a⟩ := x
  obtain ⟨hik, ha, rfl, hl⟩ := hI
  dsimp only at ih4
  refine lv_iload_n S.1 S.2.1 d_Sp_statesWhereOpen_4 rfl (lv_at hl 3 rfl) ?_
  refine lv_aload_n S.1 S.2.1 d_Sp_statesWhereOpen_5 rfl (lv_at hl 0 rfl) ?_
  refine u_get (v := .int (mem 3 9)) S hw 3 (by decide) rfl rfl in_Sp 9 (by decide) lf_Sp_39 rfl d_Sp_statesWhereOpen_6 ?_
  refine u_top (y := (nI k)) hsz ?_
  refine lv_icmp_ge (tgt := 37) S.1 S.2.1 d_Sp_statesWhereOpen_9 (by decide) (fun c1 => ?_) (fun c1 => ?_)
  · skip
    have hi2 : i = k := by have q := nle c1 (by omega) (by omega); omega
    refine lv_iload_n S.1 S.2.1 d_Sp_statesWhereOpen_37 rfl (lv_at hl 2 rfl) ?_
    exact u_iret S hr hlk hw ⟨by rw [ha, hi2], rfl⟩ d_Sp_statesWhereOpen_38
  · skip
    have hi2 : i < k := nlt c1 (by omega) (by omega)
    refine lv_aload_n S.1 S.2.1 d_Sp_statesWhereOpen_12 rfl (lv_at hl 0 rfl) ?_
    refine u_get (v := .ref (G.2.1 9)) S hw 3 (by decide) rfl rfl in_Sp 5 (by decide) lf_Sp_27 rfl d_Sp_statesWhereOpen_13 ?_
    refine lv_iload_n S.1 S.2.1 d_Sp_statesWhereOpen_16 rfl (lv_at hl 3 rfl) ?_
    refine lv_bipush (v := (24 : Int32)) S.1 S.2.1 d_Sp_statesWhereOpen_17 (by decide) ?_
    refine lv_imul S.1 S.2.1 d_Sp_statesWhereOpen_19 ?_
    refine u_top (y := (nI (i * 24))) (pk_mul i 24) ?_
    refine lv_iload_n S.1 S.2.1 d_Sp_statesWhereOpen_20 rfl (lv_at hl 1 rfl) ?_
    refine lv_iadd S.1 S.2.1 d_Sp_statesWhereOpen_21 ?_
    refine u_top (y := (nI ((i * 24) + t))) (nI_add (i * 24) t) ?_
    refine u_iaN S hw 9 0 (by decide) rfl rfl (j := ((i * 24) + t)) rfl (by omega) (by decide) d_Sp_statesWhereOpen_22 ?_
    refine lv_bipush (v := (-2 : Int32)) S.1 S.2.1 d_Sp_statesWhereOpen_23 (by decide) ?_
    refine lv_icmp_eq (tgt := 31) S.1 S.2.1 d_Sp_statesWhereOpen_25 (by decide) (fun c2 => ?_) (fun c2 => ?_)
    · skip
      have hpi : decide (¬ mem 9 (i * 24 + t) = (-2 : Int32)) = false := df (fun h => h c2)
      refine lv_iinc (v := (nI (i + 1))) (lv' := [(3, .int (nI (i + 1))), (0, .ref (G.2.1 3)), (1, .int (nI t)), (2, .int (nI a))]) S.1 S.2.1 d_Sp_statesWhereOpen_31 hl (k := 3) rfl (nI_1 _) (by decide) rfl (fun ls hl => ?_)
      refine lv_goto (tgt := 4) S.1 S.2.1 d_Sp_statesWhereOpen_34 (by decide) ?_
      exact ih4 (i + 1, a) _ H locs ls (by omega) hw ⟨hi2, (by rw [ha, cnt_f hpi]), rfl, lv_sub hl [1, 2, 3, 0] rfl⟩
    · skip
      have hpi : decide (¬ mem 9 (i * 24 + t) = (-2 : Int32)) = true := dt c2
      refine lv_iinc (v := (nI (a + 1))) (lv' := [(2, .int (nI (a + 1))), (0, .ref (G.2.1 3)), (1, .int (nI t)), (3, .int (nI i))]) S.1 S.2.1 d_Sp_statesWhereOpen_28 hl (k := 2) rfl (nI_1 _) (by decide) rfl (fun ls hl => ?_)
      refine lv_iinc (v := (nI (i + 1))) (lv' := [(3, .int (nI (i + 1))), (2, .int (nI (a + 1))), (0, .ref (G.2.1 3)), (1, .int (nI t))]) S.1 S.2.1 d_Sp_statesWhereOpen_31 hl (k := 3) rfl (nI_1 _) (by decide) rfl (fun ls hl => ?_)
      refine lv_goto (tgt := 4) S.1 S.2.1 d_Sp_statesWhereOpen_34 (by decide) ?_
      exact ih4 (i + 1, a + 1) _ H locs ls (by omega) hw ⟨hi2, (by rw [ha, cnt_t hpi]), rfl, lv_sub hl [2, 3, 1, 0] rfl⟩
set_option maxHeartbeats 4000000 in
set_option maxRecDepth 100000 in
theorem c_Sp_firstNext (l : Launch) (G : UG) (mem : um_M) (s : Nat) (hs : s < 300) : MetX l G y_Sp_firstNext b_Sp_firstNext 4 (some .int) ({ frames := 0, cells := 0, slots := 0, locals := 0 }) [.ref (G.2.1 3), .int (nI s)] mem (fun r mem' => r = (if lst (fun i => decide (¬ mem 9 (s * 24 + i) = (-2 : Int32))) 24 < 24 then mem 9 (s * 24 + lst (fun i => decide (¬ mem 9 (s * 24 + i) = (-2 : Int32))) 24) else (-2 : Int32)) ∧ mem = mem') := by
  refine u_start [.ref (G.2.1 3), .int (nI s)] (by decide) (Nat.le_of_ble_eq_true rfl) ?_
  intro p_ e_ s_ m_ bl_ me_ c_ ls S hr hlk hin hl hB
  have hw := uH_start hB
  have hl : lv_has ls 4 [(0, .ref (G.2.1 3)), (1, .int (nI s))] := hl
  refine lv_iconst (v := (0 : Int32)) S.1 S.2.1 d_Sp_firstNext_0 (by decide) ?_
  refine lv_istore_n (lv' := [(2, .int (0 : Int32)), (0, .ref (G.2.1 3)), (1, .int (nI s))]) S.1 S.2.1 d_Sp_firstNext_1 rfl hl (by decide) rfl (fun ls hl => ?_)
  refine u_loop (σ := Nat) (fun (x : Nat) (mem_ : um_M) (ls : Array Slot) => match x with | (i) => (i ≤ 24) ∧ (∀ j, j < i → (fun i => decide (¬ mem 9 (s * 24 + i) = (-2 : Int32))) j = false) ∧ mem = mem_ ∧ lv_has ls 4 [(0, .ref (G.2.1 3)), (1, .int (nI s)), (2, .int (nI i))]) (fun x => match x with | (i) => 24 - i) ?_ (0) hw ⟨Nat.zero_le _, lt_zero, rfl, lv_sub hl [1, 2, 0] rfl⟩
  intro i memq H locs ls hw hI ih2
  obtain ⟨hik, hno, rfl, hl⟩ := hI
  dsimp only at ih2
  refine lv_iload_n S.1 S.2.1 d_Sp_firstNext_2 rfl (lv_at hl 2 rfl) ?_
  refine lv_bipush (v := (24 : Int32)) S.1 S.2.1 d_Sp_firstNext_3 (by decide) ?_
  refine lv_icmp_ge (tgt := 34) S.1 S.2.1 d_Sp_firstNext_5 (by decide) (fun c1 => ?_) (fun c1 => ?_)
  · skip
    have hi2 : i = 24 := by have q := nle (a := 24) c1 (by omega) (by omega); omega
    have hl0 : lst (fun i => decide (¬ mem 9 (s * 24 + i) = (-2 : Int32))) 24 = 24 := lst_all (fun j hj => hno j (by omega))
    refine lv_bipush (v := (-2 : Int32)) S.1 S.2.1 d_Sp_firstNext_34 (by decide) ?_
    exact u_iret S hr hlk hw ⟨by rw [hl0, if_neg (Nat.lt_irrefl _)], rfl⟩ d_Sp_firstNext_36
  · skip
    have hi2 : i < 24 := nlt (a := 24) c1 (by omega) (by omega)
    refine lv_aload_n S.1 S.2.1 d_Sp_firstNext_8 rfl (lv_at hl 0 rfl) ?_
    refine u_get (v := .ref (G.2.1 9)) S hw 3 (by decide) rfl rfl in_Sp 5 (by decide) lf_Sp_27 rfl d_Sp_firstNext_9 ?_
    refine lv_iload_n S.1 S.2.1 d_Sp_firstNext_12 rfl (lv_at hl 1 rfl) ?_
    refine lv_bipush (v := (24 : Int32)) S.1 S.2.1 d_Sp_firstNext_13 (by decide) ?_
    refine lv_imul S.1 S.2.1 d_Sp_firstNext_15 ?_
    refine u_top (y := (nI (s * 24))) (pk_mul s 24) ?_
    refine lv_iload_n S.1 S.2.1 d_Sp_firstNext_16 rfl (lv_at hl 2 rfl) ?_
    refine lv_iadd S.1 S.2.1 d_Sp_firstNext_17 ?_
    refine u_top (y := (nI ((s * 24) + i))) (nI_add (s * 24) i) ?_
    refine u_iaN S hw 9 0 (by decide) rfl rfl (j := ((s * 24) + i)) rfl (by omega) (by decide) d_Sp_firstNext_18 ?_
    refine lv_istore_n (lv' := [(3, .int (mem 9 ((s * 24) + i))), (0, .ref (G.2.1 3)), (1, .int (nI s)), (2, .int (nI i))]) S.1 S.2.1 d_Sp_firstNext_19 rfl hl (by decide) rfl (fun ls hl => ?_)
    refine lv_iload_n S.1 S.2.1 d_Sp_firstNext_20 rfl (lv_at hl 0 rfl) ?_
    refine lv_bipush (v := (-2 : Int32)) S.1 S.2.1 d_Sp_firstNext_21 (by decide) ?_
    refine lv_icmp_eq (tgt := 28) S.1 S.2.1 d_Sp_firstNext_23 (by decide) (fun c2 => ?_) (fun c2 => ?_)
    · skip
      have hpi : decide (¬ mem 9 (s * 24 + i) = (-2 : Int32)) = false := df (fun h => h c2)
      refine lv_iinc (v := (nI (i + 1))) (lv' := [(2, .int (nI (i + 1))), (3, .int (mem 9 ((s * 24) + i))), (0, .ref (G.2.1 3)), (1, .int (nI s))]) S.1 S.2.1 d_Sp_firstNext_28 hl (k := 3) rfl (nI_1 _) (by decide) rfl (fun ls hl => ?_)
      refine lv_goto (tgt := 2) S.1 S.2.1 d_Sp_firstNext_31 (by decide) ?_
      exact ih2 (i + 1) _ H locs ls (by omega) hw ⟨hi2, lt_step hno hpi, rfl, lv_sub hl [2, 3, 0] rfl⟩
    · skip
      have hl0 := lst_at (p := (fun i => decide (¬ mem 9 (s * 24 + i) = (-2 : Int32)))) hi2 (dt c2) hno
      refine lv_iload_n S.1 S.2.1 d_Sp_firstNext_26 rfl (lv_at hl 0 rfl) ?_
      exact u_iret S hr hlk hw ⟨by rw [hl0, if_pos hi2], rfl⟩ d_Sp_firstNext_27
def s_Sp_isNewNext (nx : Nat → Int32) (s t : Nat) : Int32 := (if lst (fun i => decide (nx (s * 24 + i) = nx (s * 24 + t))) t < t then (0 : Int32) else if nx (s * 24 + t) = (-2 : Int32) then (0 : Int32) else (1 : Int32))
set_option maxHeartbeats 4000000 in
set_option maxRecDepth 100000 in
theorem c_Sp_isNewNext (l : Launch) (G : UG) (mem : um_M) (s t : Nat) (hs : s < 300) (ht : t < 24) : MetX l G y_Sp_isNewNext b_Sp_isNewNext 5 (some .boolean) ({ frames := 0, cells := 0, slots := 0, locals := 0 }) [.ref (G.2.1 3), .int (nI s), .int (nI t)] mem (fun r mem' => r = s_Sp_isNewNext (mem 9) s t ∧ mem = mem') := by
  refine u_start [.ref (G.2.1 3), .int (nI s), .int (nI t)] (by decide) (Nat.le_of_ble_eq_true rfl) ?_
  intro p_ e_ s_ m_ bl_ me_ c_ ls S hr hlk hin hl hB
  have hw := uH_start hB
  have hl : lv_has ls 5 [(0, .ref (G.2.1 3)), (1, .int (nI s)), (2, .int (nI t))] := hl
  refine lv_iload_n S.1 S.2.1 d_Sp_isNewNext_0 rfl (lv_at hl 1 rfl) ?_
  refine lv_bipush (v := (24 : Int32)) S.1 S.2.1 d_Sp_isNewNext_1 (by decide) ?_
  refine lv_imul S.1 S.2.1 d_Sp_isNewNext_3 ?_
  refine u_top (y := (nI (s * 24))) (pk_mul s 24) ?_
  refine lv_istore_n (lv' := [(3, .int (nI (s * 24))), (0, .ref (G.2.1 3)), (1, .int (nI s)), (2, .int (nI t))]) S.1 S.2.1 d_Sp_isNewNext_4 rfl hl (by decide) rfl (fun ls hl => ?_)
  refine lv_iconst (v := (0 : Int32)) S.1 S.2.1 d_Sp_isNewNext_5 (by decide) ?_
  refine lv_istore (lv' := [(4, .int (0 : Int32)), (3, .int (nI (s * 24))), (0, .ref (G.2.1 3)), (1, .int (nI s)), (2, .int (nI t))]) S.1 S.2.1 d_Sp_isNewNext_6 hl (by decide) rfl (fun ls hl => ?_)
  refine u_loop (σ := Nat) (fun (x : Nat) (mem_ : um_M) (ls : Array Slot) => match x with | (i) => (i ≤ t) ∧ (∀ j, j < i → (fun i => decide (mem 9 (s * 24 + i) = mem 9 (s * 24 + t))) j = false) ∧ mem = mem_ ∧ lv_has ls 5 [(0, .ref (G.2.1 3)), (1, .int (nI s)), (2, .int (nI t)), (3, .int (nI (s * 24))), (4, .int (nI i))]) (fun x => match x with | (i) => t - i) ?_ (0) hw ⟨Nat.zero_le _, lt_zero, rfl, lv_sub hl [2, 3, 4, 1, 0] rfl⟩
  intro i memq H locs ls hw hI ih8
  obtain ⟨hik, hno, rfl, hl⟩ := hI
  dsimp only at ih8
  refine lv_iload S.1 S.2.1 d_Sp_isNewNext_8 (lv_at hl 4 rfl) ?_
  refine lv_iload_n S.1 S.2.1 d_Sp_isNewNext_10 rfl (lv_at hl 2 rfl) ?_
  refine lv_icmp_ge (tgt := 42) S.1 S.2.1 d_Sp_isNewNext_11 (by decide) (fun c1 => ?_) (fun c1 => ?_)
  · skip
    have hi2 : i = t := by have q := nle c1 (by omega) (by omega); omega
    have hl0 : lst (fun i => decide (mem 9 (s * 24 + i) = mem 9 (s * 24 + t))) t = t := lst_all (fun j hj => hno j (by omega))
    refine lv_aload_n S.1 S.2.1 d_Sp_isNewNext_42 rfl (lv_at hl 0 rfl) ?_
    refine u_get (v := .ref (G.2.1 9)) S hw 3 (by decide) rfl rfl in_Sp 5 (by decide) lf_Sp_27 rfl d_Sp_isNewNext_43 ?_
    refine lv_iload_n S.1 S.2.1 d_Sp_isNewNext_46 rfl (lv_at hl 3 rfl) ?_
    refine lv_iload_n S.1 S.2.1 d_Sp_isNewNext_47 rfl (lv_at hl 2 rfl) ?_
    refine lv_iadd S.1 S.2.1 d_Sp_isNewNext_48 ?_
    refine u_top (y := (nI ((s * 24) + t))) (nI_add (s * 24) t) ?_
    refine u_iaN S hw 9 0 (by decide) rfl rfl (j := ((s * 24) + t)) rfl (by omega) (by decide) d_Sp_isNewNext_49 ?_
    refine lv_bipush (v := (-2 : Int32)) S.1 S.2.1 d_Sp_isNewNext_50 (by decide) ?_
    refine lv_icmp_eq (tgt := 59) S.1 S.2.1 d_Sp_isNewNext_52 (by decide) (fun c2 => ?_) (fun c2 => ?_)
    · skip
      have hq := c2
      refine lv_iconst (v := (0 : Int32)) S.1 S.2.1 d_Sp_isNewNext_59 (by decide) ?_
      exact u_zret S hr hlk hw (by first | rfl | assumption | exact nb01 (z_Ds_isBelow _ _)) ⟨by unfold s_Sp_isNewNext; rw [hl0, if_neg (Nat.lt_irrefl _), if_pos hq], rfl⟩ d_Sp_isNewNext_60
    · skip
      have hq := c2
      refine lv_iconst (v := (1 : Int32)) S.1 S.2.1 d_Sp_isNewNext_55 (by decide) ?_
      refine lv_goto (tgt := 60) S.1 S.2.1 d_Sp_isNewNext_56 (by decide) ?_
      exact u_zret S hr hlk hw (by first | rfl | assumption | exact nb01 (z_Ds_isBelow _ _)) ⟨by unfold s_Sp_isNewNext; rw [hl0, if_neg (Nat.lt_irrefl _), if_neg hq], rfl⟩ d_Sp_isNewNext_60
  · skip
    have hi2 : i < t := nlt c1 (by omega) (by omega)
    refine lv_aload_n S.1 S.2.1 d_Sp_isNewNext_14 rfl (lv_at hl 0 rfl) ?_
    refine u_get (v := .ref (G.2.1 9)) S hw 3 (by decide) rfl rfl in_Sp 5 (by decide) lf_Sp_27 rfl d_Sp_isNewNext_15 ?_
    refine lv_iload_n S.1 S.2.1 d_Sp_isNewNext_18 rfl (lv_at hl 3 rfl) ?_
    refine lv_iload S.1 S.2.1 d_Sp_isNewNext_19 (lv_at hl 4 rfl) ?_
    refine lv_iadd S.1 S.2.1 d_Sp_isNewNext_21 ?_
    refine u_top (y := (nI ((s * 24) + i))) (nI_add (s * 24) i) ?_
    refine u_iaN S hw 9 0 (by decide) rfl rfl (j := ((s * 24) + i)) rfl (by omega) (by decide) d_Sp_isNewNext_22 ?_
    refine lv_aload_n S.1 S.2.1 d_Sp_isNewNext_23 rfl (lv_at hl 0 rfl) ?_
    refine u_get (v := .ref (G.2.1 9)) S hw 3 (by decide) rfl rfl in_Sp 5 (by decide) lf_Sp_27 rfl d_Sp_isNewNext_24 ?_
    refine lv_iload_n S.1 S.2.1 d_Sp_isNewNext_27 rfl (lv_at hl 3 rfl) ?_
    refine lv_iload_n S.1 S.2.1 d_Sp_isNewNext_28 rfl (lv_at hl 2 rfl) ?_
    refine lv_iadd S.1 S.2.1 d_Sp_isNewNext_29 ?_
    refine u_top (y := (nI ((s * 24) + t))) (nI_add (s * 24) t) ?_
    refine u_iaN S hw 9 0 (by decide) rfl rfl (j := ((s * 24) + t)) rfl (by omega) (by decide) d_Sp_isNewNext_30 ?_
    refine lv_icmp_ne (tgt := 36) S.1 S.2.1 d_Sp_isNewNext_31 (by decide) (fun c3 => ?_) (fun c3 => ?_)
    · skip
      have hpi : decide (mem 9 (s * 24 + i) = mem 9 (s * 24 + t)) = false := df c3
      refine lv_iinc (v := (nI (i + 1))) (lv' := [(4, .int (nI (i + 1))), (0, .ref (G.2.1 3)), (1, .int (nI s)), (2, .int (nI t)), (3, .int (nI (s * 24)))]) S.1 S.2.1 d_Sp_isNewNext_36 hl (k := 4) rfl (nI_1 _) (by decide) rfl (fun ls hl => ?_)
      refine lv_goto (tgt := 8) S.1 S.2.1 d_Sp_isNewNext_39 (by decide) ?_
      exact ih8 (i + 1) _ H locs ls (by omega) hw ⟨hi2, lt_step hno hpi, rfl, lv_sub hl [1, 2, 3, 4, 0] rfl⟩
    · skip
      have hl0 := lst_at (p := (fun i => decide (mem 9 (s * 24 + i) = mem 9 (s * 24 + t)))) hi2 (dt c3) hno
      refine lv_iconst (v := (0 : Int32)) S.1 S.2.1 d_Sp_isNewNext_34 (by decide) ?_
      exact u_zret S hr hlk hw (by first | rfl | assumption | exact nb01 (z_Ds_isBelow _ _)) ⟨by unfold s_Sp_isNewNext; rw [hl0, if_pos hi2], rfl⟩ d_Sp_isNewNext_35
set_option maxHeartbeats 4000000 in
set_option maxRecDepth 100000 in
theorem c_Sp_differentNext (l : Launch) (G : UG) (mem : um_M) (s : Nat) (hs : s < 300) : MetX l G y_Sp_differentNext b_Sp_differentNext 4 (some .int) ({ frames := 1, cells := 0, slots := 0, locals := 24 }) [.ref (G.2.1 3), .int (nI s)] mem (fun r mem' => r = nI (cnt (fun i => decide (¬ s_Sp_isNewNext (mem 9) s i = 0)) 24) ∧ mem = mem') := by
  refine u_start [.ref (G.2.1 3), .int (nI s)] (by decide) (Nat.le_of_ble_eq_true rfl) ?_
  intro p_ e_ s_ m_ bl_ me_ c_ ls S hr hlk hin hl hB
  have hw := uH_start hB
  have hl : lv_has ls 4 [(0, .ref (G.2.1 3)), (1, .int (nI s))] := hl
  refine lv_iconst (v := (0 : Int32)) S.1 S.2.1 d_Sp_differentNext_0 (by decide) ?_
  refine lv_istore_n (lv' := [(2, .int (0 : Int32)), (0, .ref (G.2.1 3)), (1, .int (nI s))]) S.1 S.2.1 d_Sp_differentNext_1 rfl hl (by decide) rfl (fun ls hl => ?_)
  refine lv_iconst (v := (0 : Int32)) S.1 S.2.1 d_Sp_differentNext_2 (by decide) ?_
  refine lv_istore_n (lv' := [(3, .int (0 : Int32)), (2, .int (0 : Int32)), (0, .ref (G.2.1 3)), (1, .int (nI s))]) S.1 S.2.1 d_Sp_differentNext_3 rfl hl (by decide) rfl (fun ls hl => ?_)
  refine u_loop (σ := Nat × Nat) (fun (x : Nat × Nat) (mem_ : um_M) (ls : Array Slot) => match x with | (i, a) => (i ≤ 24) ∧ (a = cnt (fun i => decide (¬ s_Sp_isNewNext (mem 9) s i = 0)) i) ∧ mem = mem_ ∧ lv_has ls 4 [(0, .ref (G.2.1 3)), (1, .int (nI s)), (2, .int (nI a)), (3, .int (nI i))]) (fun x => match x with | (i, a) => 24 - i) ?_ (0, 0) hw ⟨Nat.zero_le _, rfl, rfl, lv_sub hl [2, 3, 1, 0] rfl⟩
  intro x memq H locs ls hw hI ih4
  obtain ⟨i, a⟩ := x
  obtain ⟨hik, ha, rfl, hl⟩ := hI
  dsimp only at ih4
  refine lv_iload_n S.1 S.2.1 d_Sp_differentNext_4 rfl (lv_at hl 3 rfl) ?_
  refine lv_bipush (v := (24 : Int32)) S.1 S.2.1 d_Sp_differentNext_5 (by decide) ?_
  refine lv_icmp_ge (tgt := 28) S.1 S.2.1 d_Sp_differentNext_7 (by decide) (fun c1 => ?_) (fun c1 => ?_)
  · skip
    have hi2 : i = 24 := by have q := nle (a := 24) c1 (by omega) (by omega); omega
    refine lv_iload_n S.1 S.2.1 d_Sp_differentNext_28 rfl (lv_at hl 2 rfl) ?_
    exact u_iret S hr hlk hw ⟨by rw [ha, hi2], rfl⟩ d_Sp_differentNext_29
  · skip
    have hi2 : i < 24 := nlt (a := 24) c1 (by omega) (by omega)
    refine lv_aload_n S.1 S.2.1 d_Sp_differentNext_10 rfl (lv_at hl 0 rfl) ?_
    refine lv_iload_n S.1 S.2.1 d_Sp_differentNext_11 rfl (lv_at hl 1 rfl) ?_
    refine lv_iload_n S.1 S.2.1 d_Sp_differentNext_12 rfl (lv_at hl 3 rfl) ?_
    refine u_calli hw (va_runV (As := [.int (nI s), .int (nI i)]) (rest := []) S (c_Sp_isNewNext l G mem s i (by omega) (by omega)) ⟨u_cB S.2.2.2.2 t_Sp_isNewNext ln_Sp lm_Sp_99 hd_Sp_isNewNext rfl rfl ⟨Nat.le_of_ble_eq_true rfl, Nat.le_of_ble_eq_true rfl⟩, S.2.2.2.2 _ li_Sp_isNewNext, S.2.2.2.2 _ ls_Sp_isNewNext⟩ (u_preV hw 3 (by decide) rfl rfl) rfl rfl hl.1 rfl (lv_room (Nat.le_of_ble_eq_true rfl)) d_Sp_differentNext_13 ⟨Nat.zero_le _, Nat.zero_le _⟩) (fun r3 mem2 H locs hp hw => ?_)
    obtain ⟨hp, rfl⟩ := hp
    refine u_top (y := (s_Sp_isNewNext (mem 9) s i)) hp ?_
    refine lv_if_eq (tgt := 22) S.1 S.2.1 d_Sp_differentNext_16 (by decide) (fun c4 => ?_) (fun c4 => ?_)
    · skip
      have hpi : decide (¬ s_Sp_isNewNext (mem 9) s i = 0) = false := df (fun h => h c4)
      refine lv_iinc (v := (nI (i + 1))) (lv' := [(3, .int (nI (i + 1))), (0, .ref (G.2.1 3)), (1, .int (nI s)), (2, .int (nI a))]) S.1 S.2.1 d_Sp_differentNext_22 hl (k := 3) rfl (nI_1 _) (by decide) rfl (fun ls hl => ?_)
      refine lv_goto (tgt := 4) S.1 S.2.1 d_Sp_differentNext_25 (by decide) ?_
      exact ih4 (i + 1, a) _ H locs ls (by omega) hw ⟨hi2, (by rw [ha, cnt_f hpi]), rfl, lv_sub hl [1, 2, 3, 0] rfl⟩
    · skip
      have hpi : decide (¬ s_Sp_isNewNext (mem 9) s i = 0) = true := dt c4
      refine lv_iinc (v := (nI (a + 1))) (lv' := [(2, .int (nI (a + 1))), (0, .ref (G.2.1 3)), (1, .int (nI s)), (3, .int (nI i))]) S.1 S.2.1 d_Sp_differentNext_19 hl (k := 2) rfl (nI_1 _) (by decide) rfl (fun ls hl => ?_)
      refine lv_iinc (v := (nI (i + 1))) (lv' := [(3, .int (nI (i + 1))), (2, .int (nI (a + 1))), (0, .ref (G.2.1 3)), (1, .int (nI s))]) S.1 S.2.1 d_Sp_differentNext_22 hl (k := 3) rfl (nI_1 _) (by decide) rfl (fun ls hl => ?_)
      refine lv_goto (tgt := 4) S.1 S.2.1 d_Sp_differentNext_25 (by decide) ?_
      exact ih4 (i + 1, a + 1) _ H locs ls (by omega) hw ⟨hi2, (by rw [ha, cnt_t hpi]), rfl, lv_sub hl [2, 3, 1, 0] rfl⟩
set_option maxHeartbeats 4000000 in
set_option maxRecDepth 100000 in
theorem c_Sp_stuckStates (l : Launch) (G : UG) (mem : um_M) (a0 : Int32) (k : Nat) (hk : k ≤ 300) (hsz : mem 3 9 = nI k) : MetX l G y_Sp_stuckStates b_Sp_stuckStates 4 (some .int) ({ frames := 2, cells := 0, slots := 0, locals := 43 }) [.ref (G.2.1 3), .int a0] mem (fun r mem' => r = nI (cnt (fun i => decide (mem 8 i = 0 ∧ (a0 = 0 ∨ ¬ s_Pk_allAtLastPlace (mem 4 i) = 0))) k) ∧ mem = mem') := by
  refine u_start [.ref (G.2.1 3), .int a0] (by decide) (Nat.le_of_ble_eq_true rfl) ?_
  intro p_ e_ s_ m_ bl_ me_ c_ ls S hr hlk hin hl hB
  have hw := uH_start hB
  have hl : lv_has ls 4 [(0, .ref (G.2.1 3)), (1, .int a0)] := hl
  refine lv_iconst (v := (0 : Int32)) S.1 S.2.1 d_Sp_stuckStates_0 (by decide) ?_
  refine lv_istore_n (lv' := [(2, .int (0 : Int32)), (0, .ref (G.2.1 3)), (1, .int a0)]) S.1 S.2.1 d_Sp_stuckStates_1 rfl hl (by decide) rfl (fun ls hl => ?_)
  refine lv_iconst (v := (0 : Int32)) S.1 S.2.1 d_Sp_stuckStates_2 (by decide) ?_
  refine lv_istore_n (lv' := [(3, .int (0 : Int32)), (2, .int (0 : Int32)), (0, .ref (G.2.1 3)), (1, .int a0)]) S.1 S.2.1 d_Sp_stuckStates_3 rfl hl (by decide) rfl (fun ls hl => ?_)
  refine u_loop (σ := Nat × Nat) (fun (x : Nat × Nat) (mem_ : um_M) (ls : Array Slot) => match x with | (i, a) => (i ≤ k) ∧ (a = cnt (fun i => decide (mem 8 i = 0 ∧ (a0 = 0 ∨ ¬ s_Pk_allAtLastPlace (mem 4 i) = 0))) i) ∧ mem = mem_ ∧ lv_has ls 4 [(0, .ref (G.2.1 3)), (1, .int a0), (2, .int (nI a)), (3, .int (nI i))]) (fun x => match x with | (i, a) => k - i) ?_ (0, 0) hw ⟨Nat.zero_le _, rfl, rfl, lv_sub hl [2, 3, 1, 0] rfl⟩
  intro x memq H locs ls hw hI ih4
  obtain ⟨i, a⟩ := x
  obtain ⟨hik, ha, rfl, hl⟩ := hI
  dsimp only at ih4
  refine lv_iload_n S.1 S.2.1 d_Sp_stuckStates_4 rfl (lv_at hl 3 rfl) ?_
  refine lv_aload_n S.1 S.2.1 d_Sp_stuckStates_5 rfl (lv_at hl 0 rfl) ?_
  refine u_get (v := .int (mem 3 9)) S hw 3 (by decide) rfl rfl in_Sp 9 (by decide) lf_Sp_39 rfl d_Sp_stuckStates_6 ?_
  refine u_top (y := (nI k)) hsz ?_
  refine lv_icmp_ge (tgt := 46) S.1 S.2.1 d_Sp_stuckStates_9 (by decide) (fun c1 => ?_) (fun c1 => ?_)
  · skip
    have hi2 : i = k := by have q := nle c1 (by omega) (by omega); omega
    refine lv_iload_n S.1 S.2.1 d_Sp_stuckStates_46 rfl (lv_at hl 2 rfl) ?_
    exact u_iret S hr hlk hw ⟨by rw [ha, hi2], rfl⟩ d_Sp_stuckStates_47
  · skip
    have hi2 : i < k := nlt c1 (by omega) (by omega)
    refine lv_aload_n S.1 S.2.1 d_Sp_stuckStates_12 rfl (lv_at hl 0 rfl) ?_
    refine u_get (v := .ref (G.2.1 8)) S hw 3 (by decide) rfl rfl in_Sp 4 (by decide) lf_Sp_24 rfl d_Sp_stuckStates_13 ?_
    refine lv_iload_n S.1 S.2.1 d_Sp_stuckStates_16 rfl (lv_at hl 3 rfl) ?_
    refine u_iaN S hw 8 0 (by decide) rfl rfl (j := i) rfl (by omega) (by decide) d_Sp_stuckStates_17 ?_
    refine lv_if_ne (tgt := 40) S.1 S.2.1 d_Sp_stuckStates_18 (by decide) (fun c2 => ?_) (fun c2 => ?_)
    · skip
      have hpi : decide (mem 8 i = 0 ∧ (a0 = 0 ∨ ¬ s_Pk_allAtLastPlace (mem 4 i) = 0)) = false := df (fun h => c2 h.1)
      refine lv_iinc (v := (nI (i + 1))) (lv' := [(3, .int (nI (i + 1))), (0, .ref (G.2.1 3)), (1, .int a0), (2, .int (nI a))]) S.1 S.2.1 d_Sp_stuckStates_40 hl (k := 3) rfl (nI_1 _) (by decide) rfl (fun ls hl => ?_)
      refine lv_goto (tgt := 4) S.1 S.2.1 d_Sp_stuckStates_43 (by decide) ?_
      exact ih4 (i + 1, a) _ H locs ls (by omega) hw ⟨hi2, (by rw [ha, cnt_f hpi]), rfl, lv_sub hl [1, 2, 3, 0] rfl⟩
    · skip
      have h0 := c2
      refine lv_iload_n S.1 S.2.1 d_Sp_stuckStates_21 rfl (lv_at hl 1 rfl) ?_
      refine lv_if_eq (tgt := 37) S.1 S.2.1 d_Sp_stuckStates_22 (by decide) (fun c3 => ?_) (fun c3 => ?_)
      · skip
        have hpi : decide (mem 8 i = 0 ∧ (a0 = 0 ∨ ¬ s_Pk_allAtLastPlace (mem 4 i) = 0)) = true := dt ⟨h0, Or.inl c3⟩
        refine lv_iinc (v := (nI (a + 1))) (lv' := [(2, .int (nI (a + 1))), (0, .ref (G.2.1 3)), (1, .int a0), (3, .int (nI i))]) S.1 S.2.1 d_Sp_stuckStates_37 hl (k := 2) rfl (nI_1 _) (by decide) rfl (fun ls hl => ?_)
        refine lv_iinc (v := (nI (i + 1))) (lv' := [(3, .int (nI (i + 1))), (2, .int (nI (a + 1))), (0, .ref (G.2.1 3)), (1, .int a0)]) S.1 S.2.1 d_Sp_stuckStates_40 hl (k := 3) rfl (nI_1 _) (by decide) rfl (fun ls hl => ?_)
        refine lv_goto (tgt := 4) S.1 S.2.1 d_Sp_stuckStates_43 (by decide) ?_
        exact ih4 (i + 1, a + 1) _ H locs ls (by omega) hw ⟨hi2, (by rw [ha, cnt_t hpi]), rfl, lv_sub hl [2, 3, 1, 0] rfl⟩
      · skip
        have h1 := c3
        refine lv_aload_n S.1 S.2.1 d_Sp_stuckStates_25 rfl (lv_at hl 0 rfl) ?_
        refine u_get (v := .ref (G.2.1 4)) S hw 3 (by decide) rfl rfl in_Sp 0 (by decide) lf_Sp_9 rfl d_Sp_stuckStates_26 ?_
        refine lv_iload_n S.1 S.2.1 d_Sp_stuckStates_29 rfl (lv_at hl 3 rfl) ?_
        refine u_iaN S hw 4 0 (by decide) rfl rfl (j := i) rfl (by omega) (by decide) d_Sp_stuckStates_30 ?_
        refine u_callp hw (va_runS (As := [.int (mem 4 i)]) (rest := []) S (c_Pk_allAtLastPlace l (mem 4 i)) ⟨u_cB S.2.2.2.2 t_Pk_allAtLastPlace ln_Pk lm_Sp_107 hd_Pk_allAtLastPlace rfl rfl ⟨Nat.le_of_ble_eq_true rfl, Nat.le_of_ble_eq_true rfl⟩, S.2.2.2.2 _ lt_Pk_allAtLastPlace⟩ (u_preP hw.1.2) rfl rfl hl.1 rfl (lv_room (Nat.le_of_ble_eq_true rfl)) d_Sp_stuckStates_31 ⟨Nat.zero_le _, Nat.zero_le _⟩) (fun r H locs hp hw => ?_)
        refine u_top (y := (s_Pk_allAtLastPlace (mem 4 i))) hp ?_
        refine lv_if_eq (tgt := 40) S.1 S.2.1 d_Sp_stuckStates_34 (by decide) (fun c4 => ?_) (fun c4 => ?_)
        · skip
          have hpi : decide (mem 8 i = 0 ∧ (a0 = 0 ∨ ¬ s_Pk_allAtLastPlace (mem 4 i) = 0)) = false := df (fun h => h.2.elim h1 (fun q => q c4))
          refine lv_iinc (v := (nI (i + 1))) (lv' := [(3, .int (nI (i + 1))), (0, .ref (G.2.1 3)), (1, .int a0), (2, .int (nI a))]) S.1 S.2.1 d_Sp_stuckStates_40 hl (k := 3) rfl (nI_1 _) (by decide) rfl (fun ls hl => ?_)
          refine lv_goto (tgt := 4) S.1 S.2.1 d_Sp_stuckStates_43 (by decide) ?_
          exact ih4 (i + 1, a) _ H locs ls (by omega) hw ⟨hi2, (by rw [ha, cnt_f hpi]), rfl, lv_sub hl [1, 2, 3, 0] rfl⟩
        · skip
          have hpi : decide (mem 8 i = 0 ∧ (a0 = 0 ∨ ¬ s_Pk_allAtLastPlace (mem 4 i) = 0)) = true := dt ⟨h0, Or.inr c4⟩
          refine lv_iinc (v := (nI (a + 1))) (lv' := [(2, .int (nI (a + 1))), (0, .ref (G.2.1 3)), (1, .int a0), (3, .int (nI i))]) S.1 S.2.1 d_Sp_stuckStates_37 hl (k := 2) rfl (nI_1 _) (by decide) rfl (fun ls hl => ?_)
          refine lv_iinc (v := (nI (i + 1))) (lv' := [(3, .int (nI (i + 1))), (2, .int (nI (a + 1))), (0, .ref (G.2.1 3)), (1, .int a0)]) S.1 S.2.1 d_Sp_stuckStates_40 hl (k := 3) rfl (nI_1 _) (by decide) rfl (fun ls hl => ?_)
          refine lv_goto (tgt := 4) S.1 S.2.1 d_Sp_stuckStates_43 (by decide) ?_
          exact ih4 (i + 1, a + 1) _ H locs ls (by omega) hw ⟨hi2, (by rw [ha, cnt_t hpi]), rfl, lv_sub hl [2, 3, 1, 0] rfl⟩
set_option maxHeartbeats 4000000 in
set_option maxRecDepth 100000 in
theorem c_Ds_openNow (l : Launch) (G : UG) (mem : um_M) (n : Nat) (hn : n ≤ 24) (hnn : mem 0 4 = nI n) : MetX l G y_Ds_openNow b_Ds_openNow 3 (some .int) ({ frames := 3, cells := 0, slots := 0, locals := 63 }) [.ref (G.2.1 0)] mem (fun r mem' => r = nI (cnt (fun i => decide (¬ s_Tr_isOpenIn (mem (17 + i)) (mem 0 7) = 0)) n) ∧ mem = mem') := by
  refine u_start [.ref (G.2.1 0)] (by decide) (Nat.le_of_ble_eq_true rfl) ?_
  intro p_ e_ s_ m_ bl_ me_ c_ ls S hr hlk hin hl hB
  have hw := uH_start hB
  have hl : lv_has ls 3 [(0, .ref (G.2.1 0))] := hl
  refine lv_iconst (v := (0 : Int32)) S.1 S.2.1 d_Ds_openNow_0 (by decide) ?_
  refine lv_istore_n (lv' := [(1, .int (0 : Int32)), (0, .ref (G.2.1 0))]) S.1 S.2.1 d_Ds_openNow_1 rfl hl (by decide) rfl (fun ls hl => ?_)
  refine lv_iconst (v := (0 : Int32)) S.1 S.2.1 d_Ds_openNow_2 (by decide) ?_
  refine lv_istore_n (lv' := [(2, .int (0 : Int32)), (1, .int (0 : Int32)), (0, .ref (G.2.1 0))]) S.1 S.2.1 d_Ds_openNow_3 rfl hl (by decide) rfl (fun ls hl => ?_)
  refine u_loop (σ := Nat × Nat) (fun (x : Nat × Nat) (mem_ : um_M) (ls : Array Slot) => match x with | (i, a) => (i ≤ n) ∧ (a = cnt (fun i => decide (¬ s_Tr_isOpenIn (mem (17 + i)) (mem 0 7) = 0)) i) ∧ mem = mem_ ∧ lv_has ls 3 [(0, .ref (G.2.1 0)), (1, .int (nI a)), (2, .int (nI i))]) (fun x => match x with | (i, a) => n - i) ?_ (0, 0) hw ⟨Nat.zero_le _, rfl, rfl, lv_sub hl [2, 1, 0] rfl⟩
  intro x memq H locs ls hw hI ih4
  obtain ⟨i, a⟩ := x
  obtain ⟨hik, ha, rfl, hl⟩ := hI
  dsimp only at ih4
  refine lv_iload_n S.1 S.2.1 d_Ds_openNow_4 rfl (lv_at hl 2 rfl) ?_
  refine lv_aload_n S.1 S.2.1 d_Ds_openNow_5 rfl (lv_at hl 0 rfl) ?_
  refine u_get (v := .int (mem 0 4)) S hw 0 (by decide) rfl rfl in_Ds 4 (by decide) lf_Ds_61 rfl d_Ds_openNow_6 ?_
  refine u_top (y := (nI n)) hnn ?_
  refine lv_icmp_ge (tgt := 37) S.1 S.2.1 d_Ds_openNow_9 (by decide) (fun c1 => ?_) (fun c1 => ?_)
  · skip
    have hi2 : i = n := by have q := nle c1 (by omega) (by omega); omega
    refine lv_iload_n S.1 S.2.1 d_Ds_openNow_37 rfl (lv_at hl 1 rfl) ?_
    exact u_iret S hr hlk hw ⟨by rw [ha, hi2], rfl⟩ d_Ds_openNow_38
  · skip
    have hi2 : i < n := nlt c1 (by omega) (by omega)
    refine lv_aload_n S.1 S.2.1 d_Ds_openNow_12 rfl (lv_at hl 0 rfl) ?_
    refine u_get (v := .ref (G.2.1 1)) S hw 0 (by decide) rfl rfl in_Ds 0 (by decide) lf_Ds_11 rfl d_Ds_openNow_13 ?_
    refine lv_iload_n S.1 S.2.1 d_Ds_openNow_16 rfl (lv_at hl 2 rfl) ?_
    refine u_aaN S hw 1 2 (by decide) rfl rfl (j := i) rfl (by omega) (by decide) (v := .ref (G.2.1 (17 + i))) rfl d_Ds_openNow_17 ?_
    refine lv_aload_n S.1 S.2.1 d_Ds_openNow_18 rfl (lv_at hl 0 rfl) ?_
    refine u_get (v := .int (mem 0 7)) S hw 0 (by decide) rfl rfl in_Ds 7 (by decide) lf_Ds_134 rfl d_Ds_openNow_19 ?_
    refine u_calli hw (va_runV (As := [.int (mem 0 7)]) (rest := []) S (c_Tr_isOpenIn l G mem i (by omega) (mem 0 7)) ⟨u_cB S.2.2.2.2 t_Tr_isOpenIn ln_Tr lm_Ds_137 hd_Tr_isOpenIn rfl rfl ⟨Nat.le_of_ble_eq_true rfl, Nat.le_of_ble_eq_true rfl⟩, S.2.2.2.2 _ li_Tr_isOpenIn, S.2.2.2.2 _ ls_Tr_isOpenIn⟩ (u_preV hw (17 + i) (by omega) (sh_Tr i (by omega)) rfl) rfl rfl hl.1 rfl (lv_room (Nat.le_of_ble_eq_true rfl)) d_Ds_openNow_22 ⟨Nat.zero_le _, Nat.zero_le _⟩) (fun r3 mem2 H locs hp hw => ?_)
    obtain ⟨hp, rfl⟩ := hp
    refine u_top (y := (s_Tr_isOpenIn (mem (17 + i)) (mem 0 7))) hp ?_
    refine lv_if_eq (tgt := 31) S.1 S.2.1 d_Ds_openNow_25 (by decide) (fun c4 => ?_) (fun c4 => ?_)
    · skip
      have hpi : decide (¬ s_Tr_isOpenIn (mem (17 + i)) (mem 0 7) = 0) = false := df (fun h => h c4)
      refine lv_iinc (v := (nI (i + 1))) (lv' := [(2, .int (nI (i + 1))), (0, .ref (G.2.1 0)), (1, .int (nI a))]) S.1 S.2.1 d_Ds_openNow_31 hl (k := 2) rfl (nI_1 _) (by decide) rfl (fun ls hl => ?_)
      refine lv_goto (tgt := 4) S.1 S.2.1 d_Ds_openNow_34 (by decide) ?_
      exact ih4 (i + 1, a) _ H locs ls (by omega) hw ⟨hi2, (by rw [ha, cnt_f hpi]), rfl, lv_sub hl [1, 2, 0] rfl⟩
    · skip
      have hpi : decide (¬ s_Tr_isOpenIn (mem (17 + i)) (mem 0 7) = 0) = true := dt c4
      refine lv_iinc (v := (nI (a + 1))) (lv' := [(1, .int (nI (a + 1))), (0, .ref (G.2.1 0)), (2, .int (nI i))]) S.1 S.2.1 d_Ds_openNow_28 hl (k := 1) rfl (nI_1 _) (by decide) rfl (fun ls hl => ?_)
      refine lv_iinc (v := (nI (i + 1))) (lv' := [(2, .int (nI (i + 1))), (1, .int (nI (a + 1))), (0, .ref (G.2.1 0))]) S.1 S.2.1 d_Ds_openNow_31 hl (k := 2) rfl (nI_1 _) (by decide) rfl (fun ls hl => ?_)
      refine lv_goto (tgt := 4) S.1 S.2.1 d_Ds_openNow_34 (by decide) ?_
      exact ih4 (i + 1, a + 1) _ H locs ls (by omega) hw ⟨hi2, (by rw [ha, cnt_t hpi]), rfl, lv_sub hl [2, 1, 0] rfl⟩
set_option maxHeartbeats 4000000 in
set_option maxRecDepth 100000 in
theorem c_Ds_failingNow (l : Launch) (G : UG) (mem : um_M) (n : Nat) (hn : n ≤ 6) (hnn : mem 0 5 = nI n) : MetX l G y_Ds_failingNow b_Ds_failingNow 3 (some .int) ({ frames := 2, cells := 0, slots := 0, locals := 42 }) [.ref (G.2.1 0)] mem (fun r mem' => r = nI (cnt (fun i => decide (¬ s_Cm_failsIn (mem (41 + i)) (mem 0 7) = 0)) n) ∧ mem = mem') := by
  refine u_start [.ref (G.2.1 0)] (by decide) (Nat.le_of_ble_eq_true rfl) ?_
  intro p_ e_ s_ m_ bl_ me_ c_ ls S hr hlk hin hl hB
  have hw := uH_start hB
  have hl : lv_has ls 3 [(0, .ref (G.2.1 0))] := hl
  refine lv_iconst (v := (0 : Int32)) S.1 S.2.1 d_Ds_failingNow_0 (by decide) ?_
  refine lv_istore_n (lv' := [(1, .int (0 : Int32)), (0, .ref (G.2.1 0))]) S.1 S.2.1 d_Ds_failingNow_1 rfl hl (by decide) rfl (fun ls hl => ?_)
  refine lv_iconst (v := (0 : Int32)) S.1 S.2.1 d_Ds_failingNow_2 (by decide) ?_
  refine lv_istore_n (lv' := [(2, .int (0 : Int32)), (1, .int (0 : Int32)), (0, .ref (G.2.1 0))]) S.1 S.2.1 d_Ds_failingNow_3 rfl hl (by decide) rfl (fun ls hl => ?_)
  refine u_loop (σ := Nat × Nat) (fun (x : Nat × Nat) (mem_ : um_M) (ls : Array Slot) => match x with | (i, a) => (i ≤ n) ∧ (a = cnt (fun i => decide (¬ s_Cm_failsIn (mem (41 + i)) (mem 0 7) = 0)) i) ∧ mem = mem_ ∧ lv_has ls 3 [(0, .ref (G.2.1 0)), (1, .int (nI a)), (2, .int (nI i))]) (fun x => match x with | (i, a) => n - i) ?_ (0, 0) hw ⟨Nat.zero_le _, rfl, rfl, lv_sub hl [2, 1, 0] rfl⟩
  intro x memq H locs ls hw hI ih4
  obtain ⟨i, a⟩ := x
  obtain ⟨hik, ha, rfl, hl⟩ := hI
  dsimp only at ih4
  refine lv_iload_n S.1 S.2.1 d_Ds_failingNow_4 rfl (lv_at hl 2 rfl) ?_
  refine lv_aload_n S.1 S.2.1 d_Ds_failingNow_5 rfl (lv_at hl 0 rfl) ?_
  refine u_get (v := .int (mem 0 5)) S hw 0 (by decide) rfl rfl in_Ds 5 (by decide) lf_Ds_68 rfl d_Ds_failingNow_6 ?_
  refine u_top (y := (nI n)) hnn ?_
  refine lv_icmp_ge (tgt := 37) S.1 S.2.1 d_Ds_failingNow_9 (by decide) (fun c1 => ?_) (fun c1 => ?_)
  · skip
    have hi2 : i = n := by have q := nle c1 (by omega) (by omega); omega
    refine lv_iload_n S.1 S.2.1 d_Ds_failingNow_37 rfl (lv_at hl 1 rfl) ?_
    exact u_iret S hr hlk hw ⟨by rw [ha, hi2], rfl⟩ d_Ds_failingNow_38
  · skip
    have hi2 : i < n := nlt c1 (by omega) (by omega)
    refine lv_aload_n S.1 S.2.1 d_Ds_failingNow_12 rfl (lv_at hl 0 rfl) ?_
    refine u_get (v := .ref (G.2.1 2)) S hw 0 (by decide) rfl rfl in_Ds 1 (by decide) lf_Ds_18 rfl d_Ds_failingNow_13 ?_
    refine lv_iload_n S.1 S.2.1 d_Ds_failingNow_16 rfl (lv_at hl 2 rfl) ?_
    refine u_aaN S hw 2 3 (by decide) rfl rfl (j := i) rfl (by omega) (by decide) (v := .ref (G.2.1 (41 + i))) rfl d_Ds_failingNow_17 ?_
    refine lv_aload_n S.1 S.2.1 d_Ds_failingNow_18 rfl (lv_at hl 0 rfl) ?_
    refine u_get (v := .int (mem 0 7)) S hw 0 (by decide) rfl rfl in_Ds 7 (by decide) lf_Ds_134 rfl d_Ds_failingNow_19 ?_
    refine u_calli hw (va_runV (As := [.int (mem 0 7)]) (rest := []) S (c_Cm_failsIn l G mem i (by omega) (mem 0 7)) ⟨u_cB S.2.2.2.2 t_Cm_failsIn ln_Cm lm_Ds_167 hd_Cm_failsIn rfl rfl ⟨Nat.le_of_ble_eq_true rfl, Nat.le_of_ble_eq_true rfl⟩, S.2.2.2.2 _ li_Cm_failsIn, S.2.2.2.2 _ ls_Cm_failsIn⟩ (u_preV hw (41 + i) (by omega) (sh_Cm i (by omega)) rfl) rfl rfl hl.1 rfl (lv_room (Nat.le_of_ble_eq_true rfl)) d_Ds_failingNow_22 ⟨Nat.zero_le _, Nat.zero_le _⟩) (fun r3 mem2 H locs hp hw => ?_)
    obtain ⟨hp, rfl⟩ := hp
    refine u_top (y := (s_Cm_failsIn (mem (41 + i)) (mem 0 7))) hp ?_
    refine lv_if_eq (tgt := 31) S.1 S.2.1 d_Ds_failingNow_25 (by decide) (fun c4 => ?_) (fun c4 => ?_)
    · skip
      have hpi : decide (¬ s_Cm_failsIn (mem (41 + i)) (mem 0 7) = 0) = false := df (fun h => h c4)
      refine lv_iinc (v := (nI (i + 1))) (lv' := [(2, .int (nI (i + 1))), (0, .ref (G.2.1 0)), (1, .int (nI a))]) S.1 S.2.1 d_Ds_failingNow_31 hl (k := 2) rfl (nI_1 _) (by decide) rfl (fun ls hl => ?_)
      refine lv_goto (tgt := 4) S.1 S.2.1 d_Ds_failingNow_34 (by decide) ?_
      exact ih4 (i + 1, a) _ H locs ls (by omega) hw ⟨hi2, (by rw [ha, cnt_f hpi]), rfl, lv_sub hl [1, 2, 0] rfl⟩
    · skip
      have hpi : decide (¬ s_Cm_failsIn (mem (41 + i)) (mem 0 7) = 0) = true := dt c4
      refine lv_iinc (v := (nI (a + 1))) (lv' := [(1, .int (nI (a + 1))), (0, .ref (G.2.1 0)), (2, .int (nI i))]) S.1 S.2.1 d_Ds_failingNow_28 hl (k := 1) rfl (nI_1 _) (by decide) rfl (fun ls hl => ?_)
      refine lv_iinc (v := (nI (i + 1))) (lv' := [(2, .int (nI (i + 1))), (1, .int (nI (a + 1))), (0, .ref (G.2.1 0))]) S.1 S.2.1 d_Ds_failingNow_31 hl (k := 2) rfl (nI_1 _) (by decide) rfl (fun ls hl => ?_)
      refine lv_goto (tgt := 4) S.1 S.2.1 d_Ds_failingNow_34 (by decide) ?_
      exact ih4 (i + 1, a + 1) _ H locs ls (by omega) hw ⟨hi2, (by rw [ha, cnt_t hpi]), rfl, lv_sub hl [2, 1, 0] rfl⟩
