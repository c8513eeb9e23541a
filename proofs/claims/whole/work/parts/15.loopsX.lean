def s_Pk_allAtLastPlace (a0 : Int32) : Int32 := (if (s_Pk_place a0 (0 : Int32)) = (7 : Int32) then (if (s_Pk_place a0 (1 : Int32)) = (7 : Int32) then (if (s_Pk_place a0 (2 : Int32)) = (7 : Int32) then (1 : Int32) else (0 : Int32)) else (0 : Int32)) else (0 : Int32))
set_option maxHeartbeats 4000000 in
set_option maxRecDepth 100000 in
theorem c_Pk_allAtLastPlace (l : Launch) (a0 : Int32) : MetP l y_Pk_allAtLastPlace b_Pk_allAtLastPlace 3 (some .boolean) ({ frames := 1, cells := 0, slots := 0, locals := 21 }) [.int a0] (s_Pk_allAtLastPlace a0) := by
  refine u_start [.int a0] (by decide) (Nat.le_of_ble_eq_true rfl) ?_
  intro p_ e_ s_ m_ bl_ me_ c_ ls S hr hlk hin hl hB
  have hw : uN s_ ∧ va_S (fun _ => False) s_.heap s_.heap [] := ⟨hB, va_S.rf⟩
  have hl : lv_has ls 3 [(0, .int a0)] := hl
  refine lv_iconst (v := (1 : Int32)) S.1 S.2.1 d_Pk_allAtLastPlace_0 (by decide) ?_
  refine lv_istore_n (lv' := [(1, .int (1 : Int32)), (0, .int a0)]) S.1 S.2.1 d_Pk_allAtLastPlace_1 rfl hl (by decide) rfl (fun ls hl => ?_)
  refine lv_iconst (v := (0 : Int32)) S.1 S.2.1 d_Pk_allAtLastPlace_2 (by decide) ?_
  refine lv_istore_n (lv' := [(2, .int (0 : Int32)), (1, .int (1 : Int32)), (0, .int a0)]) S.1 S.2.1 d_Pk_allAtLastPlace_3 rfl hl (by decide) rfl (fun ls hl => ?_)
  refine lv_iload_n S.1 S.2.1 d_Pk_allAtLastPlace_4 rfl (lv_at hl 0 rfl) ?_
  refine lv_iconst (v := (3 : Int32)) S.1 S.2.1 d_Pk_allAtLastPlace_5 (by decide) ?_
  refine lv_icmp_ge (tgt := 35) S.1 S.2.1 d_Pk_allAtLastPlace_6 (by decide) (fun c1 => ?_) (fun c1 => ?_)
  · skip
    exact absurd c1 (by decide)
  · skip
    refine lv_iload_n S.1 S.2.1 d_Pk_allAtLastPlace_9 rfl (lv_at hl 1 rfl) ?_
    refine lv_if_eq (tgt := 27) S.1 S.2.1 d_Pk_allAtLastPlace_10 (by decide) (fun c2 => ?_) (fun c2 => ?_)
    · skip
      exact absurd c2 (by decide)
    · skip
      refine lv_iload_n S.1 S.2.1 d_Pk_allAtLastPlace_13 rfl (lv_at hl 2 rfl) ?_
      refine lv_iload_n S.1 S.2.1 d_Pk_allAtLastPlace_14 rfl (lv_at hl 0 rfl) ?_
      refine u_callpp hw (va_runS (As := [.int a0, .int (0 : Int32)]) (rest := []) S (c_Pk_place l a0 (0 : Int32)) ⟨u_cB S.2.2.2.2 t_Pk_place ln_Pk lm_Pk_17 hd_Pk_place rfl rfl ⟨Nat.le_of_ble_eq_true rfl, Nat.le_of_ble_eq_true rfl⟩, S.2.2.2.2 _ lt_Pk_place⟩ (u_preP hw.1) rfl rfl hl.1 rfl (lv_room (Nat.le_of_ble_eq_true rfl)) d_Pk_allAtLastPlace_15 ⟨Nat.zero_le _, Nat.zero_le _⟩) (fun r H locs hp hw => ?_)
      refine u_top (y := (s_Pk_place a0 (0 : Int32))) hp ?_
      refine lv_bipush (v := (7 : Int32)) S.1 S.2.1 d_Pk_allAtLastPlace_18 (by decide) ?_
      refine lv_icmp_ne (tgt := 27) S.1 S.2.1 d_Pk_allAtLastPlace_20 (by decide) (fun c3 => ?_) (fun c3 => ?_)
      · skip
        refine lv_iconst (v := (0 : Int32)) S.1 S.2.1 d_Pk_allAtLastPlace_27 (by decide) ?_
        refine lv_istore_n (lv' := [(1, .int (0 : Int32)), (2, .int (0 : Int32)), (0, .int a0)]) S.1 S.2.1 d_Pk_allAtLastPlace_28 rfl hl (by decide) rfl (fun ls hl => ?_)
        refine lv_iinc (v := (1 : Int32)) (lv' := [(2, .int (1 : Int32)), (1, .int (0 : Int32)), (0, .int a0)]) S.1 S.2.1 d_Pk_allAtLastPlace_29 hl (k := 1) rfl (by decide) (by decide) rfl (fun ls hl => ?_)
        refine lv_goto (tgt := 4) S.1 S.2.1 d_Pk_allAtLastPlace_32 (by decide) ?_
        refine lv_iload_n S.1 S.2.1 d_Pk_allAtLastPlace_4 rfl (lv_at hl 0 rfl) ?_
        refine lv_iconst (v := (3 : Int32)) S.1 S.2.1 d_Pk_allAtLastPlace_5 (by decide) ?_
        refine lv_icmp_ge (tgt := 35) S.1 S.2.1 d_Pk_allAtLastPlace_6 (by decide) (fun c4 => ?_) (fun c4 => ?_)
        · skip
          exact absurd c4 (by decide)
        · skip
          refine lv_iload_n S.1 S.2.1 d_Pk_allAtLastPlace_9 rfl (lv_at hl 1 rfl) ?_
          refine lv_if_eq (tgt := 27) S.1 S.2.1 d_Pk_allAtLastPlace_10 (by decide) (fun c5 => ?_) (fun c5 => ?_)
          · skip
            refine lv_iconst (v := (0 : Int32)) S.1 S.2.1 d_Pk_allAtLastPlace_27 (by decide) ?_
            refine lv_istore_n (lv' := [(1, .int (0 : Int32)), (2, .int (1 : Int32)), (0, .int a0)]) S.1 S.2.1 d_Pk_allAtLastPlace_28 rfl hl (by decide) rfl (fun ls hl => ?_)
            refine lv_iinc (v := (2 : Int32)) (lv' := [(2, .int (2 : Int32)), (1, .int (0 : Int32)), (0, .int a0)]) S.1 S.2.1 d_Pk_allAtLastPlace_29 hl (k := 1) rfl (by decide) (by decide) rfl (fun ls hl => ?_)
            refine lv_goto (tgt := 4) S.1 S.2.1 d_Pk_allAtLastPlace_32 (by decide) ?_
            refine lv_iload_n S.1 S.2.1 d_Pk_allAtLastPlace_4 rfl (lv_at hl 0 rfl) ?_
            refine lv_iconst (v := (3 : Int32)) S.1 S.2.1 d_Pk_allAtLastPlace_5 (by decide) ?_
            refine lv_icmp_ge (tgt := 35) S.1 S.2.1 d_Pk_allAtLastPlace_6 (by decide) (fun c6 => ?_) (fun c6 => ?_)
            · skip
              exact absurd c6 (by decide)
            · skip
              refine lv_iload_n S.1 S.2.1 d_Pk_allAtLastPlace_9 rfl (lv_at hl 1 rfl) ?_
              refine lv_if_eq (tgt := 27) S.1 S.2.1 d_Pk_allAtLastPlace_10 (by decide) (fun c7 => ?_) (fun c7 => ?_)
              · skip
                refine lv_iconst (v := (0 : Int32)) S.1 S.2.1 d_Pk_allAtLastPlace_27 (by decide) ?_
                refine lv_istore_n (lv' := [(1, .int (0 : Int32)), (2, .int (2 : Int32)), (0, .int a0)]) S.1 S.2.1 d_Pk_allAtLastPlace_28 rfl hl (by decide) rfl (fun ls hl => ?_)
                refine lv_iinc (v := (3 : Int32)) (lv' := [(2, .int (3 : Int32)), (1, .int (0 : Int32)), (0, .int a0)]) S.1 S.2.1 d_Pk_allAtLastPlace_29 hl (k := 1) rfl (by decide) (by decide) rfl (fun ls hl => ?_)
                refine lv_goto (tgt := 4) S.1 S.2.1 d_Pk_allAtLastPlace_32 (by decide) ?_
                refine lv_iload_n S.1 S.2.1 d_Pk_allAtLastPlace_4 rfl (lv_at hl 0 rfl) ?_
                refine lv_iconst (v := (3 : Int32)) S.1 S.2.1 d_Pk_allAtLastPlace_5 (by decide) ?_
                refine lv_icmp_ge (tgt := 35) S.1 S.2.1 d_Pk_allAtLastPlace_6 (by decide) (fun c8 => ?_) (fun c8 => ?_)
                · skip
                  refine lv_iload_n S.1 S.2.1 d_Pk_allAtLastPlace_35 rfl (lv_at hl 1 rfl) ?_
                  exact u_pzret S hr hlk hw (by first | rfl | assumption | exact nb01 (z_Ds_isBelow _ _)) (by unfold s_Pk_allAtLastPlace; simp only [if_neg c3]) d_Pk_allAtLastPlace_36
                · skip
                  exact absurd (by decide) c8
              · skip
                exact absurd (by decide) c7
          · skip
            exact absurd (by decide) c5
      · skip
        refine lv_iconst (v := (1 : Int32)) S.1 S.2.1 d_Pk_allAtLastPlace_23 (by decide) ?_
        refine lv_goto (tgt := 28) S.1 S.2.1 d_Pk_allAtLastPlace_24 (by decide) ?_
        refine lv_istore_n (lv' := [(1, .int (1 : Int32)), (2, .int (0 : Int32)), (0, .int a0)]) S.1 S.2.1 d_Pk_allAtLastPlace_28 rfl hl (by decide) rfl (fun ls hl => ?_)
        refine lv_iinc (v := (1 : Int32)) (lv' := [(2, .int (1 : Int32)), (1, .int (1 : Int32)), (0, .int a0)]) S.1 S.2.1 d_Pk_allAtLastPlace_29 hl (k := 1) rfl (by decide) (by decide) rfl (fun ls hl => ?_)
        refine lv_goto (tgt := 4) S.1 S.2.1 d_Pk_allAtLastPlace_32 (by decide) ?_
        refine lv_iload_n S.1 S.2.1 d_Pk_allAtLastPlace_4 rfl (lv_at hl 0 rfl) ?_
        refine lv_iconst (v := (3 : Int32)) S.1 S.2.1 d_Pk_allAtLastPlace_5 (by decide) ?_
        refine lv_icmp_ge (tgt := 35) S.1 S.2.1 d_Pk_allAtLastPlace_6 (by decide) (fun c9 => ?_) (fun c9 => ?_)
        · skip
          exact absurd c9 (by decide)
        · skip
          refine lv_iload_n S.1 S.2.1 d_Pk_allAtLastPlace_9 rfl (lv_at hl 1 rfl) ?_
          refine lv_if_eq (tgt := 27) S.1 S.2.1 d_Pk_allAtLastPlace_10 (by decide) (fun c10 => ?_) (fun c10 => ?_)
          · skip
            exact absurd c10 (by decide)
          · skip
            refine lv_iload_n S.1 S.2.1 d_Pk_allAtLastPlace_13 rfl (lv_at hl 2 rfl) ?_
            refine lv_iload_n S.1 S.2.1 d_Pk_allAtLastPlace_14 rfl (lv_at hl 0 rfl) ?_
            refine u_callpp hw (va_runS (As := [.int a0, .int (1 : Int32)]) (rest := []) S (c_Pk_place l a0 (1 : Int32)) ⟨u_cB S.2.2.2.2 t_Pk_place ln_Pk lm_Pk_17 hd_Pk_place rfl rfl ⟨Nat.le_of_ble_eq_true rfl, Nat.le_of_ble_eq_true rfl⟩, S.2.2.2.2 _ lt_Pk_place⟩ (u_preP hw.1) rfl rfl hl.1 rfl (lv_room (Nat.le_of_ble_eq_true rfl)) d_Pk_allAtLastPlace_15 ⟨Nat.zero_le _, Nat.zero_le _⟩) (fun r H locs hp hw => ?_)
            refine u_top (y := (s_Pk_place a0 (1 : Int32))) hp ?_
            refine lv_bipush (v := (7 : Int32)) S.1 S.2.1 d_Pk_allAtLastPlace_18 (by decide) ?_
            refine lv_icmp_ne (tgt := 27) S.1 S.2.1 d_Pk_allAtLastPlace_20 (by decide) (fun c11 => ?_) (fun c11 => ?_)
            · skip
              refine lv_iconst (v := (0 : Int32)) S.1 S.2.1 d_Pk_allAtLastPlace_27 (by decide) ?_
              refine lv_istore_n (lv' := [(1, .int (0 : Int32)), (2, .int (1 : Int32)), (0, .int a0)]) S.1 S.2.1 d_Pk_allAtLastPlace_28 rfl hl (by decide) rfl (fun ls hl => ?_)
              refine lv_iinc (v := (2 : Int32)) (lv' := [(2, .int (2 : Int32)), (1, .int (0 : Int32)), (0, .int a0)]) S.1 S.2.1 d_Pk_allAtLastPlace_29 hl (k := 1) rfl (by decide) (by decide) rfl (fun ls hl => ?_)
              refine lv_goto (tgt := 4) S.1 S.2.1 d_Pk_allAtLastPlace_32 (by decide) ?_
              refine lv_iload_n S.1 S.2.1 d_Pk_allAtLastPlace_4 rfl (lv_at hl 0 rfl) ?_
              refine lv_iconst (v := (3 : Int32)) S.1 S.2.1 d_Pk_allAtLastPlace_5 (by decide) ?_
              refine lv_icmp_ge (tgt := 35) S.1 S.2.1 d_Pk_allAtLastPlace_6 (by decide) (fun c12 => ?_) (fun c12 => ?_)
              · skip
                exact absurd c12 (by decide)
              · skip
                refine lv_iload_n S.1 S.2.1 d_Pk_allAtLastPlace_9 rfl (lv_at hl 1 rfl) ?_
                refine lv_if_eq (tgt := 27) S.1 S.2.1 d_Pk_allAtLastPlace_10 (by decide) (fun c13 => ?_) (fun c13 => ?_)
                · skip
                  refine lv_iconst (v := (0 : Int32)) S.1 S.2.1 d_Pk_allAtLastPlace_27 (by decide) ?_
                  refine lv_istore_n (lv' := [(1, .int (0 : Int32)), (2, .int (2 : Int32)), (0, .int a0)]) S.1 S.2.1 d_Pk_allAtLastPlace_28 rfl hl (by decide) rfl (fun ls hl => ?_)
                  refine lv_iinc (v := (3 : Int32)) (lv' := [(2, .int (3 : Int32)), (1, .int (0 : Int32)), (0, .int a0)]) S.1 S.2.1 d_Pk_allAtLastPlace_29 hl (k := 1) rfl (by decide) (by decide) rfl (fun ls hl => ?_)
                  refine lv_goto (tgt := 4) S.1 S.2.1 d_Pk_allAtLastPlace_32 (by decide) ?_
                  refine lv_iload_n S.1 S.2.1 d_Pk_allAtLastPlace_4 rfl (lv_at hl 0 rfl) ?_
                  refine lv_iconst (v := (3 : Int32)) S.1 S.2.1 d_Pk_allAtLastPlace_5 (by decide) ?_
                  refine lv_icmp_ge (tgt := 35) S.1 S.2.1 d_Pk_allAtLastPlace_6 (by decide) (fun c14 => ?_) (fun c14 => ?_)
                  · skip
                    refine lv_iload_n S.1 S.2.1 d_Pk_allAtLastPlace_35 rfl (lv_at hl 1 rfl) ?_
                    exact u_pzret S hr hlk hw (by first | rfl | assumption | exact nb01 (z_Ds_isBelow _ _)) (by unfold s_Pk_allAtLastPlace; simp only [if_pos c3, if_neg c11]) d_Pk_allAtLastPlace_36
                  · skip
                    exact absurd (by decide) c14
                · skip
                  exact absurd (by decide) c13
            · skip
              refine lv_iconst (v := (1 : Int32)) S.1 S.2.1 d_Pk_allAtLastPlace_23 (by decide) ?_
              refine lv_goto (tgt := 28) S.1 S.2.1 d_Pk_allAtLastPlace_24 (by decide) ?_
              refine lv_istore_n (lv' := [(1, .int (1 : Int32)), (2, .int (1 : Int32)), (0, .int a0)]) S.1 S.2.1 d_Pk_allAtLastPlace_28 rfl hl (by decide) rfl (fun ls hl => ?_)
              refine lv_iinc (v := (2 : Int32)) (lv' := [(2, .int (2 : Int32)), (1, .int (1 : Int32)), (0, .int a0)]) S.1 S.2.1 d_Pk_allAtLastPlace_29 hl (k := 1) rfl (by decide) (by decide) rfl (fun ls hl => ?_)
              refine lv_goto (tgt := 4) S.1 S.2.1 d_Pk_allAtLastPlace_32 (by decide) ?_
              refine lv_iload_n S.1 S.2.1 d_Pk_allAtLastPlace_4 rfl (lv_at hl 0 rfl) ?_
              refine lv_iconst (v := (3 : Int32)) S.1 S.2.1 d_Pk_allAtLastPlace_5 (by decide) ?_
              refine lv_icmp_ge (tgt := 35) S.1 S.2.1 d_Pk_allAtLastPlace_6 (by decide) (fun c15 => ?_) (fun c15 => ?_)
              · skip
                exact absurd c15 (by decide)
              · skip
                refine lv_iload_n S.1 S.2.1 d_Pk_allAtLastPlace_9 rfl (lv_at hl 1 rfl) ?_
                refine lv_if_eq (tgt := 27) S.1 S.2.1 d_Pk_allAtLastPlace_10 (by decide) (fun c16 => ?_) (fun c16 => ?_)
                · skip
                  exact absurd c16 (by decide)
                · skip
                  refine lv_iload_n S.1 S.2.1 d_Pk_allAtLastPlace_13 rfl (lv_at hl 2 rfl) ?_
                  refine lv_iload_n S.1 S.2.1 d_Pk_allAtLastPlace_14 rfl (lv_at hl 0 rfl) ?_
                  refine u_callpp hw (va_runS (As := [.int a0, .int (2 : Int32)]) (rest := []) S (c_Pk_place l a0 (2 : Int32)) ⟨u_cB S.2.2.2.2 t_Pk_place ln_Pk lm_Pk_17 hd_Pk_place rfl rfl ⟨Nat.le_of_ble_eq_true rfl, Nat.le_of_ble_eq_true rfl⟩, S.2.2.2.2 _ lt_Pk_place⟩ (u_preP hw.1) rfl rfl hl.1 rfl (lv_room (Nat.le_of_ble_eq_true rfl)) d_Pk_allAtLastPlace_15 ⟨Nat.zero_le _, Nat.zero_le _⟩) (fun r H locs hp hw => ?_)
                  refine u_top (y := (s_Pk_place a0 (2 : Int32))) hp ?_
                  refine lv_bipush (v := (7 : Int32)) S.1 S.2.1 d_Pk_allAtLastPlace_18 (by decide) ?_
                  refine lv_icmp_ne (tgt := 27) S.1 S.2.1 d_Pk_allAtLastPlace_20 (by decide) (fun c17 => ?_) (fun c17 => ?_)
                  · skip
                    refine lv_iconst (v := (0 : Int32)) S.1 S.2.1 d_Pk_allAtLastPlace_27 (by decide) ?_
                    refine lv_istore_n (lv' := [(1, .int (0 : Int32)), (2, .int (2 : Int32)), (0, .int a0)]) S.1 S.2.1 d_Pk_allAtLastPlace_28 rfl hl (by decide) rfl (fun ls hl => ?_)
                    refine lv_iinc (v := (3 : Int32)) (lv' := [(2, .int (3 : Int32)), (1, .int (0 : Int32)), (0, .int a0)]) S.1 S.2.1 d_Pk_allAtLastPlace_29 hl (k := 1) rfl (by decide) (by decide) rfl (fun ls hl => ?_)
                    refine lv_goto (tgt := 4) S.1 S.2.1 d_Pk_allAtLastPlace_32 (by decide) ?_
                    refine lv_iload_n S.1 S.2.1 d_Pk_allAtLastPlace_4 rfl (lv_at hl 0 rfl) ?_
                    refine lv_iconst (v := (3 : Int32)) S.1 S.2.1 d_Pk_allAtLastPlace_5 (by decide) ?_
                    refine lv_icmp_ge (tgt := 35) S.1 S.2.1 d_Pk_allAtLastPlace_6 (by decide) (fun c18 => ?_) (fun c18 => ?_)
                    · skip
                      refine lv_iload_n S.1 S.2.1 d_Pk_allAtLastPlace_35 rfl (lv_at hl 1 rfl) ?_
                      exact u_pzret S hr hlk hw (by first | rfl | assumption | exact nb01 (z_Ds_isBelow _ _)) (by unfold s_Pk_allAtLastPlace; simp only [if_pos c3, if_pos c11, if_neg c17]) d_Pk_allAtLastPlace_36
                    · skip
                      exact absurd (by decide) c18
                  · skip
                    refine lv_iconst (v := (1 : Int32)) S.1 S.2.1 d_Pk_allAtLastPlace_23 (by decide) ?_
                    refine lv_goto (tgt := 28) S.1 S.2.1 d_Pk_allAtLastPlace_24 (by decide) ?_
                    refine lv_istore_n (lv' := [(1, .int (1 : Int32)), (2, .int (2 : Int32)), (0, .int a0)]) S.1 S.2.1 d_Pk_allAtLastPlace_28 rfl hl (by decide) rfl (fun ls hl => ?_)
                    refine lv_iinc (v := (3 : Int32)) (lv' := [(2, .int (3 : Int32)), (1, .int (1 : Int32)), (0, .int a0)]) S.1 S.2.1 d_Pk_allAtLastPlace_29 hl (k := 1) rfl (by decide) (by decide) rfl (fun ls hl => ?_)
                    refine lv_goto (tgt := 4) S.1 S.2.1 d_Pk_allAtLastPlace_32 (by decide) ?_
                    refine lv_iload_n S.1 S.2.1 d_Pk_allAtLastPlace_4 rfl (lv_at hl 0 rfl) ?_
                    refine lv_iconst (v := (3 : Int32)) S.1 S.2.1 d_Pk_allAtLastPlace_5 (by decide) ?_
                    refine lv_icmp_ge (tgt := 35) S.1 S.2.1 d_Pk_allAtLastPlace_6 (by decide) (fun c19 => ?_) (fun c19 => ?_)
                    · skip
                      refine lv_iload_n S.1 S.2.1 d_Pk_allAtLastPlace_35 rfl (lv_at hl 1 rfl) ?_
                      exact u_pzret S hr hlk hw (by first | rfl | assumption | exact nb01 (z_Ds_isBelow _ _)) (by unfold s_Pk_allAtLastPlace; simp only [if_pos c3, if_pos c11, if_pos c17]) d_Pk_allAtLastPlace_36
                    · skip
                      exact absurd (by decide) c19
theorem z_Pk_allAtLastPlace (a0 : Int32) : s_Pk_allAtLastPlace a0 = 0 ∨ s_Pk_allAtLastPlace a0 = 1 := by
  unfold s_Pk_allAtLastPlace
  (repeat' split) <;> first | exact Or.inl rfl | exact Or.inr rfl | exact z_Ds_isBelow _ _
set_option maxHeartbeats 4000000 in
set_option maxRecDepth 100000 in
theorem c_Sp_leastFailing (l : Launch) (G : UG) (mem : um_M) (t : Nat) (ht : t < 6) (k : Nat) (hk : k ≤ 300) (hsz : mem 3 9 = nI k) : MetX l G y_Sp_leastFailing b_Sp_leastFailing 3 (some .int) ({ frames := 2, cells := 0, slots := 0, locals := 42 }) [.ref (G.2.1 3), .ref (G.2.1 (41 + t))] mem (fun r mem' => r = (if lst (fun i => decide (¬ s_Cm_failsIn (mem (41 + t)) (mem 4 i) = 0)) k < k then nI (lst (fun i => decide (¬ s_Cm_failsIn (mem (41 + t)) (mem 4 i) = 0)) k) else (-2 : Int32)) ∧ mem = mem') := by
  refine u_start [.ref (G.2.1 3), .ref (G.2.1 (41 + t))] (by decide) (Nat.le_of_ble_eq_true rfl) ?_
  intro p_ e_ s_ m_ bl_ me_ c_ ls S hr hlk hin hl hB
  have hw := uH_start hB
  have hl : lv_has ls 3 [(0, .ref (G.2.1 3)), (1, .ref (G.2.1 (41 + t)))] := hl
  refine lv_iconst (v := (0 : Int32)) S.1 S.2.1 d_Sp_leastFailing_0 (by decide) ?_
  refine lv_istore_n (lv' := [(2, .int (0 : Int32)), (0, .ref (G.2.1 3)), (1, .ref (G.2.1 (41 + t)))]) S.1 S.2.1 d_Sp_leastFailing_1 rfl hl (by decide) rfl (fun ls hl => ?_)
  refine u_loop (σ := Nat) (fun (x : Nat) (mem_ : um_M) (ls : Array Slot) => match x with | (i) => (i ≤ k) ∧ (∀ j, j < i → (fun i => decide (¬ s_Cm_failsIn (mem (41 + t)) (mem 4 i) = 0)) j = false) ∧ mem = mem_ ∧ lv_has ls 3 [(0, .ref (G.2.1 3)), (1, .ref (G.2.1 (41 + t))), (2, .int (nI i))]) (fun x => match x with | (i) => k - i) ?_ (0) hw ⟨Nat.zero_le _, lt_zero, rfl, lv_sub hl [1, 2, 0] rfl⟩
  intro i memq H locs ls hw hI ih
  obtain ⟨hik, hno, rfl, hl⟩ := hI
  dsimp only at ih
  refine lv_iload_n S.1 S.2.1 d_Sp_leastFailing_2 rfl (lv_at hl 2 rfl) ?_
  refine lv_aload_n S.1 S.2.1 d_Sp_leastFailing_3 rfl (lv_at hl 0 rfl) ?_
  refine u_get (v := .int (mem 3 9)) S hw 3 (by decide) rfl rfl in_Sp 9 (by decide) lf_Sp_39 rfl d_Sp_leastFailing_4 ?_
  refine u_top (y := (nI k)) hsz ?_
  refine lv_icmp_ge (tgt := 31) S.1 S.2.1 d_Sp_leastFailing_7 (by decide) (fun c1 => ?_) (fun c1 => ?_)
  · skip
    have hi2 : k ≤ i := nle c1 (by omega) (by omega)
    have hl0 : lst (fun i => decide (¬ s_Cm_failsIn (mem (41 + t)) (mem 4 i) = 0)) k = k := lst_all (fun j hj => hno j (by omega))
    refine lv_bipush (v := (-2 : Int32)) S.1 S.2.1 d_Sp_leastFailing_31 (by decide) ?_
    exact u_iret S hr hlk hw ⟨by rw [hl0, if_neg (Nat.lt_irrefl k)], rfl⟩ d_Sp_leastFailing_33
  · skip
    have hi2 : i < k := nlt c1 (by omega) (by omega)
    refine lv_aload_n S.1 S.2.1 d_Sp_leastFailing_10 rfl (lv_at hl 1 rfl) ?_
    refine lv_aload_n S.1 S.2.1 d_Sp_leastFailing_11 rfl (lv_at hl 0 rfl) ?_
    refine u_get (v := .ref (G.2.1 4)) S hw 3 (by decide) rfl rfl in_Sp 0 (by decide) lf_Sp_9 rfl d_Sp_leastFailing_12 ?_
    refine lv_iload_n S.1 S.2.1 d_Sp_leastFailing_15 rfl (lv_at hl 2 rfl) ?_
    refine u_iaN S hw 4 0 (by decide) rfl rfl (j := i) rfl (by omega) (by decide) d_Sp_leastFailing_16 ?_
    refine u_calli hw (va_runV (As := [.int (mem 4 i)]) (rest := []) S (c_Cm_failsIn l G mem t (by omega) (mem 4 i)) ⟨u_cB S.2.2.2.2 t_Cm_failsIn ln_Cm lm_Sp_102 hd_Cm_failsIn rfl rfl ⟨Nat.le_of_ble_eq_true rfl, Nat.le_of_ble_eq_true rfl⟩, S.2.2.2.2 _ li_Cm_failsIn, S.2.2.2.2 _ ls_Cm_failsIn⟩ (u_preV hw (41 + t) (by omega) (sh_Cm t ht) rfl) rfl rfl hl.1 rfl (lv_room (Nat.le_of_ble_eq_true rfl)) d_Sp_leastFailing_17 ⟨Nat.zero_le _, Nat.zero_le _⟩) (fun r3 mem2 H locs hp hw => ?_)
    obtain ⟨hp, rfl⟩ := hp
    refine u_top (y := (s_Cm_failsIn (mem (41 + t)) (mem 4 i))) hp ?_
    refine lv_if_eq (tgt := 25) S.1 S.2.1 d_Sp_leastFailing_20 (by decide) (fun c4 => ?_) (fun c4 => ?_)
    · skip
      have hpi : decide (¬ s_Cm_failsIn (mem (41 + t)) (mem 4 i) = 0) = false := df (fun h => h c4)
      refine lv_iinc (v := (nI (i + 1))) (lv' := [(2, .int (nI (i + 1))), (0, .ref (G.2.1 3)), (1, .ref (G.2.1 (41 + t)))]) S.1 S.2.1 d_Sp_leastFailing_25 hl (k := 2) rfl (nI_1 _) (by decide) rfl (fun ls hl => ?_)
      refine lv_goto (tgt := 2) S.1 S.2.1 d_Sp_leastFailing_28 (by decide) ?_
      exact ih (i + 1) _ H locs ls (by omega) hw ⟨hi2, lt_step hno hpi, rfl, lv_sub hl [1, 2, 0] rfl⟩
    · skip
      have hl0 := lst_at (p := fun i => decide (¬ s_Cm_failsIn (mem (41 + t)) (mem 4 i) = 0)) hi2 (dt c4) hno
      refine lv_iload_n S.1 S.2.1 d_Sp_leastFailing_23 rfl (lv_at hl 2 rfl) ?_
      exact u_iret S hr hlk hw ⟨by rw [hl0, if_pos hi2], rfl⟩ d_Sp_leastFailing_24
