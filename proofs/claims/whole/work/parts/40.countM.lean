def stC (mem : um_M) (n t : Nat) (a0 a : Int32) (i : Nat) : Int32 := (if a0 = (4 : Int32) then (if a0 < (10 : Int32) then (if a0 = (5 : Int32) then (if a0 = (3 : Int32) then (if (mem 11 i) ≤ ((a + (1 : Int32)) + (0 : Int32)) then ((a + (1 : Int32)) + (0 : Int32)) else (mem 11 i)) else (if (mem 11 i) ≤ (a + (1 : Int32)) then (a + (1 : Int32)) else (mem 11 i))) else (if a0 = (6 : Int32) then (if (s_Mo_isDone (mem 8 i)) = (0 : Int32) then (if a0 = (3 : Int32) then (if (mem 11 i) ≤ (a + (0 : Int32)) then (a + (0 : Int32)) else (mem 11 i)) else (if (mem 11 i) ≤ a then a else (mem 11 i))) else (if a0 = (3 : Int32) then (if (mem 11 i) ≤ ((a + (1 : Int32)) + (0 : Int32)) then ((a + (1 : Int32)) + (0 : Int32)) else (mem 11 i)) else (if (mem 11 i) ≤ (a + (1 : Int32)) then (a + (1 : Int32)) else (mem 11 i)))) else (if a0 = (3 : Int32) then (if (mem 11 i) ≤ (a + (0 : Int32)) then (a + (0 : Int32)) else (mem 11 i)) else (if (mem 11 i) ≤ a then a else (mem 11 i))))) else (if (s_Mo_isOpen (mem 1 t) (mem 2 t) (mem 4 t) (mem 8 i)) = (0 : Int32) then (if a0 = (5 : Int32) then (if a0 = (3 : Int32) then (if (mem 11 i) ≤ ((a + (1 : Int32)) + (0 : Int32)) then ((a + (1 : Int32)) + (0 : Int32)) else (mem 11 i)) else (if (mem 11 i) ≤ (a + (1 : Int32)) then (a + (1 : Int32)) else (mem 11 i))) else (if a0 = (6 : Int32) then (if (s_Mo_isDone (mem 8 i)) = (0 : Int32) then (if a0 = (3 : Int32) then (if (mem 11 i) ≤ (a + (0 : Int32)) then (a + (0 : Int32)) else (mem 11 i)) else (if (mem 11 i) ≤ a then a else (mem 11 i))) else (if a0 = (3 : Int32) then (if (mem 11 i) ≤ ((a + (1 : Int32)) + (0 : Int32)) then ((a + (1 : Int32)) + (0 : Int32)) else (mem 11 i)) else (if (mem 11 i) ≤ (a + (1 : Int32)) then (a + (1 : Int32)) else (mem 11 i)))) else (if a0 = (3 : Int32) then (if (mem 11 i) ≤ (a + (0 : Int32)) then (a + (0 : Int32)) else (mem 11 i)) else (if (mem 11 i) ≤ a then a else (mem 11 i))))) else (if a0 = (3 : Int32) then (if (mem 11 i) ≤ ((a + (1 : Int32)) + (0 : Int32)) then ((a + (1 : Int32)) + (0 : Int32)) else (mem 11 i)) else (if (mem 11 i) ≤ (a + (1 : Int32)) then (a + (1 : Int32)) else (mem 11 i))))) else (if a0 < (10 : Int32) then (if a0 = (5 : Int32) then (if (nI (mOC mem n (mem 8 i))) = (0 : Int32) then (if a0 = (3 : Int32) then ((a + (1 : Int32)) + (nI (mOC mem n (mem 8 i)))) else (a + (1 : Int32))) else (if a0 = (3 : Int32) then (a + (nI (mOC mem n (mem 8 i)))) else a)) else (if a0 = (6 : Int32) then (if (nI (mOC mem n (mem 8 i))) = (0 : Int32) then (if (s_Mo_isDone (mem 8 i)) = (0 : Int32) then (if a0 = (3 : Int32) then (a + (nI (mOC mem n (mem 8 i)))) else a) else (if a0 = (3 : Int32) then ((a + (1 : Int32)) + (nI (mOC mem n (mem 8 i)))) else (a + (1 : Int32)))) else (if a0 = (3 : Int32) then (a + (nI (mOC mem n (mem 8 i)))) else a)) else (if a0 = (3 : Int32) then (a + (nI (mOC mem n (mem 8 i)))) else a))) else (if (s_Mo_isOpen (mem 1 t) (mem 2 t) (mem 4 t) (mem 8 i)) = (0 : Int32) then (if a0 = (5 : Int32) then (if a0 = (3 : Int32) then ((a + (1 : Int32)) + (0 : Int32)) else (a + (1 : Int32))) else (if a0 = (6 : Int32) then (if (s_Mo_isDone (mem 8 i)) = (0 : Int32) then (if a0 = (3 : Int32) then (a + (0 : Int32)) else a) else (if a0 = (3 : Int32) then ((a + (1 : Int32)) + (0 : Int32)) else (a + (1 : Int32)))) else (if a0 = (3 : Int32) then (a + (0 : Int32)) else a))) else (if a0 = (3 : Int32) then ((a + (1 : Int32)) + (0 : Int32)) else (a + (1 : Int32))))))
def fC (mem : um_M) (n t : Nat) (a0 : Int32) : Nat → Int32
  | 0 => 0
  | i + 1 => stC mem n t a0 (fC mem n t a0 i) i
theorem cnt_t10 {a0 : Int32} {n : Nat} (h : ¬ (s_Mo_in a0 2 6 = 0 ∧ s_Mo_in a0 10 33 = 0)) (h10 : ¬ a0 < 10) (hlt : a0 - 10 < nI n) : ∃ t, t < 24 ∧ a0 - 10 = nI t := by
  have h1 : s_Mo_in a0 2 6 = 0 := by
    unfold s_Mo_in
    by_cases c : a0 < 2
    · rw [if_pos c]
    · rw [if_neg c, if_pos (by rw [Int32.lt_iff_toInt_lt] at *; have e1 : (6 : Int32).toInt = 6 := by decide
                               have e2 : (10 : Int32).toInt = 10 := by decide
                               omega)]
  have h2 : ¬ s_Mo_in a0 10 33 = 0 := fun z => h ⟨h1, z⟩
  unfold s_Mo_in at h2
  rw [if_neg h10] at h2
  have h3 : ¬ (33 : Int32) < a0 := fun z => h2 (by rw [if_pos z])
  have e0 : ¬ a0 < 0 := by
    rw [Int32.lt_iff_toInt_lt] at *
    have e2 : (10 : Int32).toInt = 10 := by decide
    have e3 : (0 : Int32).toInt = 0 := by decide
    omega
  obtain ⟨j, hj, rfl⟩ := nI_of e0
  have g1 : ¬ j < 10 := fun z => h10 (nI_lt (b := 10) z (by decide))
  have g2 : ¬ 33 < j := fun z => h3 (nI_lt (a := 33) z hj)
  exact ⟨j - 10, by omega, pk_sub (b := 10) (by omega)⟩
set_option maxHeartbeats 4000000 in
set_option maxRecDepth 100000 in
theorem c_Mo_count (l : Launch) (G : UG) (mem : um_M) (a0 : Int32) (t : Nat) (htt : ∀ j, j < 24 → a0 - 10 = nI j → t = j) (n : Nat) (hn : n ≤ 24) (hnn : mem 0 7 = nI n) (c : Nat) (hc : c ≤ 6) (hcc : mem 0 8 = nI c) (k : Nat) (hk : k ≤ 300) (hkk : mem 0 17 = nI k) : MetM l G y_Mo_count b_Mo_count 5 (some .int) ({ frames := 3, cells := 0, slots := 0, locals := 69 }) [.ref (G.2.1 0), .int a0] mem (fun r mem' => (a0 = 0 → r = nI n) ∧ (a0 = 1 → r = nI c) ∧ (¬ a0 = 0 → ¬ a0 = 1 → (s_Mo_in a0 2 6 = 0 ∧ s_Mo_in a0 10 33 = 0 → r = -1) ∧ (¬ (s_Mo_in a0 2 6 = 0 ∧ s_Mo_in a0 10 33 = 0) → (mem 0 18 = 0 ∨ ¬ a0 - 10 < nI n → r = -2) ∧ (¬ mem 0 18 = 0 → a0 - 10 < nI n → (a0 = 2 → r = nI k) ∧ (¬ a0 = 2 → r = fC mem n t a0 k)))) ∧ mem = mem') := by
  refine u_start [.ref (G.2.1 0), .int a0] (by decide) (Nat.le_of_ble_eq_true rfl) ?_
  intro p_ e_ s_ m_ bl_ me_ c_ ls S hr hlk hin hl hB
  have hw := uH_start hB
  have hl : lv_has ls 5 [(0, .ref (G.2.1 0)), (1, .int a0)] := hl
  refine lv_iload_n S.1 S.2.1 d_Mo_count_0 rfl (lv_at hl 1 rfl) ?_
  refine lv_if_eq (tgt := 9) S.1 S.2.1 d_Mo_count_1 (by decide) (fun c1 => ?_) (fun c1 => ?_)
  · skip
    have x0 := c1
    refine lv_iload_n S.1 S.2.1 d_Mo_count_9 rfl (lv_at hl 1 rfl) ?_
    refine lv_if_ne (tgt := 20) S.1 S.2.1 d_Mo_count_10 (by decide) (fun c2 => ?_) (fun c2 => ?_)
    · skip
      exact absurd c1 c2
    · skip
      refine lv_aload_n S.1 S.2.1 d_Mo_count_13 rfl (lv_at hl 0 rfl) ?_
      refine u_get (v := .int (mem 0 7)) S hw 0 (by decide) rfl rfl in_Mo 7 (by decide) lf_Mo_77 rfl d_Mo_count_14 ?_
      refine u_top (y := (nI n)) hnn ?_
      refine lv_goto (tgt := 24) S.1 S.2.1 d_Mo_count_17 (by decide) ?_
      exact u_iret S hr hlk hw ⟨fun _ => rfl, fun h => absurd (x0.symm.trans h) (by decide), fun h => absurd x0 h, rfl⟩ d_Mo_count_24
  · skip
    have x0 := c1
    refine lv_iload_n S.1 S.2.1 d_Mo_count_4 rfl (lv_at hl 1 rfl) ?_
    refine lv_iconst (v := (1 : Int32)) S.1 S.2.1 d_Mo_count_5 (by decide) ?_
    refine lv_icmp_ne (tgt := 25) S.1 S.2.1 d_Mo_count_6 (by decide) (fun c3 => ?_) (fun c3 => ?_)
    · skip
      have x1 := c3
      refine lv_iload_n S.1 S.2.1 d_Mo_count_25 rfl (lv_at hl 1 rfl) ?_
      refine lv_iconst (v := (2 : Int32)) S.1 S.2.1 d_Mo_count_26 (by decide) ?_
      refine lv_bipush (v := (6 : Int32)) S.1 S.2.1 d_Mo_count_27 (by decide) ?_
      refine u_callp hw (va_runS (As := [.int a0, .int (2 : Int32), .int (6 : Int32)]) (rest := []) S (c_Mo_in l a0 (2 : Int32) (6 : Int32)) ⟨u_cB S.2.2.2.2 t_Mo_in ln_Mo lm_Mo_84 hd_Mo_in rfl rfl ⟨Nat.le_of_ble_eq_true rfl, Nat.le_of_ble_eq_true rfl⟩, S.2.2.2.2 _ lt_Mo_in⟩ (u_preP hw.1.2) rfl rfl hl.1 rfl (lv_room (Nat.le_of_ble_eq_true rfl)) d_Mo_count_29 ⟨Nat.zero_le _, Nat.zero_le _⟩) (fun r H locs hp hw => ?_)
      refine u_top (y := (s_Mo_in a0 (2 : Int32) (6 : Int32))) hp ?_
      refine lv_if_ne (tgt := 48) S.1 S.2.1 d_Mo_count_32 (by decide) (fun c4 => ?_) (fun c4 => ?_)
      · skip
        have hrng : ¬ (s_Mo_in a0 2 6 = 0 ∧ s_Mo_in a0 10 33 = 0) := fun h => c4 h.1
        refine lv_aload_n S.1 S.2.1 d_Mo_count_48 rfl (lv_at hl 0 rfl) ?_
        refine u_get (v := .int (mem 0 18)) S hw 0 (by decide) rfl rfl in_Mo 18 (by decide) lf_Mo_91 rfl d_Mo_count_49 ?_
        refine lv_if_eq (tgt := 66) S.1 S.2.1 d_Mo_count_52 (by decide) (fun c5 => ?_) (fun c5 => ?_)
        · skip
          have h18 := c5
          refine lv_bipush (v := (-2 : Int32)) S.1 S.2.1 d_Mo_count_66 (by decide) ?_
          exact u_iret S hr hlk hw ⟨fun h => absurd h x0, fun h => absurd h x1, fun _ _ => ⟨fun h => absurd h hrng, fun _ => ⟨fun _ => rfl, fun h => absurd h18 h⟩⟩, rfl⟩ d_Mo_count_68
        · skip
          have h18 := c5
          refine lv_iload_n S.1 S.2.1 d_Mo_count_55 rfl (lv_at hl 1 rfl) ?_
          refine lv_bipush (v := (10 : Int32)) S.1 S.2.1 d_Mo_count_56 (by decide) ?_
          refine lv_isub S.1 S.2.1 d_Mo_count_58 ?_
          refine lv_aload_n S.1 S.2.1 d_Mo_count_59 rfl (lv_at hl 0 rfl) ?_
          refine u_get (v := .int (mem 0 7)) S hw 0 (by decide) rfl rfl in_Mo 7 (by decide) lf_Mo_77 rfl d_Mo_count_60 ?_
          refine u_top (y := (nI n)) hnn ?_
          refine lv_icmp_lt (tgt := 69) S.1 S.2.1 d_Mo_count_63 (by decide) (fun c6 => ?_) (fun c6 => ?_)
          · skip
            have hlt := c6
            refine lv_iload_n S.1 S.2.1 d_Mo_count_69 rfl (lv_at hl 1 rfl) ?_
            refine lv_iconst (v := (2 : Int32)) S.1 S.2.1 d_Mo_count_70 (by decide) ?_
            refine lv_icmp_ne (tgt := 79) S.1 S.2.1 d_Mo_count_71 (by decide) (fun c7 => ?_) (fun c7 => ?_)
            · skip
              have x2 := c7
              refine lv_iconst (v := (0 : Int32)) S.1 S.2.1 d_Mo_count_79 (by decide) ?_
              refine lv_istore_n (lv' := [(2, .int (0 : Int32)), (0, .ref (G.2.1 0)), (1, .int a0)]) S.1 S.2.1 d_Mo_count_80 rfl hl (by decide) rfl (fun ls hl => ?_)
              refine lv_iconst (v := (0 : Int32)) S.1 S.2.1 d_Mo_count_81 (by decide) ?_
              refine lv_istore_n (lv' := [(3, .int (0 : Int32)), (2, .int (0 : Int32)), (0, .ref (G.2.1 0)), (1, .int a0)]) S.1 S.2.1 d_Mo_count_82 rfl hl (by decide) rfl (fun ls hl => ?_)
              refine u_loop (σ := Nat × Int32) (fun (x : Nat × Int32) (mem_ : um_M) (ls : Array Slot) => match x with | (i, a) => (i ≤ k) ∧ (a = fC mem n t a0 i) ∧ mem = mem_ ∧ lv_has ls 5 [(0, .ref (G.2.1 0)), (1, .int a0), (2, .int a), (3, .int (nI i))]) (fun x => match x with | (i, a) => k - i) ?_ (0, 0) hw ⟨Nat.zero_le _, rfl, rfl, lv_sub hl [2, 3, 1, 0] rfl⟩
              intro x memq H locs ls hw hI ih83
              obtain ⟨i, a⟩ := x
              obtain ⟨hik, ha, rfl, hl⟩ := hI
              dsimp only at ih83
              refine lv_iload_n S.1 S.2.1 d_Mo_count_83 rfl (lv_at hl 3 rfl) ?_
              refine lv_aload_n S.1 S.2.1 d_Mo_count_84 rfl (lv_at hl 0 rfl) ?_
              refine u_get (v := .int (mem 0 17)) S hw 0 (by decide) rfl rfl in_Mo 17 (by decide) lf_Mo_106 rfl d_Mo_count_85 ?_
              refine u_top (y := (nI k)) hkk ?_
              refine lv_icmp_ge (tgt := 215) S.1 S.2.1 d_Mo_count_88 (by decide) (fun c8 => ?_) (fun c8 => ?_)
              · skip
                have hi2 : i = k := by have y := nle c8 (by omega) (by omega); omega
                refine lv_iload_n S.1 S.2.1 d_Mo_count_215 rfl (lv_at hl 2 rfl) ?_
                exact u_iret S hr hlk hw ⟨fun h => absurd h x0, fun h => absurd h x1, fun _ _ => ⟨fun h => absurd h hrng, fun _ => ⟨fun h => h.elim (fun y => absurd y h18) (fun y => absurd hlt y), fun _ _ => ⟨fun h => absurd h x2, fun _ => by rw [ha, hi2]⟩⟩⟩, rfl⟩ d_Mo_count_216
              · skip
                have hi2 : i < k := nlt c8 (by omega) (by omega)
                refine lv_iload_n S.1 S.2.1 d_Mo_count_91 rfl (lv_at hl 1 rfl) ?_
                refine lv_iconst (v := (4 : Int32)) S.1 S.2.1 d_Mo_count_92 (by decide) ?_
                refine lv_icmp_eq (tgt := 102) S.1 S.2.1 d_Mo_count_93 (by decide) (fun c9 => ?_) (fun c9 => ?_)
                · skip
                  refine lv_iconst (v := (0 : Int32)) S.1 S.2.1 d_Mo_count_102 (by decide) ?_
                  refine lv_goto (tgt := 116) S.1 S.2.1 d_Mo_count_103 (by decide) ?_
                  refine lv_istore (lv' := [(4, .int (0 : Int32)), (0, .ref (G.2.1 0)), (1, .int a0), (2, .int a), (3, .int (nI i))]) S.1 S.2.1 d_Mo_count_116 hl (by decide) rfl (fun ls hl => ?_)
                  refine lv_iload_n S.1 S.2.1 d_Mo_count_118 rfl (lv_at hl 2 rfl) ?_
                  refine lv_bipush (v := (10 : Int32)) S.1 S.2.1 d_Mo_count_119 (by decide) ?_
                  refine lv_icmp_lt (tgt := 141) S.1 S.2.1 d_Mo_count_121 (by decide) (fun c10 => ?_) (fun c10 => ?_)
                  · skip
                    refine lv_iload_n S.1 S.2.1 d_Mo_count_141 rfl (lv_at hl 2 rfl) ?_
                    refine lv_iconst (v := (5 : Int32)) S.1 S.2.1 d_Mo_count_142 (by decide) ?_
                    refine lv_icmp_eq (tgt := 152) S.1 S.2.1 d_Mo_count_143 (by decide) (fun c11 => ?_) (fun c11 => ?_)
                    · skip
                      refine lv_iload S.1 S.2.1 d_Mo_count_152 (lv_at hl 0 rfl) ?_
                      refine lv_if_ne (tgt := 177) S.1 S.2.1 d_Mo_count_154 (by decide) (fun c12 => ?_) (fun c12 => ?_)
                      · skip
                        exact absurd (by decide) c12
                      · skip
                        refine lv_iload_n S.1 S.2.1 d_Mo_count_157 rfl (lv_at hl 2 rfl) ?_
                        refine lv_iconst (v := (5 : Int32)) S.1 S.2.1 d_Mo_count_158 (by decide) ?_
                        refine lv_icmp_eq (tgt := 174) S.1 S.2.1 d_Mo_count_159 (by decide) (fun c13 => ?_) (fun c13 => ?_)
                        · skip
                          refine lv_iinc (v := (a + (1 : Int32))) (lv' := [(2, .int (a + (1 : Int32))), (4, .int (0 : Int32)), (0, .ref (G.2.1 0)), (1, .int a0), (3, .int (nI i))]) S.1 S.2.1 d_Mo_count_174 hl (k := 3) rfl rfl (by decide) rfl (fun ls hl => ?_)
                          refine lv_iload_n S.1 S.2.1 d_Mo_count_177 rfl (lv_at hl 3 rfl) ?_
                          refine lv_iconst (v := (3 : Int32)) S.1 S.2.1 d_Mo_count_178 (by decide) ?_
                          refine lv_icmp_ne (tgt := 187) S.1 S.2.1 d_Mo_count_179 (by decide) (fun c14 => ?_) (fun c14 => ?_)
                          · skip
                            refine lv_iload_n S.1 S.2.1 d_Mo_count_187 rfl (lv_at hl 3 rfl) ?_
                            refine lv_iconst (v := (4 : Int32)) S.1 S.2.1 d_Mo_count_188 (by decide) ?_
                            refine lv_icmp_ne (tgt := 209) S.1 S.2.1 d_Mo_count_189 (by decide) (fun c15 => ?_) (fun c15 => ?_)
                            · skip
                              exact absurd c9 c15
                            · skip
                              refine lv_aload_n S.1 S.2.1 d_Mo_count_192 rfl (lv_at hl 2 rfl) ?_
                              refine u_get (v := .ref (G.2.1 11)) S hw 0 (by decide) rfl rfl in_Mo 15 (by decide) lf_Mo_40 rfl d_Mo_count_193 ?_
                              refine lv_iload_n S.1 S.2.1 d_Mo_count_196 rfl (lv_at hl 4 rfl) ?_
                              refine u_iaN S hw 11 0 (by decide) rfl rfl (j := i) rfl (by omega) (by decide) d_Mo_count_197 ?_
                              refine lv_iload_n S.1 S.2.1 d_Mo_count_198 rfl (lv_at hl 0 rfl) ?_
                              refine lv_icmp_le (tgt := 209) S.1 S.2.1 d_Mo_count_199 (by decide) (fun c16 => ?_) (fun c16 => ?_)
                              · skip
                                refine lv_iinc (v := (nI (i + 1))) (lv' := [(3, .int (nI (i + 1))), (2, .int (a + (1 : Int32))), (4, .int (0 : Int32)), (0, .ref (G.2.1 0)), (1, .int a0)]) S.1 S.2.1 d_Mo_count_209 hl (k := 4) rfl (nI_1 _) (by decide) rfl (fun ls hl => ?_)
                                refine lv_goto (tgt := 83) S.1 S.2.1 d_Mo_count_212 (by decide) ?_
                                exact ih83 (i + 1, (a + (1 : Int32))) _ H locs ls (by omega) hw ⟨hi2, (by show (a + (1 : Int32)) = stC mem n t a0 (fC mem n t a0 i) i; rw [← ha]; unfold stC; simp only [if_pos c9, if_pos c10, if_pos c11, if_neg c14, if_pos c16]), rfl, lv_sub hl [3, 4, 1, 0] rfl⟩
                              · skip
                                refine lv_aload_n S.1 S.2.1 d_Mo_count_202 rfl (lv_at hl 2 rfl) ?_
                                refine u_get (v := .ref (G.2.1 11)) S hw 0 (by decide) rfl rfl in_Mo 15 (by decide) lf_Mo_40 rfl d_Mo_count_203 ?_
                                refine lv_iload_n S.1 S.2.1 d_Mo_count_206 rfl (lv_at hl 4 rfl) ?_
                                refine u_iaN S hw 11 0 (by decide) rfl rfl (j := i) rfl (by omega) (by decide) d_Mo_count_207 ?_
                                refine lv_istore_n (lv' := [(2, .int (mem 11 i)), (4, .int (0 : Int32)), (0, .ref (G.2.1 0)), (1, .int a0), (3, .int (nI i))]) S.1 S.2.1 d_Mo_count_208 rfl hl (by decide) rfl (fun ls hl => ?_)
                                refine lv_iinc (v := (nI (i + 1))) (lv' := [(3, .int (nI (i + 1))), (2, .int (mem 11 i)), (4, .int (0 : Int32)), (0, .ref (G.2.1 0)), (1, .int a0)]) S.1 S.2.1 d_Mo_count_209 hl (k := 4) rfl (nI_1 _) (by decide) rfl (fun ls hl => ?_)
                                refine lv_goto (tgt := 83) S.1 S.2.1 d_Mo_count_212 (by decide) ?_
                                exact ih83 (i + 1, (mem 11 i)) _ H locs ls (by omega) hw ⟨hi2, (by show (mem 11 i) = stC mem n t a0 (fC mem n t a0 i) i; rw [← ha]; unfold stC; simp only [if_pos c9, if_pos c10, if_pos c11, if_neg c14, if_neg c16]), rfl, lv_sub hl [3, 4, 1, 0] rfl⟩
                          · skip
                            refine lv_iload_n S.1 S.2.1 d_Mo_count_182 rfl (lv_at hl 0 rfl) ?_
                            refine lv_iload S.1 S.2.1 d_Mo_count_183 (lv_at hl 1 rfl) ?_
                            refine lv_iadd S.1 S.2.1 d_Mo_count_185 ?_
                            refine lv_istore_n (lv' := [(2, .int ((a + (1 : Int32)) + (0 : Int32))), (4, .int (0 : Int32)), (0, .ref (G.2.1 0)), (1, .int a0), (3, .int (nI i))]) S.1 S.2.1 d_Mo_count_186 rfl hl (by decide) rfl (fun ls hl => ?_)
                            refine lv_iload_n S.1 S.2.1 d_Mo_count_187 rfl (lv_at hl 3 rfl) ?_
                            refine lv_iconst (v := (4 : Int32)) S.1 S.2.1 d_Mo_count_188 (by decide) ?_
                            refine lv_icmp_ne (tgt := 209) S.1 S.2.1 d_Mo_count_189 (by decide) (fun c17 => ?_) (fun c17 => ?_)
                            · skip
                              exact absurd c9 c17
                            · skip
                              refine lv_aload_n S.1 S.2.1 d_Mo_count_192 rfl (lv_at hl 2 rfl) ?_
                              refine u_get (v := .ref (G.2.1 11)) S hw 0 (by decide) rfl rfl in_Mo 15 (by decide) lf_Mo_40 rfl d_Mo_count_193 ?_
                              refine lv_iload_n S.1 S.2.1 d_Mo_count_196 rfl (lv_at hl 4 rfl) ?_
                              refine u_iaN S hw 11 0 (by decide) rfl rfl (j := i) rfl (by omega) (by decide) d_Mo_count_197 ?_
                              refine lv_iload_n S.1 S.2.1 d_Mo_count_198 rfl (lv_at hl 0 rfl) ?_
                              refine lv_icmp_le (tgt := 209) S.1 S.2.1 d_Mo_count_199 (by decide) (fun c18 => ?_) (fun c18 => ?_)
                              · skip
                                refine lv_iinc (v := (nI (i + 1))) (lv' := [(3, .int (nI (i + 1))), (2, .int ((a + (1 : Int32)) + (0 : Int32))), (4, .int (0 : Int32)), (0, .ref (G.2.1 0)), (1, .int a0)]) S.1 S.2.1 d_Mo_count_209 hl (k := 4) rfl (nI_1 _) (by decide) rfl (fun ls hl => ?_)
                                refine lv_goto (tgt := 83) S.1 S.2.1 d_Mo_count_212 (by decide) ?_
                                exact ih83 (i + 1, ((a + (1 : Int32)) + (0 : Int32))) _ H locs ls (by omega) hw ⟨hi2, (by show ((a + (1 : Int32)) + (0 : Int32)) = stC mem n t a0 (fC mem n t a0 i) i; rw [← ha]; unfold stC; simp only [if_pos c9, if_pos c10, if_pos c11, if_pos c14, if_pos c18]), rfl, lv_sub hl [3, 4, 1, 0] rfl⟩
                              · skip
                                refine lv_aload_n S.1 S.2.1 d_Mo_count_202 rfl (lv_at hl 2 rfl) ?_
                                refine u_get (v := .ref (G.2.1 11)) S hw 0 (by decide) rfl rfl in_Mo 15 (by decide) lf_Mo_40 rfl d_Mo_count_203 ?_
                                refine lv_iload_n S.1 S.2.1 d_Mo_count_206 rfl (lv_at hl 4 rfl) ?_
                                refine u_iaN S hw 11 0 (by decide) rfl rfl (j := i) rfl (by omega) (by decide) d_Mo_count_207 ?_
                                refine lv_istore_n (lv' := [(2, .int (mem 11 i)), (4, .int (0 : Int32)), (0, .ref (G.2.1 0)), (1, .int a0), (3, .int (nI i))]) S.1 S.2.1 d_Mo_count_208 rfl hl (by decide) rfl (fun ls hl => ?_)
                                refine lv_iinc (v := (nI (i + 1))) (lv' := [(3, .int (nI (i + 1))), (2, .int (mem 11 i)), (4, .int (0 : Int32)), (0, .ref (G.2.1 0)), (1, .int a0)]) S.1 S.2.1 d_Mo_count_209 hl (k := 4) rfl (nI_1 _) (by decide) rfl (fun ls hl => ?_)
                                refine lv_goto (tgt := 83) S.1 S.2.1 d_Mo_count_212 (by decide) ?_
                                exact ih83 (i + 1, (mem 11 i)) _ H locs ls (by omega) hw ⟨hi2, (by show (mem 11 i) = stC mem n t a0 (fC mem n t a0 i) i; rw [← ha]; unfold stC; simp only [if_pos c9, if_pos c10, if_pos c11, if_pos c14, if_neg c18]), rfl, lv_sub hl [3, 4, 1, 0] rfl⟩
                        · skip
                          exact absurd c11 c13
                    · skip
                      refine lv_iload_n S.1 S.2.1 d_Mo_count_146 rfl (lv_at hl 2 rfl) ?_
                      refine lv_bipush (v := (6 : Int32)) S.1 S.2.1 d_Mo_count_147 (by decide) ?_
                      refine lv_icmp_ne (tgt := 177) S.1 S.2.1 d_Mo_count_149 (by decide) (fun c19 => ?_) (fun c19 => ?_)
                      · skip
                        refine lv_iload_n S.1 S.2.1 d_Mo_count_177 rfl (lv_at hl 2 rfl) ?_
                        refine lv_iconst (v := (3 : Int32)) S.1 S.2.1 d_Mo_count_178 (by decide) ?_
                        refine lv_icmp_ne (tgt := 187) S.1 S.2.1 d_Mo_count_179 (by decide) (fun c20 => ?_) (fun c20 => ?_)
                        · skip
                          refine lv_iload_n S.1 S.2.1 d_Mo_count_187 rfl (lv_at hl 2 rfl) ?_
                          refine lv_iconst (v := (4 : Int32)) S.1 S.2.1 d_Mo_count_188 (by decide) ?_
                          refine lv_icmp_ne (tgt := 209) S.1 S.2.1 d_Mo_count_189 (by decide) (fun c21 => ?_) (fun c21 => ?_)
                          · skip
                            exact absurd c9 c21
                          · skip
                            refine lv_aload_n S.1 S.2.1 d_Mo_count_192 rfl (lv_at hl 1 rfl) ?_
                            refine u_get (v := .ref (G.2.1 11)) S hw 0 (by decide) rfl rfl in_Mo 15 (by decide) lf_Mo_40 rfl d_Mo_count_193 ?_
                            refine lv_iload_n S.1 S.2.1 d_Mo_count_196 rfl (lv_at hl 4 rfl) ?_
                            refine u_iaN S hw 11 0 (by decide) rfl rfl (j := i) rfl (by omega) (by decide) d_Mo_count_197 ?_
                            refine lv_iload_n S.1 S.2.1 d_Mo_count_198 rfl (lv_at hl 3 rfl) ?_
                            refine lv_icmp_le (tgt := 209) S.1 S.2.1 d_Mo_count_199 (by decide) (fun c22 => ?_) (fun c22 => ?_)
                            · skip
                              refine lv_iinc (v := (nI (i + 1))) (lv' := [(3, .int (nI (i + 1))), (4, .int (0 : Int32)), (0, .ref (G.2.1 0)), (1, .int a0), (2, .int a)]) S.1 S.2.1 d_Mo_count_209 hl (k := 4) rfl (nI_1 _) (by decide) rfl (fun ls hl => ?_)
                              refine lv_goto (tgt := 83) S.1 S.2.1 d_Mo_count_212 (by decide) ?_
                              exact ih83 (i + 1, a) _ H locs ls (by omega) hw ⟨hi2, (by show a = stC mem n t a0 (fC mem n t a0 i) i; rw [← ha]; unfold stC; simp only [if_pos c9, if_pos c10, if_neg c11, if_neg c19, if_neg c20, if_pos c22]), rfl, lv_sub hl [2, 3, 4, 0] rfl⟩
                            · skip
                              refine lv_aload_n S.1 S.2.1 d_Mo_count_202 rfl (lv_at hl 1 rfl) ?_
                              refine u_get (v := .ref (G.2.1 11)) S hw 0 (by decide) rfl rfl in_Mo 15 (by decide) lf_Mo_40 rfl d_Mo_count_203 ?_
                              refine lv_iload_n S.1 S.2.1 d_Mo_count_206 rfl (lv_at hl 4 rfl) ?_
                              refine u_iaN S hw 11 0 (by decide) rfl rfl (j := i) rfl (by omega) (by decide) d_Mo_count_207 ?_
                              refine lv_istore_n (lv' := [(2, .int (mem 11 i)), (4, .int (0 : Int32)), (0, .ref (G.2.1 0)), (1, .int a0), (3, .int (nI i))]) S.1 S.2.1 d_Mo_count_208 rfl hl (by decide) rfl (fun ls hl => ?_)
                              refine lv_iinc (v := (nI (i + 1))) (lv' := [(3, .int (nI (i + 1))), (2, .int (mem 11 i)), (4, .int (0 : Int32)), (0, .ref (G.2.1 0)), (1, .int a0)]) S.1 S.2.1 d_Mo_count_209 hl (k := 4) rfl (nI_1 _) (by decide) rfl (fun ls hl => ?_)
                              refine lv_goto (tgt := 83) S.1 S.2.1 d_Mo_count_212 (by decide) ?_
                              exact ih83 (i + 1, (mem 11 i)) _ H locs ls (by omega) hw ⟨hi2, (by show (mem 11 i) = stC mem n t a0 (fC mem n t a0 i) i; rw [← ha]; unfold stC; simp only [if_pos c9, if_pos c10, if_neg c11, if_neg c19, if_neg c20, if_neg c22]), rfl, lv_sub hl [3, 4, 1, 0] rfl⟩
                        · skip
                          refine lv_iload_n S.1 S.2.1 d_Mo_count_182 rfl (lv_at hl 3 rfl) ?_
                          refine lv_iload S.1 S.2.1 d_Mo_count_183 (lv_at hl 0 rfl) ?_
                          refine lv_iadd S.1 S.2.1 d_Mo_count_185 ?_
                          refine lv_istore_n (lv' := [(2, .int (a + (0 : Int32))), (4, .int (0 : Int32)), (0, .ref (G.2.1 0)), (1, .int a0), (3, .int (nI i))]) S.1 S.2.1 d_Mo_count_186 rfl hl (by decide) rfl (fun ls hl => ?_)
                          refine lv_iload_n S.1 S.2.1 d_Mo_count_187 rfl (lv_at hl 3 rfl) ?_
                          refine lv_iconst (v := (4 : Int32)) S.1 S.2.1 d_Mo_count_188 (by decide) ?_
                          refine lv_icmp_ne (tgt := 209) S.1 S.2.1 d_Mo_count_189 (by decide) (fun c23 => ?_) (fun c23 => ?_)
                          · skip
                            exact absurd c9 c23
                          · skip
                            refine lv_aload_n S.1 S.2.1 d_Mo_count_192 rfl (lv_at hl 2 rfl) ?_
                            refine u_get (v := .ref (G.2.1 11)) S hw 0 (by decide) rfl rfl in_Mo 15 (by decide) lf_Mo_40 rfl d_Mo_count_193 ?_
                            refine lv_iload_n S.1 S.2.1 d_Mo_count_196 rfl (lv_at hl 4 rfl) ?_
                            refine u_iaN S hw 11 0 (by decide) rfl rfl (j := i) rfl (by omega) (by decide) d_Mo_count_197 ?_
                            refine lv_iload_n S.1 S.2.1 d_Mo_count_198 rfl (lv_at hl 0 rfl) ?_
                            refine lv_icmp_le (tgt := 209) S.1 S.2.1 d_Mo_count_199 (by decide) (fun c24 => ?_) (fun c24 => ?_)
                            · skip
                              refine lv_iinc (v := (nI (i + 1))) (lv' := [(3, .int (nI (i + 1))), (2, .int (a + (0 : Int32))), (4, .int (0 : Int32)), (0, .ref (G.2.1 0)), (1, .int a0)]) S.1 S.2.1 d_Mo_count_209 hl (k := 4) rfl (nI_1 _) (by decide) rfl (fun ls hl => ?_)
                              refine lv_goto (tgt := 83) S.1 S.2.1 d_Mo_count_212 (by decide) ?_
                              exact ih83 (i + 1, (a + (0 : Int32))) _ H locs ls (by omega) hw ⟨hi2, (by show (a + (0 : Int32)) = stC mem n t a0 (fC mem n t a0 i) i; rw [← ha]; unfold stC; simp only [if_pos c9, if_pos c10, if_neg c11, if_neg c19, if_pos c20, if_pos c24]), rfl, lv_sub hl [3, 4, 1, 0] rfl⟩
                            · skip
                              refine lv_aload_n S.1 S.2.1 d_Mo_count_202 rfl (lv_at hl 2 rfl) ?_
                              refine u_get (v := .ref (G.2.1 11)) S hw 0 (by decide) rfl rfl in_Mo 15 (by decide) lf_Mo_40 rfl d_Mo_count_203 ?_
                              refine lv_iload_n S.1 S.2.1 d_Mo_count_206 rfl (lv_at hl 4 rfl) ?_
                              refine u_iaN S hw 11 0 (by decide) rfl rfl (j := i) rfl (by omega) (by decide) d_Mo_count_207 ?_
                              refine lv_istore_n (lv' := [(2, .int (mem 11 i)), (4, .int (0 : Int32)), (0, .ref (G.2.1 0)), (1, .int a0), (3, .int (nI i))]) S.1 S.2.1 d_Mo_count_208 rfl hl (by decide) rfl (fun ls hl => ?_)
                              refine lv_iinc (v := (nI (i + 1))) (lv' := [(3, .int (nI (i + 1))), (2, .int (mem 11 i)), (4, .int (0 : Int32)), (0, .ref (G.2.1 0)), (1, .int a0)]) S.1 S.2.1 d_Mo_count_209 hl (k := 4) rfl (nI_1 _) (by decide) rfl (fun ls hl => ?_)
                              refine lv_goto (tgt := 83) S.1 S.2.1 d_Mo_count_212 (by decide) ?_
                              exact ih83 (i + 1, (mem 11 i)) _ H locs ls (by omega) hw ⟨hi2, (by show (mem 11 i) = stC mem n t a0 (fC mem n t a0 i) i; rw [← ha]; unfold stC; simp only [if_pos c9, if_pos c10, if_neg c11, if_neg c19, if_pos c20, if_neg c24]), rfl, lv_sub hl [3, 4, 1, 0] rfl⟩
                      · skip
                        refine lv_iload S.1 S.2.1 d_Mo_count_152 (lv_at hl 0 rfl) ?_
                        refine lv_if_ne (tgt := 177) S.1 S.2.1 d_Mo_count_154 (by decide) (fun c25 => ?_) (fun c25 => ?_)
                        · skip
                          exact absurd (by decide) c25
                        · skip
                          refine lv_iload_n S.1 S.2.1 d_Mo_count_157 rfl (lv_at hl 2 rfl) ?_
                          refine lv_iconst (v := (5 : Int32)) S.1 S.2.1 d_Mo_count_158 (by decide) ?_
                          refine lv_icmp_eq (tgt := 174) S.1 S.2.1 d_Mo_count_159 (by decide) (fun c26 => ?_) (fun c26 => ?_)
                          · skip
                            exact absurd c26 c11
                          · skip
                            refine lv_aload_n S.1 S.2.1 d_Mo_count_162 rfl (lv_at hl 1 rfl) ?_
                            refine u_get (v := .ref (G.2.1 8)) S hw 0 (by decide) rfl rfl in_Mo 12 (by decide) lf_Mo_31 rfl d_Mo_count_163 ?_
                            refine lv_iload_n S.1 S.2.1 d_Mo_count_166 rfl (lv_at hl 4 rfl) ?_
                            refine u_iaN S hw 8 0 (by decide) rfl rfl (j := i) rfl (by omega) (by decide) d_Mo_count_167 ?_
                            refine u_callp hw (va_runS (As := [.int (mem 8 i)]) (rest := []) S (c_Mo_isDone l (mem 8 i)) ⟨u_cB S.2.2.2.2 t_Mo_isDone ln_Mo lm_Mo_121 hd_Mo_isDone rfl rfl ⟨Nat.le_of_ble_eq_true rfl, Nat.le_of_ble_eq_true rfl⟩, S.2.2.2.2 _ lt_Mo_isDone⟩ (u_preP hw.1.2) rfl rfl hl.1 rfl (lv_room (Nat.le_of_ble_eq_true rfl)) d_Mo_count_168 ⟨Nat.zero_le _, Nat.zero_le _⟩) (fun r H locs hp hw => ?_)
                            refine u_top (y := (s_Mo_isDone (mem 8 i))) hp ?_
                            refine lv_if_eq (tgt := 177) S.1 S.2.1 d_Mo_count_171 (by decide) (fun c27 => ?_) (fun c27 => ?_)
                            · skip
                              refine lv_iload_n S.1 S.2.1 d_Mo_count_177 rfl (lv_at hl 2 rfl) ?_
                              refine lv_iconst (v := (3 : Int32)) S.1 S.2.1 d_Mo_count_178 (by decide) ?_
                              refine lv_icmp_ne (tgt := 187) S.1 S.2.1 d_Mo_count_179 (by decide) (fun c28 => ?_) (fun c28 => ?_)
                              · skip
                                refine lv_iload_n S.1 S.2.1 d_Mo_count_187 rfl (lv_at hl 2 rfl) ?_
                                refine lv_iconst (v := (4 : Int32)) S.1 S.2.1 d_Mo_count_188 (by decide) ?_
                                refine lv_icmp_ne (tgt := 209) S.1 S.2.1 d_Mo_count_189 (by decide) (fun c29 => ?_) (fun c29 => ?_)
                                · skip
                                  exact absurd c9 c29
                                · skip
                                  refine lv_aload_n S.1 S.2.1 d_Mo_count_192 rfl (lv_at hl 1 rfl) ?_
                                  refine u_get (v := .ref (G.2.1 11)) S hw 0 (by decide) rfl rfl in_Mo 15 (by decide) lf_Mo_40 rfl d_Mo_count_193 ?_
                                  refine lv_iload_n S.1 S.2.1 d_Mo_count_196 rfl (lv_at hl 4 rfl) ?_
                                  refine u_iaN S hw 11 0 (by decide) rfl rfl (j := i) rfl (by omega) (by decide) d_Mo_count_197 ?_
                                  refine lv_iload_n S.1 S.2.1 d_Mo_count_198 rfl (lv_at hl 3 rfl) ?_
                                  refine lv_icmp_le (tgt := 209) S.1 S.2.1 d_Mo_count_199 (by decide) (fun c30 => ?_) (fun c30 => ?_)
                                  · skip
                                    refine lv_iinc (v := (nI (i + 1))) (lv' := [(3, .int (nI (i + 1))), (4, .int (0 : Int32)), (0, .ref (G.2.1 0)), (1, .int a0), (2, .int a)]) S.1 S.2.1 d_Mo_count_209 hl (k := 4) rfl (nI_1 _) (by decide) rfl (fun ls hl => ?_)
                                    refine lv_goto (tgt := 83) S.1 S.2.1 d_Mo_count_212 (by decide) ?_
                                    exact ih83 (i + 1, a) _ H locs ls (by omega) hw ⟨hi2, (by show a = stC mem n t a0 (fC mem n t a0 i) i; rw [← ha]; unfold stC; simp only [if_pos c9, if_pos c10, if_neg c11, if_pos c19, if_pos c27, if_neg c28, if_pos c30]), rfl, lv_sub hl [2, 3, 4, 0] rfl⟩
                                  · skip
                                    refine lv_aload_n S.1 S.2.1 d_Mo_count_202 rfl (lv_at hl 1 rfl) ?_
                                    refine u_get (v := .ref (G.2.1 11)) S hw 0 (by decide) rfl rfl in_Mo 15 (by decide) lf_Mo_40 rfl d_Mo_count_203 ?_
                                    refine lv_iload_n S.1 S.2.1 d_Mo_count_206 rfl (lv_at hl 4 rfl) ?_
                                    refine u_iaN S hw 11 0 (by decide) rfl rfl (j := i) rfl (by omega) (by decide) d_Mo_count_207 ?_
                                    refine lv_istore_n (lv' := [(2, .int (mem 11 i)), (4, .int (0 : Int32)), (0, .ref (G.2.1 0)), (1, .int a0), (3, .int (nI i))]) S.1 S.2.1 d_Mo_count_208 rfl hl (by decide) rfl (fun ls hl => ?_)
                                    refine lv_iinc (v := (nI (i + 1))) (lv' := [(3, .int (nI (i + 1))), (2, .int (mem 11 i)), (4, .int (0 : Int32)), (0, .ref (G.2.1 0)), (1, .int a0)]) S.1 S.2.1 d_Mo_count_209 hl (k := 4) rfl (nI_1 _) (by decide) rfl (fun ls hl => ?_)
                                    refine lv_goto (tgt := 83) S.1 S.2.1 d_Mo_count_212 (by decide) ?_
                                    exact ih83 (i + 1, (mem 11 i)) _ H locs ls (by omega) hw ⟨hi2, (by show (mem 11 i) = stC mem n t a0 (fC mem n t a0 i) i; rw [← ha]; unfold stC; simp only [if_pos c9, if_pos c10, if_neg c11, if_pos c19, if_pos c27, if_neg c28, if_neg c30]), rfl, lv_sub hl [3, 4, 1, 0] rfl⟩
                              · skip
                                refine lv_iload_n S.1 S.2.1 d_Mo_count_182 rfl (lv_at hl 3 rfl) ?_
                                refine lv_iload S.1 S.2.1 d_Mo_count_183 (lv_at hl 0 rfl) ?_
                                refine lv_iadd S.1 S.2.1 d_Mo_count_185 ?_
                                refine lv_istore_n (lv' := [(2, .int (a + (0 : Int32))), (4, .int (0 : Int32)), (0, .ref (G.2.1 0)), (1, .int a0), (3, .int (nI i))]) S.1 S.2.1 d_Mo_count_186 rfl hl (by decide) rfl (fun ls hl => ?_)
                                refine lv_iload_n S.1 S.2.1 d_Mo_count_187 rfl (lv_at hl 3 rfl) ?_
                                refine lv_iconst (v := (4 : Int32)) S.1 S.2.1 d_Mo_count_188 (by decide) ?_
                                refine lv_icmp_ne (tgt := 209) S.1 S.2.1 d_Mo_count_189 (by decide) (fun c31 => ?_) (fun c31 => ?_)
                                · skip
                                  exact absurd c9 c31
                                · skip
                                  refine lv_aload_n S.1 S.2.1 d_Mo_count_192 rfl (lv_at hl 2 rfl) ?_
                                  refine u_get (v := .ref (G.2.1 11)) S hw 0 (by decide) rfl rfl in_Mo 15 (by decide) lf_Mo_40 rfl d_Mo_count_193 ?_
                                  refine lv_iload_n S.1 S.2.1 d_Mo_count_196 rfl (lv_at hl 4 rfl) ?_
                                  refine u_iaN S hw 11 0 (by decide) rfl rfl (j := i) rfl (by omega) (by decide) d_Mo_count_197 ?_
                                  refine lv_iload_n S.1 S.2.1 d_Mo_count_198 rfl (lv_at hl 0 rfl) ?_
                                  refine lv_icmp_le (tgt := 209) S.1 S.2.1 d_Mo_count_199 (by decide) (fun c32 => ?_) (fun c32 => ?_)
                                  · skip
                                    refine lv_iinc (v := (nI (i + 1))) (lv' := [(3, .int (nI (i + 1))), (2, .int (a + (0 : Int32))), (4, .int (0 : Int32)), (0, .ref (G.2.1 0)), (1, .int a0)]) S.1 S.2.1 d_Mo_count_209 hl (k := 4) rfl (nI_1 _) (by decide) rfl (fun ls hl => ?_)
                                    refine lv_goto (tgt := 83) S.1 S.2.1 d_Mo_count_212 (by decide) ?_
                                    exact ih83 (i + 1, (a + (0 : Int32))) _ H locs ls (by omega) hw ⟨hi2, (by show (a + (0 : Int32)) = stC mem n t a0 (fC mem n t a0 i) i; rw [← ha]; unfold stC; simp only [if_pos c9, if_pos c10, if_neg c11, if_pos c19, if_pos c27, if_pos c28, if_pos c32]), rfl, lv_sub hl [3, 4, 1, 0] rfl⟩
                                  · skip
                                    refine lv_aload_n S.1 S.2.1 d_Mo_count_202 rfl (lv_at hl 2 rfl) ?_
                                    refine u_get (v := .ref (G.2.1 11)) S hw 0 (by decide) rfl rfl in_Mo 15 (by decide) lf_Mo_40 rfl d_Mo_count_203 ?_
                                    refine lv_iload_n S.1 S.2.1 d_Mo_count_206 rfl (lv_at hl 4 rfl) ?_
                                    refine u_iaN S hw 11 0 (by decide) rfl rfl (j := i) rfl (by omega) (by decide) d_Mo_count_207 ?_
                                    refine lv_istore_n (lv' := [(2, .int (mem 11 i)), (4, .int (0 : Int32)), (0, .ref (G.2.1 0)), (1, .int a0), (3, .int (nI i))]) S.1 S.2.1 d_Mo_count_208 rfl hl (by decide) rfl (fun ls hl => ?_)
                                    refine lv_iinc (v := (nI (i + 1))) (lv' := [(3, .int (nI (i + 1))), (2, .int (mem 11 i)), (4, .int (0 : Int32)), (0, .ref (G.2.1 0)), (1, .int a0)]) S.1 S.2.1 d_Mo_count_209 hl (k := 4) rfl (nI_1 _) (by decide) rfl (fun ls hl => ?_)
                                    refine lv_goto (tgt := 83) S.1 S.2.1 d_Mo_count_212 (by decide) ?_
                                    exact ih83 (i + 1, (mem 11 i)) _ H locs ls (by omega) hw ⟨hi2, (by show (mem 11 i) = stC mem n t a0 (fC mem n t a0 i) i; rw [← ha]; unfold stC; simp only [if_pos c9, if_pos c10, if_neg c11, if_pos c19, if_pos c27, if_pos c28, if_neg c32]), rfl, lv_sub hl [3, 4, 1, 0] rfl⟩
                            · skip
                              refine lv_iinc (v := (a + (1 : Int32))) (lv' := [(2, .int (a + (1 : Int32))), (4, .int (0 : Int32)), (0, .ref (G.2.1 0)), (1, .int a0), (3, .int (nI i))]) S.1 S.2.1 d_Mo_count_174 hl (k := 3) rfl rfl (by decide) rfl (fun ls hl => ?_)
                              refine lv_iload_n S.1 S.2.1 d_Mo_count_177 rfl (lv_at hl 3 rfl) ?_
                              refine lv_iconst (v := (3 : Int32)) S.1 S.2.1 d_Mo_count_178 (by decide) ?_
                              refine lv_icmp_ne (tgt := 187) S.1 S.2.1 d_Mo_count_179 (by decide) (fun c33 => ?_) (fun c33 => ?_)
                              · skip
                                refine lv_iload_n S.1 S.2.1 d_Mo_count_187 rfl (lv_at hl 3 rfl) ?_
                                refine lv_iconst (v := (4 : Int32)) S.1 S.2.1 d_Mo_count_188 (by decide) ?_
                                refine lv_icmp_ne (tgt := 209) S.1 S.2.1 d_Mo_count_189 (by decide) (fun c34 => ?_) (fun c34 => ?_)
                                · skip
                                  exact absurd c9 c34
                                · skip
                                  refine lv_aload_n S.1 S.2.1 d_Mo_count_192 rfl (lv_at hl 2 rfl) ?_
                                  refine u_get (v := .ref (G.2.1 11)) S hw 0 (by decide) rfl rfl in_Mo 15 (by decide) lf_Mo_40 rfl d_Mo_count_193 ?_
                                  refine lv_iload_n S.1 S.2.1 d_Mo_count_196 rfl (lv_at hl 4 rfl) ?_
                                  refine u_iaN S hw 11 0 (by decide) rfl rfl (j := i) rfl (by omega) (by decide) d_Mo_count_197 ?_
                                  refine lv_iload_n S.1 S.2.1 d_Mo_count_198 rfl (lv_at hl 0 rfl) ?_
                                  refine lv_icmp_le (tgt := 209) S.1 S.2.1 d_Mo_count_199 (by decide) (fun c35 => ?_) (fun c35 => ?_)
                                  · skip
                                    refine lv_iinc (v := (nI (i + 1))) (lv' := [(3, .int (nI (i + 1))), (2, .int (a + (1 : Int32))), (4, .int (0 : Int32)), (0, .ref (G.2.1 0)), (1, .int a0)]) S.1 S.2.1 d_Mo_count_209 hl (k := 4) rfl (nI_1 _) (by decide) rfl (fun ls hl => ?_)
                                    refine lv_goto (tgt := 83) S.1 S.2.1 d_Mo_count_212 (by decide) ?_
                                    exact ih83 (i + 1, (a + (1 : Int32))) _ H locs ls (by omega) hw ⟨hi2, (by show (a + (1 : Int32)) = stC mem n t a0 (fC mem n t a0 i) i; rw [← ha]; unfold stC; simp only [if_pos c9, if_pos c10, if_neg c11, if_pos c19, if_neg c27, if_neg c33, if_pos c35]), rfl, lv_sub hl [3, 4, 1, 0] rfl⟩
                                  · skip
                                    refine lv_aload_n S.1 S.2.1 d_Mo_count_202 rfl (lv_at hl 2 rfl) ?_
                                    refine u_get (v := .ref (G.2.1 11)) S hw 0 (by decide) rfl rfl in_Mo 15 (by decide) lf_Mo_40 rfl d_Mo_count_203 ?_
                                    refine lv_iload_n S.1 S.2.1 d_Mo_count_206 rfl (lv_at hl 4 rfl) ?_
                                    refine u_iaN S hw 11 0 (by decide) rfl rfl (j := i) rfl (by omega) (by decide) d_Mo_count_207 ?_
                                    refine lv_istore_n (lv' := [(2, .int (mem 11 i)), (4, .int (0 : Int32)), (0, .ref (G.2.1 0)), (1, .int a0), (3, .int (nI i))]) S.1 S.2.1 d_Mo_count_208 rfl hl (by decide) rfl (fun ls hl => ?_)
                                    refine lv_iinc (v := (nI (i + 1))) (lv' := [(3, .int (nI (i + 1))), (2, .int (mem 11 i)), (4, .int (0 : Int32)), (0, .ref (G.2.1 0)), (1, .int a0)]) S.1 S.2.1 d_Mo_count_209 hl (k := 4) rfl (nI_1 _) (by decide) rfl (fun ls hl => ?_)
                                    refine lv_goto (tgt := 83) S.1 S.2.1 d_Mo_count_212 (by decide) ?_
                                    exact ih83 (i + 1, (mem 11 i)) _ H locs ls (by omega) hw ⟨hi2, (by show (mem 11 i) = stC mem n t a0 (fC mem n t a0 i) i; rw [← ha]; unfold stC; simp only [if_pos c9, if_pos c10, if_neg c11, if_pos c19, if_neg c27, if_neg c33, if_neg c35]), rfl, lv_sub hl [3, 4, 1, 0] rfl⟩
                              · skip
                                refine lv_iload_n S.1 S.2.1 d_Mo_count_182 rfl (lv_at hl 0 rfl) ?_
                                refine lv_iload S.1 S.2.1 d_Mo_count_183 (lv_at hl 1 rfl) ?_
                                refine lv_iadd S.1 S.2.1 d_Mo_count_185 ?_
                                refine lv_istore_n (lv' := [(2, .int ((a + (1 : Int32)) + (0 : Int32))), (4, .int (0 : Int32)), (0, .ref (G.2.1 0)), (1, .int a0), (3, .int (nI i))]) S.1 S.2.1 d_Mo_count_186 rfl hl (by decide) rfl (fun ls hl => ?_)
                                refine lv_iload_n S.1 S.2.1 d_Mo_count_187 rfl (lv_at hl 3 rfl) ?_
                                refine lv_iconst (v := (4 : Int32)) S.1 S.2.1 d_Mo_count_188 (by decide) ?_
                                refine lv_icmp_ne (tgt := 209) S.1 S.2.1 d_Mo_count_189 (by decide) (fun c36 => ?_) (fun c36 => ?_)
                                · skip
                                  exact absurd c9 c36
                                · skip
                                  refine lv_aload_n S.1 S.2.1 d_Mo_count_192 rfl (lv_at hl 2 rfl) ?_
                                  refine u_get (v := .ref (G.2.1 11)) S hw 0 (by decide) rfl rfl in_Mo 15 (by decide) lf_Mo_40 rfl d_Mo_count_193 ?_
                                  refine lv_iload_n S.1 S.2.1 d_Mo_count_196 rfl (lv_at hl 4 rfl) ?_
                                  refine u_iaN S hw 11 0 (by decide) rfl rfl (j := i) rfl (by omega) (by decide) d_Mo_count_197 ?_
                                  refine lv_iload_n S.1 S.2.1 d_Mo_count_198 rfl (lv_at hl 0 rfl) ?_
                                  refine lv_icmp_le (tgt := 209) S.1 S.2.1 d_Mo_count_199 (by decide) (fun c37 => ?_) (fun c37 => ?_)
                                  · skip
                                    refine lv_iinc (v := (nI (i + 1))) (lv' := [(3, .int (nI (i + 1))), (2, .int ((a + (1 : Int32)) + (0 : Int32))), (4, .int (0 : Int32)), (0, .ref (G.2.1 0)), (1, .int a0)]) S.1 S.2.1 d_Mo_count_209 hl (k := 4) rfl (nI_1 _) (by decide) rfl (fun ls hl => ?_)
                                    refine lv_goto (tgt := 83) S.1 S.2.1 d_Mo_count_212 (by decide) ?_
                                    exact ih83 (i + 1, ((a + (1 : Int32)) + (0 : Int32))) _ H locs ls (by omega) hw ⟨hi2, (by show ((a + (1 : Int32)) + (0 : Int32)) = stC mem n t a0 (fC mem n t a0 i) i; rw [← ha]; unfold stC; simp only [if_pos c9, if_pos c10, if_neg c11, if_pos c19, if_neg c27, if_pos c33, if_pos c37]), rfl, lv_sub hl [3, 4, 1, 0] rfl⟩
                                  · skip
                                    refine lv_aload_n S.1 S.2.1 d_Mo_count_202 rfl (lv_at hl 2 rfl) ?_
                                    refine u_get (v := .ref (G.2.1 11)) S hw 0 (by decide) rfl rfl in_Mo 15 (by decide) lf_Mo_40 rfl d_Mo_count_203 ?_
                                    refine lv_iload_n S.1 S.2.1 d_Mo_count_206 rfl (lv_at hl 4 rfl) ?_
                                    refine u_iaN S hw 11 0 (by decide) rfl rfl (j := i) rfl (by omega) (by decide) d_Mo_count_207 ?_
                                    refine lv_istore_n (lv' := [(2, .int (mem 11 i)), (4, .int (0 : Int32)), (0, .ref (G.2.1 0)), (1, .int a0), (3, .int (nI i))]) S.1 S.2.1 d_Mo_count_208 rfl hl (by decide) rfl (fun ls hl => ?_)
                                    refine lv_iinc (v := (nI (i + 1))) (lv' := [(3, .int (nI (i + 1))), (2, .int (mem 11 i)), (4, .int (0 : Int32)), (0, .ref (G.2.1 0)), (1, .int a0)]) S.1 S.2.1 d_Mo_count_209 hl (k := 4) rfl (nI_1 _) (by decide) rfl (fun ls hl => ?_)
                                    refine lv_goto (tgt := 83) S.1 S.2.1 d_Mo_count_212 (by decide) ?_
                                    exact ih83 (i + 1, (mem 11 i)) _ H locs ls (by omega) hw ⟨hi2, (by show (mem 11 i) = stC mem n t a0 (fC mem n t a0 i) i; rw [← ha]; unfold stC; simp only [if_pos c9, if_pos c10, if_neg c11, if_pos c19, if_neg c27, if_pos c33, if_neg c37]), rfl, lv_sub hl [3, 4, 1, 0] rfl⟩
                  · skip
                    obtain ⟨j9, hj9, hzt⟩ := cnt_t10 hrng c10 hlt; obtain rfl := htt j9 hj9 hzt
                    refine lv_aload_n S.1 S.2.1 d_Mo_count_124 rfl (lv_at hl 1 rfl) ?_
                    refine lv_aload_n S.1 S.2.1 d_Mo_count_125 rfl (lv_at hl 1 rfl) ?_
                    refine u_get (v := .ref (G.2.1 8)) S hw 0 (by decide) rfl rfl in_Mo 12 (by decide) lf_Mo_31 rfl d_Mo_count_126 ?_
                    refine lv_iload_n S.1 S.2.1 d_Mo_count_129 rfl (lv_at hl 4 rfl) ?_
                    refine u_iaN S hw 8 0 (by decide) rfl rfl (j := i) rfl (by omega) (by decide) d_Mo_count_130 ?_
                    refine lv_iload_n S.1 S.2.1 d_Mo_count_131 rfl (lv_at hl 2 rfl) ?_
                    refine lv_bipush (v := (10 : Int32)) S.1 S.2.1 d_Mo_count_132 (by decide) ?_
                    refine lv_isub S.1 S.2.1 d_Mo_count_134 ?_
                    refine u_top (y := (nI t)) hzt ?_
                    refine u_calli hw (va_runV (As := [.int (mem 8 i), .int (nI t)]) (rest := []) S (c_Mo_isOpen l G mem (mem 8 i) t (by omega)) ⟨u_cB S.2.2.2.2 t_Mo_isOpen ln_Mo lm_Mo_80 hd_Mo_isOpen rfl rfl ⟨Nat.le_of_ble_eq_true rfl, Nat.le_of_ble_eq_true rfl⟩, S.2.2.2.2 _ li_Mo_isOpen, S.2.2.2.2 _ ls_Mo_isOpen⟩ (u_preV hw 0 (by decide) rfl rfl) rfl rfl hl.1 rfl (lv_room (Nat.le_of_ble_eq_true rfl)) d_Mo_count_135 ⟨Nat.zero_le _, Nat.zero_le _⟩) (fun r39 mem38 H locs hp hw => ?_)
                    obtain ⟨hp, rfl⟩ := hp
                    refine u_top (y := (s_Mo_isOpen (mem 1 t) (mem 2 t) (mem 4 t) (mem 8 i))) hp ?_
                    refine lv_if_ne (tgt := 174) S.1 S.2.1 d_Mo_count_138 (by decide) (fun c40 => ?_) (fun c40 => ?_)
                    · skip
                      refine lv_iinc (v := (a + (1 : Int32))) (lv' := [(2, .int (a + (1 : Int32))), (4, .int (0 : Int32)), (0, .ref (G.2.1 0)), (1, .int a0), (3, .int (nI i))]) S.1 S.2.1 d_Mo_count_174 hl (k := 3) rfl rfl (by decide) rfl (fun ls hl => ?_)
                      refine lv_iload_n S.1 S.2.1 d_Mo_count_177 rfl (lv_at hl 3 rfl) ?_
                      refine lv_iconst (v := (3 : Int32)) S.1 S.2.1 d_Mo_count_178 (by decide) ?_
                      refine lv_icmp_ne (tgt := 187) S.1 S.2.1 d_Mo_count_179 (by decide) (fun c41 => ?_) (fun c41 => ?_)
                      · skip
                        refine lv_iload_n S.1 S.2.1 d_Mo_count_187 rfl (lv_at hl 3 rfl) ?_
                        refine lv_iconst (v := (4 : Int32)) S.1 S.2.1 d_Mo_count_188 (by decide) ?_
                        refine lv_icmp_ne (tgt := 209) S.1 S.2.1 d_Mo_count_189 (by decide) (fun c42 => ?_) (fun c42 => ?_)
                        · skip
                          exact absurd c9 c42
                        · skip
                          refine lv_aload_n S.1 S.2.1 d_Mo_count_192 rfl (lv_at hl 2 rfl) ?_
                          refine u_get (v := .ref (G.2.1 11)) S hw 0 (by decide) rfl rfl in_Mo 15 (by decide) lf_Mo_40 rfl d_Mo_count_193 ?_
                          refine lv_iload_n S.1 S.2.1 d_Mo_count_196 rfl (lv_at hl 4 rfl) ?_
                          refine u_iaN S hw 11 0 (by decide) rfl rfl (j := i) rfl (by omega) (by decide) d_Mo_count_197 ?_
                          refine lv_iload_n S.1 S.2.1 d_Mo_count_198 rfl (lv_at hl 0 rfl) ?_
                          refine lv_icmp_le (tgt := 209) S.1 S.2.1 d_Mo_count_199 (by decide) (fun c43 => ?_) (fun c43 => ?_)
                          · skip
                            refine lv_iinc (v := (nI (i + 1))) (lv' := [(3, .int (nI (i + 1))), (2, .int (a + (1 : Int32))), (4, .int (0 : Int32)), (0, .ref (G.2.1 0)), (1, .int a0)]) S.1 S.2.1 d_Mo_count_209 hl (k := 4) rfl (nI_1 _) (by decide) rfl (fun ls hl => ?_)
                            refine lv_goto (tgt := 83) S.1 S.2.1 d_Mo_count_212 (by decide) ?_
                            exact ih83 (i + 1, (a + (1 : Int32))) _ H locs ls (by omega) hw ⟨hi2, (by show (a + (1 : Int32)) = stC mem n t a0 (fC mem n t a0 i) i; rw [← ha]; unfold stC; simp only [if_pos c9, if_neg c10, if_neg c40, if_neg c41, if_pos c43]), rfl, lv_sub hl [3, 4, 1, 0] rfl⟩
                          · skip
                            refine lv_aload_n S.1 S.2.1 d_Mo_count_202 rfl (lv_at hl 2 rfl) ?_
                            refine u_get (v := .ref (G.2.1 11)) S hw 0 (by decide) rfl rfl in_Mo 15 (by decide) lf_Mo_40 rfl d_Mo_count_203 ?_
                            refine lv_iload_n S.1 S.2.1 d_Mo_count_206 rfl (lv_at hl 4 rfl) ?_
                            refine u_iaN S hw 11 0 (by decide) rfl rfl (j := i) rfl (by omega) (by decide) d_Mo_count_207 ?_
                            refine lv_istore_n (lv' := [(2, .int (mem 11 i)), (4, .int (0 : Int32)), (0, .ref (G.2.1 0)), (1, .int a0), (3, .int (nI i))]) S.1 S.2.1 d_Mo_count_208 rfl hl (by decide) rfl (fun ls hl => ?_)
                            refine lv_iinc (v := (nI (i + 1))) (lv' := [(3, .int (nI (i + 1))), (2, .int (mem 11 i)), (4, .int (0 : Int32)), (0, .ref (G.2.1 0)), (1, .int a0)]) S.1 S.2.1 d_Mo_count_209 hl (k := 4) rfl (nI_1 _) (by decide) rfl (fun ls hl => ?_)
                            refine lv_goto (tgt := 83) S.1 S.2.1 d_Mo_count_212 (by decide) ?_
                            exact ih83 (i + 1, (mem 11 i)) _ H locs ls (by omega) hw ⟨hi2, (by show (mem 11 i) = stC mem n t a0 (fC mem n t a0 i) i; rw [← ha]; unfold stC; simp only [if_pos c9, if_neg c10, if_neg c40, if_neg c41, if_neg c43]), rfl, lv_sub hl [3, 4, 1, 0] rfl⟩
                      · skip
                        refine lv_iload_n S.1 S.2.1 d_Mo_count_182 rfl (lv_at hl 0 rfl) ?_
                        refine lv_iload S.1 S.2.1 d_Mo_count_183 (lv_at hl 1 rfl) ?_
                        refine lv_iadd S.1 S.2.1 d_Mo_count_185 ?_
                        refine lv_istore_n (lv' := [(2, .int ((a + (1 : Int32)) + (0 : Int32))), (4, .int (0 : Int32)), (0, .ref (G.2.1 0)), (1, .int a0), (3, .int (nI i))]) S.1 S.2.1 d_Mo_count_186 rfl hl (by decide) rfl (fun ls hl => ?_)
                        refine lv_iload_n S.1 S.2.1 d_Mo_count_187 rfl (lv_at hl 3 rfl) ?_
                        refine lv_iconst (v := (4 : Int32)) S.1 S.2.1 d_Mo_count_188 (by decide) ?_
                        refine lv_icmp_ne (tgt := 209) S.1 S.2.1 d_Mo_count_189 (by decide) (fun c44 => ?_) (fun c44 => ?_)
                        · skip
                          exact absurd c9 c44
                        · skip
                          refine lv_aload_n S.1 S.2.1 d_Mo_count_192 rfl (lv_at hl 2 rfl) ?_
                          refine u_get (v := .ref (G.2.1 11)) S hw 0 (by decide) rfl rfl in_Mo 15 (by decide) lf_Mo_40 rfl d_Mo_count_193 ?_
                          refine lv_iload_n S.1 S.2.1 d_Mo_count_196 rfl (lv_at hl 4 rfl) ?_
                          refine u_iaN S hw 11 0 (by decide) rfl rfl (j := i) rfl (by omega) (by decide) d_Mo_count_197 ?_
                          refine lv_iload_n S.1 S.2.1 d_Mo_count_198 rfl (lv_at hl 0 rfl) ?_
                          refine lv_icmp_le (tgt := 209) S.1 S.2.1 d_Mo_count_199 (by decide) (fun c45 => ?_) (fun c45 => ?_)
                          · skip
                            refine lv_iinc (v := (nI (i + 1))) (lv' := [(3, .int (nI (i + 1))), (2, .int ((a + (1 : Int32)) + (0 : Int32))), (4, .int (0 : Int32)), (0, .ref (G.2.1 0)), (1, .int a0)]) S.1 S.2.1 d_Mo_count_209 hl (k := 4) rfl (nI_1 _) (by decide) rfl (fun ls hl => ?_)
                            refine lv_goto (tgt := 83) S.1 S.2.1 d_Mo_count_212 (by decide) ?_
                            exact ih83 (i + 1, ((a + (1 : Int32)) + (0 : Int32))) _ H locs ls (by omega) hw ⟨hi2, (by show ((a + (1 : Int32)) + (0 : Int32)) = stC mem n t a0 (fC mem n t a0 i) i; rw [← ha]; unfold stC; simp only [if_pos c9, if_neg c10, if_neg c40, if_pos c41, if_pos c45]), rfl, lv_sub hl [3, 4, 1, 0] rfl⟩
                          · skip
                            refine lv_aload_n S.1 S.2.1 d_Mo_count_202 rfl (lv_at hl 2 rfl) ?_
                            refine u_get (v := .ref (G.2.1 11)) S hw 0 (by decide) rfl rfl in_Mo 15 (by decide) lf_Mo_40 rfl d_Mo_count_203 ?_
                            refine lv_iload_n S.1 S.2.1 d_Mo_count_206 rfl (lv_at hl 4 rfl) ?_
                            refine u_iaN S hw 11 0 (by decide) rfl rfl (j := i) rfl (by omega) (by decide) d_Mo_count_207 ?_
                            refine lv_istore_n (lv' := [(2, .int (mem 11 i)), (4, .int (0 : Int32)), (0, .ref (G.2.1 0)), (1, .int a0), (3, .int (nI i))]) S.1 S.2.1 d_Mo_count_208 rfl hl (by decide) rfl (fun ls hl => ?_)
                            refine lv_iinc (v := (nI (i + 1))) (lv' := [(3, .int (nI (i + 1))), (2, .int (mem 11 i)), (4, .int (0 : Int32)), (0, .ref (G.2.1 0)), (1, .int a0)]) S.1 S.2.1 d_Mo_count_209 hl (k := 4) rfl (nI_1 _) (by decide) rfl (fun ls hl => ?_)
                            refine lv_goto (tgt := 83) S.1 S.2.1 d_Mo_count_212 (by decide) ?_
                            exact ih83 (i + 1, (mem 11 i)) _ H locs ls (by omega) hw ⟨hi2, (by show (mem 11 i) = stC mem n t a0 (fC mem n t a0 i) i; rw [← ha]; unfold stC; simp only [if_pos c9, if_neg c10, if_neg c40, if_pos c41, if_neg c45]), rfl, lv_sub hl [3, 4, 1, 0] rfl⟩
                    · skip
                      refine lv_iload_n S.1 S.2.1 d_Mo_count_141 rfl (lv_at hl 2 rfl) ?_
                      refine lv_iconst (v := (5 : Int32)) S.1 S.2.1 d_Mo_count_142 (by decide) ?_
                      refine lv_icmp_eq (tgt := 152) S.1 S.2.1 d_Mo_count_143 (by decide) (fun c46 => ?_) (fun c46 => ?_)
                      · skip
                        refine lv_iload S.1 S.2.1 d_Mo_count_152 (lv_at hl 0 rfl) ?_
                        refine lv_if_ne (tgt := 177) S.1 S.2.1 d_Mo_count_154 (by decide) (fun c47 => ?_) (fun c47 => ?_)
                        · skip
                          exact absurd (by decide) c47
                        · skip
                          refine lv_iload_n S.1 S.2.1 d_Mo_count_157 rfl (lv_at hl 2 rfl) ?_
                          refine lv_iconst (v := (5 : Int32)) S.1 S.2.1 d_Mo_count_158 (by decide) ?_
                          refine lv_icmp_eq (tgt := 174) S.1 S.2.1 d_Mo_count_159 (by decide) (fun c48 => ?_) (fun c48 => ?_)
                          · skip
                            refine lv_iinc (v := (a + (1 : Int32))) (lv' := [(2, .int (a + (1 : Int32))), (4, .int (0 : Int32)), (0, .ref (G.2.1 0)), (1, .int a0), (3, .int (nI i))]) S.1 S.2.1 d_Mo_count_174 hl (k := 3) rfl rfl (by decide) rfl (fun ls hl => ?_)
                            refine lv_iload_n S.1 S.2.1 d_Mo_count_177 rfl (lv_at hl 3 rfl) ?_
                            refine lv_iconst (v := (3 : Int32)) S.1 S.2.1 d_Mo_count_178 (by decide) ?_
                            refine lv_icmp_ne (tgt := 187) S.1 S.2.1 d_Mo_count_179 (by decide) (fun c49 => ?_) (fun c49 => ?_)
                            · skip
                              refine lv_iload_n S.1 S.2.1 d_Mo_count_187 rfl (lv_at hl 3 rfl) ?_
                              refine lv_iconst (v := (4 : Int32)) S.1 S.2.1 d_Mo_count_188 (by decide) ?_
                              refine lv_icmp_ne (tgt := 209) S.1 S.2.1 d_Mo_count_189 (by decide) (fun c50 => ?_) (fun c50 => ?_)
                              · skip
                                exact absurd c9 c50
                              · skip
                                refine lv_aload_n S.1 S.2.1 d_Mo_count_192 rfl (lv_at hl 2 rfl) ?_
                                refine u_get (v := .ref (G.2.1 11)) S hw 0 (by decide) rfl rfl in_Mo 15 (by decide) lf_Mo_40 rfl d_Mo_count_193 ?_
                                refine lv_iload_n S.1 S.2.1 d_Mo_count_196 rfl (lv_at hl 4 rfl) ?_
                                refine u_iaN S hw 11 0 (by decide) rfl rfl (j := i) rfl (by omega) (by decide) d_Mo_count_197 ?_
                                refine lv_iload_n S.1 S.2.1 d_Mo_count_198 rfl (lv_at hl 0 rfl) ?_
                                refine lv_icmp_le (tgt := 209) S.1 S.2.1 d_Mo_count_199 (by decide) (fun c51 => ?_) (fun c51 => ?_)
                                · skip
                                  refine lv_iinc (v := (nI (i + 1))) (lv' := [(3, .int (nI (i + 1))), (2, .int (a + (1 : Int32))), (4, .int (0 : Int32)), (0, .ref (G.2.1 0)), (1, .int a0)]) S.1 S.2.1 d_Mo_count_209 hl (k := 4) rfl (nI_1 _) (by decide) rfl (fun ls hl => ?_)
                                  refine lv_goto (tgt := 83) S.1 S.2.1 d_Mo_count_212 (by decide) ?_
                                  exact ih83 (i + 1, (a + (1 : Int32))) _ H locs ls (by omega) hw ⟨hi2, (by show (a + (1 : Int32)) = stC mem n t a0 (fC mem n t a0 i) i; rw [← ha]; unfold stC; simp only [if_pos c9, if_neg c10, if_pos c40, if_pos c46, if_neg c49, if_pos c51]), rfl, lv_sub hl [3, 4, 1, 0] rfl⟩
                                · skip
                                  refine lv_aload_n S.1 S.2.1 d_Mo_count_202 rfl (lv_at hl 2 rfl) ?_
                                  refine u_get (v := .ref (G.2.1 11)) S hw 0 (by decide) rfl rfl in_Mo 15 (by decide) lf_Mo_40 rfl d_Mo_count_203 ?_
                                  refine lv_iload_n S.1 S.2.1 d_Mo_count_206 rfl (lv_at hl 4 rfl) ?_
                                  refine u_iaN S hw 11 0 (by decide) rfl rfl (j := i) rfl (by omega) (by decide) d_Mo_count_207 ?_
                                  refine lv_istore_n (lv' := [(2, .int (mem 11 i)), (4, .int (0 : Int32)), (0, .ref (G.2.1 0)), (1, .int a0), (3, .int (nI i))]) S.1 S.2.1 d_Mo_count_208 rfl hl (by decide) rfl (fun ls hl => ?_)
                                  refine lv_iinc (v := (nI (i + 1))) (lv' := [(3, .int (nI (i + 1))), (2, .int (mem 11 i)), (4, .int (0 : Int32)), (0, .ref (G.2.1 0)), (1, .int a0)]) S.1 S.2.1 d_Mo_count_209 hl (k := 4) rfl (nI_1 _) (by decide) rfl (fun ls hl => ?_)
                                  refine lv_goto (tgt := 83) S.1 S.2.1 d_Mo_count_212 (by decide) ?_
                                  exact ih83 (i + 1, (mem 11 i)) _ H locs ls (by omega) hw ⟨hi2, (by show (mem 11 i) = stC mem n t a0 (fC mem n t a0 i) i; rw [← ha]; unfold stC; simp only [if_pos c9, if_neg c10, if_pos c40, if_pos c46, if_neg c49, if_neg c51]), rfl, lv_sub hl [3, 4, 1, 0] rfl⟩
                            · skip
                              refine lv_iload_n S.1 S.2.1 d_Mo_count_182 rfl (lv_at hl 0 rfl) ?_
                              refine lv_iload S.1 S.2.1 d_Mo_count_183 (lv_at hl 1 rfl) ?_
                              refine lv_iadd S.1 S.2.1 d_Mo_count_185 ?_
                              refine lv_istore_n (lv' := [(2, .int ((a + (1 : Int32)) + (0 : Int32))), (4, .int (0 : Int32)), (0, .ref (G.2.1 0)), (1, .int a0), (3, .int (nI i))]) S.1 S.2.1 d_Mo_count_186 rfl hl (by decide) rfl (fun ls hl => ?_)
                              refine lv_iload_n S.1 S.2.1 d_Mo_count_187 rfl (lv_at hl 3 rfl) ?_
                              refine lv_iconst (v := (4 : Int32)) S.1 S.2.1 d_Mo_count_188 (by decide) ?_
                              refine lv_icmp_ne (tgt := 209) S.1 S.2.1 d_Mo_count_189 (by decide) (fun c52 => ?_) (fun c52 => ?_)
                              · skip
                                exact absurd c9 c52
                              · skip
                                refine lv_aload_n S.1 S.2.1 d_Mo_count_192 rfl (lv_at hl 2 rfl) ?_
                                refine u_get (v := .ref (G.2.1 11)) S hw 0 (by decide) rfl rfl in_Mo 15 (by decide) lf_Mo_40 rfl d_Mo_count_193 ?_
                                refine lv_iload_n S.1 S.2.1 d_Mo_count_196 rfl (lv_at hl 4 rfl) ?_
                                refine u_iaN S hw 11 0 (by decide) rfl rfl (j := i) rfl (by omega) (by decide) d_Mo_count_197 ?_
                                refine lv_iload_n S.1 S.2.1 d_Mo_count_198 rfl (lv_at hl 0 rfl) ?_
                                refine lv_icmp_le (tgt := 209) S.1 S.2.1 d_Mo_count_199 (by decide) (fun c53 => ?_) (fun c53 => ?_)
                                · skip
                                  refine lv_iinc (v := (nI (i + 1))) (lv' := [(3, .int (nI (i + 1))), (2, .int ((a + (1 : Int32)) + (0 : Int32))), (4, .int (0 : Int32)), (0, .ref (G.2.1 0)), (1, .int a0)]) S.1 S.2.1 d_Mo_count_209 hl (k := 4) rfl (nI_1 _) (by decide) rfl (fun ls hl => ?_)
                                  refine lv_goto (tgt := 83) S.1 S.2.1 d_Mo_count_212 (by decide) ?_
                                  exact ih83 (i + 1, ((a + (1 : Int32)) + (0 : Int32))) _ H locs ls (by omega) hw ⟨hi2, (by show ((a + (1 : Int32)) + (0 : Int32)) = stC mem n t a0 (fC mem n t a0 i) i; rw [← ha]; unfold stC; simp only [if_pos c9, if_neg c10, if_pos c40, if_pos c46, if_pos c49, if_pos c53]), rfl, lv_sub hl [3, 4, 1, 0] rfl⟩
                                · skip
                                  refine lv_aload_n S.1 S.2.1 d_Mo_count_202 rfl (lv_at hl 2 rfl) ?_
                                  refine u_get (v := .ref (G.2.1 11)) S hw 0 (by decide) rfl rfl in_Mo 15 (by decide) lf_Mo_40 rfl d_Mo_count_203 ?_
                                  refine lv_iload_n S.1 S.2.1 d_Mo_count_206 rfl (lv_at hl 4 rfl) ?_
                                  refine u_iaN S hw 11 0 (by decide) rfl rfl (j := i) rfl (by omega) (by decide) d_Mo_count_207 ?_
                                  refine lv_istore_n (lv' := [(2, .int (mem 11 i)), (4, .int (0 : Int32)), (0, .ref (G.2.1 0)), (1, .int a0), (3, .int (nI i))]) S.1 S.2.1 d_Mo_count_208 rfl hl (by decide) rfl (fun ls hl => ?_)
                                  refine lv_iinc (v := (nI (i + 1))) (lv' := [(3, .int (nI (i + 1))), (2, .int (mem 11 i)), (4, .int (0 : Int32)), (0, .ref (G.2.1 0)), (1, .int a0)]) S.1 S.2.1 d_Mo_count_209 hl (k := 4) rfl (nI_1 _) (by decide) rfl (fun ls hl => ?_)
                                  refine lv_goto (tgt := 83) S.1 S.2.1 d_Mo_count_212 (by decide) ?_
                                  exact ih83 (i + 1, (mem 11 i)) _ H locs ls (by omega) hw ⟨hi2, (by show (mem 11 i) = stC mem n t a0 (fC mem n t a0 i) i; rw [← ha]; unfold stC; simp only [if_pos c9, if_neg c10, if_pos c40, if_pos c46, if_pos c49, if_neg c53]), rfl, lv_sub hl [3, 4, 1, 0] rfl⟩
                          · skip
                            exact absurd c46 c48
                      · skip
                        refine lv_iload_n S.1 S.2.1 d_Mo_count_146 rfl (lv_at hl 2 rfl) ?_
                        refine lv_bipush (v := (6 : Int32)) S.1 S.2.1 d_Mo_count_147 (by decide) ?_
                        refine lv_icmp_ne (tgt := 177) S.1 S.2.1 d_Mo_count_149 (by decide) (fun c54 => ?_) (fun c54 => ?_)
                        · skip
                          refine lv_iload_n S.1 S.2.1 d_Mo_count_177 rfl (lv_at hl 2 rfl) ?_
                          refine lv_iconst (v := (3 : Int32)) S.1 S.2.1 d_Mo_count_178 (by decide) ?_
                          refine lv_icmp_ne (tgt := 187) S.1 S.2.1 d_Mo_count_179 (by decide) (fun c55 => ?_) (fun c55 => ?_)
                          · skip
                            refine lv_iload_n S.1 S.2.1 d_Mo_count_187 rfl (lv_at hl 2 rfl) ?_
                            refine lv_iconst (v := (4 : Int32)) S.1 S.2.1 d_Mo_count_188 (by decide) ?_
                            refine lv_icmp_ne (tgt := 209) S.1 S.2.1 d_Mo_count_189 (by decide) (fun c56 => ?_) (fun c56 => ?_)
                            · skip
                              exact absurd c9 c56
                            · skip
                              refine lv_aload_n S.1 S.2.1 d_Mo_count_192 rfl (lv_at hl 1 rfl) ?_
                              refine u_get (v := .ref (G.2.1 11)) S hw 0 (by decide) rfl rfl in_Mo 15 (by decide) lf_Mo_40 rfl d_Mo_count_193 ?_
                              refine lv_iload_n S.1 S.2.1 d_Mo_count_196 rfl (lv_at hl 4 rfl) ?_
                              refine u_iaN S hw 11 0 (by decide) rfl rfl (j := i) rfl (by omega) (by decide) d_Mo_count_197 ?_
                              refine lv_iload_n S.1 S.2.1 d_Mo_count_198 rfl (lv_at hl 3 rfl) ?_
                              refine lv_icmp_le (tgt := 209) S.1 S.2.1 d_Mo_count_199 (by decide) (fun c57 => ?_) (fun c57 => ?_)
                              · skip
                                refine lv_iinc (v := (nI (i + 1))) (lv' := [(3, .int (nI (i + 1))), (4, .int (0 : Int32)), (0, .ref (G.2.1 0)), (1, .int a0), (2, .int a)]) S.1 S.2.1 d_Mo_count_209 hl (k := 4) rfl (nI_1 _) (by decide) rfl (fun ls hl => ?_)
                                refine lv_goto (tgt := 83) S.1 S.2.1 d_Mo_count_212 (by decide) ?_
                                exact ih83 (i + 1, a) _ H locs ls (by omega) hw ⟨hi2, (by show a = stC mem n t a0 (fC mem n t a0 i) i; rw [← ha]; unfold stC; simp only [if_pos c9, if_neg c10, if_pos c40, if_neg c46, if_neg c54, if_neg c55, if_pos c57]), rfl, lv_sub hl [2, 3, 4, 0] rfl⟩
                              · skip
                                refine lv_aload_n S.1 S.2.1 d_Mo_count_202 rfl (lv_at hl 1 rfl) ?_
                                refine u_get (v := .ref (G.2.1 11)) S hw 0 (by decide) rfl rfl in_Mo 15 (by decide) lf_Mo_40 rfl d_Mo_count_203 ?_
                                refine lv_iload_n S.1 S.2.1 d_Mo_count_206 rfl (lv_at hl 4 rfl) ?_
                                refine u_iaN S hw 11 0 (by decide) rfl rfl (j := i) rfl (by omega) (by decide) d_Mo_count_207 ?_
                                refine lv_istore_n (lv' := [(2, .int (mem 11 i)), (4, .int (0 : Int32)), (0, .ref (G.2.1 0)), (1, .int a0), (3, .int (nI i))]) S.1 S.2.1 d_Mo_count_208 rfl hl (by decide) rfl (fun ls hl => ?_)
                                refine lv_iinc (v := (nI (i + 1))) (lv' := [(3, .int (nI (i + 1))), (2, .int (mem 11 i)), (4, .int (0 : Int32)), (0, .ref (G.2.1 0)), (1, .int a0)]) S.1 S.2.1 d_Mo_count_209 hl (k := 4) rfl (nI_1 _) (by decide) rfl (fun ls hl => ?_)
                                refine lv_goto (tgt := 83) S.1 S.2.1 d_Mo_count_212 (by decide) ?_
                                exact ih83 (i + 1, (mem 11 i)) _ H locs ls (by omega) hw ⟨hi2, (by show (mem 11 i) = stC mem n t a0 (fC mem n t a0 i) i; rw [← ha]; unfold stC; simp only [if_pos c9, if_neg c10, if_pos c40, if_neg c46, if_neg c54, if_neg c55, if_neg c57]), rfl, lv_sub hl [3, 4, 1, 0] rfl⟩
                          · skip
                            refine lv_iload_n S.1 S.2.1 d_Mo_count_182 rfl (lv_at hl 3 rfl) ?_
                            refine lv_iload S.1 S.2.1 d_Mo_count_183 (lv_at hl 0 rfl) ?_
                            refine lv_iadd S.1 S.2.1 d_Mo_count_185 ?_
                            refine lv_istore_n (lv' := [(2, .int (a + (0 : Int32))), (4, .int (0 : Int32)), (0, .ref (G.2.1 0)), (1, .int a0), (3, .int (nI i))]) S.1 S.2.1 d_Mo_count_186 rfl hl (by decide) rfl (fun ls hl => ?_)
                            refine lv_iload_n S.1 S.2.1 d_Mo_count_187 rfl (lv_at hl 3 rfl) ?_
                            refine lv_iconst (v := (4 : Int32)) S.1 S.2.1 d_Mo_count_188 (by decide) ?_
                            refine lv_icmp_ne (tgt := 209) S.1 S.2.1 d_Mo_count_189 (by decide) (fun c58 => ?_) (fun c58 => ?_)
                            · skip
                              exact absurd c9 c58
                            · skip
                              refine lv_aload_n S.1 S.2.1 d_Mo_count_192 rfl (lv_at hl 2 rfl) ?_
                              refine u_get (v := .ref (G.2.1 11)) S hw 0 (by decide) rfl rfl in_Mo 15 (by decide) lf_Mo_40 rfl d_Mo_count_193 ?_
                              refine lv_iload_n S.1 S.2.1 d_Mo_count_196 rfl (lv_at hl 4 rfl) ?_
                              refine u_iaN S hw 11 0 (by decide) rfl rfl (j := i) rfl (by omega) (by decide) d_Mo_count_197 ?_
                              refine lv_iload_n S.1 S.2.1 d_Mo_count_198 rfl (lv_at hl 0 rfl) ?_
                              refine lv_icmp_le (tgt := 209) S.1 S.2.1 d_Mo_count_199 (by decide) (fun c59 => ?_) (fun c59 => ?_)
                              · skip
                                refine lv_iinc (v := (nI (i + 1))) (lv' := [(3, .int (nI (i + 1))), (2, .int (a + (0 : Int32))), (4, .int (0 : Int32)), (0, .ref (G.2.1 0)), (1, .int a0)]) S.1 S.2.1 d_Mo_count_209 hl (k := 4) rfl (nI_1 _) (by decide) rfl (fun ls hl => ?_)
                                refine lv_goto (tgt := 83) S.1 S.2.1 d_Mo_count_212 (by decide) ?_
                                exact ih83 (i + 1, (a + (0 : Int32))) _ H locs ls (by omega) hw ⟨hi2, (by show (a + (0 : Int32)) = stC mem n t a0 (fC mem n t a0 i) i; rw [← ha]; unfold stC; simp only [if_pos c9, if_neg c10, if_pos c40, if_neg c46, if_neg c54, if_pos c55, if_pos c59]), rfl, lv_sub hl [3, 4, 1, 0] rfl⟩
                              · skip
                                refine lv_aload_n S.1 S.2.1 d_Mo_count_202 rfl (lv_at hl 2 rfl) ?_
                                refine u_get (v := .ref (G.2.1 11)) S hw 0 (by decide) rfl rfl in_Mo 15 (by decide) lf_Mo_40 rfl d_Mo_count_203 ?_
                                refine lv_iload_n S.1 S.2.1 d_Mo_count_206 rfl (lv_at hl 4 rfl) ?_
                                refine u_iaN S hw 11 0 (by decide) rfl rfl (j := i) rfl (by omega) (by decide) d_Mo_count_207 ?_
                                refine lv_istore_n (lv' := [(2, .int (mem 11 i)), (4, .int (0 : Int32)), (0, .ref (G.2.1 0)), (1, .int a0), (3, .int (nI i))]) S.1 S.2.1 d_Mo_count_208 rfl hl (by decide) rfl (fun ls hl => ?_)
                                refine lv_iinc (v := (nI (i + 1))) (lv' := [(3, .int (nI (i + 1))), (2, .int (mem 11 i)), (4, .int (0 : Int32)), (0, .ref (G.2.1 0)), (1, .int a0)]) S.1 S.2.1 d_Mo_count_209 hl (k := 4) rfl (nI_1 _) (by decide) rfl (fun ls hl => ?_)
                                refine lv_goto (tgt := 83) S.1 S.2.1 d_Mo_count_212 (by decide) ?_
                                exact ih83 (i + 1, (mem 11 i)) _ H locs ls (by omega) hw ⟨hi2, (by show (mem 11 i) = stC mem n t a0 (fC mem n t a0 i) i; rw [← ha]; unfold stC; simp only [if_pos c9, if_neg c10, if_pos c40, if_neg c46, if_neg c54, if_pos c55, if_neg c59]), rfl, lv_sub hl [3, 4, 1, 0] rfl⟩
                        · skip
                          refine lv_iload S.1 S.2.1 d_Mo_count_152 (lv_at hl 0 rfl) ?_
                          refine lv_if_ne (tgt := 177) S.1 S.2.1 d_Mo_count_154 (by decide) (fun c60 => ?_) (fun c60 => ?_)
                          · skip
                            exact absurd (by decide) c60
                          · skip
                            refine lv_iload_n S.1 S.2.1 d_Mo_count_157 rfl (lv_at hl 2 rfl) ?_
                            refine lv_iconst (v := (5 : Int32)) S.1 S.2.1 d_Mo_count_158 (by decide) ?_
                            refine lv_icmp_eq (tgt := 174) S.1 S.2.1 d_Mo_count_159 (by decide) (fun c61 => ?_) (fun c61 => ?_)
                            · skip
                              exact absurd c61 c46
                            · skip
                              refine lv_aload_n S.1 S.2.1 d_Mo_count_162 rfl (lv_at hl 1 rfl) ?_
                              refine u_get (v := .ref (G.2.1 8)) S hw 0 (by decide) rfl rfl in_Mo 12 (by decide) lf_Mo_31 rfl d_Mo_count_163 ?_
                              refine lv_iload_n S.1 S.2.1 d_Mo_count_166 rfl (lv_at hl 4 rfl) ?_
                              refine u_iaN S hw 8 0 (by decide) rfl rfl (j := i) rfl (by omega) (by decide) d_Mo_count_167 ?_
                              refine u_callp hw (va_runS (As := [.int (mem 8 i)]) (rest := []) S (c_Mo_isDone l (mem 8 i)) ⟨u_cB S.2.2.2.2 t_Mo_isDone ln_Mo lm_Mo_121 hd_Mo_isDone rfl rfl ⟨Nat.le_of_ble_eq_true rfl, Nat.le_of_ble_eq_true rfl⟩, S.2.2.2.2 _ lt_Mo_isDone⟩ (u_preP hw.1.2) rfl rfl hl.1 rfl (lv_room (Nat.le_of_ble_eq_true rfl)) d_Mo_count_168 ⟨Nat.zero_le _, Nat.zero_le _⟩) (fun r H locs hp hw => ?_)
                              refine u_top (y := (s_Mo_isDone (mem 8 i))) hp ?_
                              refine lv_if_eq (tgt := 177) S.1 S.2.1 d_Mo_count_171 (by decide) (fun c62 => ?_) (fun c62 => ?_)
                              · skip
                                refine lv_iload_n S.1 S.2.1 d_Mo_count_177 rfl (lv_at hl 2 rfl) ?_
                                refine lv_iconst (v := (3 : Int32)) S.1 S.2.1 d_Mo_count_178 (by decide) ?_
                                refine lv_icmp_ne (tgt := 187) S.1 S.2.1 d_Mo_count_179 (by decide) (fun c63 => ?_) (fun c63 => ?_)
                                · skip
                                  refine lv_iload_n S.1 S.2.1 d_Mo_count_187 rfl (lv_at hl 2 rfl) ?_
                                  refine lv_iconst (v := (4 : Int32)) S.1 S.2.1 d_Mo_count_188 (by decide) ?_
                                  refine lv_icmp_ne (tgt := 209) S.1 S.2.1 d_Mo_count_189 (by decide) (fun c64 => ?_) (fun c64 => ?_)
                                  · skip
                                    exact absurd c9 c64
                                  · skip
                                    refine lv_aload_n S.1 S.2.1 d_Mo_count_192 rfl (lv_at hl 1 rfl) ?_
                                    refine u_get (v := .ref (G.2.1 11)) S hw 0 (by decide) rfl rfl in_Mo 15 (by decide) lf_Mo_40 rfl d_Mo_count_193 ?_
                                    refine lv_iload_n S.1 S.2.1 d_Mo_count_196 rfl (lv_at hl 4 rfl) ?_
                                    refine u_iaN S hw 11 0 (by decide) rfl rfl (j := i) rfl (by omega) (by decide) d_Mo_count_197 ?_
                                    refine lv_iload_n S.1 S.2.1 d_Mo_count_198 rfl (lv_at hl 3 rfl) ?_
                                    refine lv_icmp_le (tgt := 209) S.1 S.2.1 d_Mo_count_199 (by decide) (fun c65 => ?_) (fun c65 => ?_)
                                    · skip
                                      refine lv_iinc (v := (nI (i + 1))) (lv' := [(3, .int (nI (i + 1))), (4, .int (0 : Int32)), (0, .ref (G.2.1 0)), (1, .int a0), (2, .int a)]) S.1 S.2.1 d_Mo_count_209 hl (k := 4) rfl (nI_1 _) (by decide) rfl (fun ls hl => ?_)
                                      refine lv_goto (tgt := 83) S.1 S.2.1 d_Mo_count_212 (by decide) ?_
                                      exact ih83 (i + 1, a) _ H locs ls (by omega) hw ⟨hi2, (by show a = stC mem n t a0 (fC mem n t a0 i) i; rw [← ha]; unfold stC; simp only [if_pos c9, if_neg c10, if_pos c40, if_neg c46, if_pos c54, if_pos c62, if_neg c63, if_pos c65]), rfl, lv_sub hl [2, 3, 4, 0] rfl⟩
                                    · skip
                                      refine lv_aload_n S.1 S.2.1 d_Mo_count_202 rfl (lv_at hl 1 rfl) ?_
                                      refine u_get (v := .ref (G.2.1 11)) S hw 0 (by decide) rfl rfl in_Mo 15 (by decide) lf_Mo_40 rfl d_Mo_count_203 ?_
                                      refine lv_iload_n S.1 S.2.1 d_Mo_count_206 rfl (lv_at hl 4 rfl) ?_
                                      refine u_iaN S hw 11 0 (by decide) rfl rfl (j := i) rfl (by omega) (by decide) d_Mo_count_207 ?_
                                      refine lv_istore_n (lv' := [(2, .int (mem 11 i)), (4, .int (0 : Int32)), (0, .ref (G.2.1 0)), (1, .int a0), (3, .int (nI i))]) S.1 S.2.1 d_Mo_count_208 rfl hl (by decide) rfl (fun ls hl => ?_)
                                      refine lv_iinc (v := (nI (i + 1))) (lv' := [(3, .int (nI (i + 1))), (2, .int (mem 11 i)), (4, .int (0 : Int32)), (0, .ref (G.2.1 0)), (1, .int a0)]) S.1 S.2.1 d_Mo_count_209 hl (k := 4) rfl (nI_1 _) (by decide) rfl (fun ls hl => ?_)
                                      refine lv_goto (tgt := 83) S.1 S.2.1 d_Mo_count_212 (by decide) ?_
                                      exact ih83 (i + 1, (mem 11 i)) _ H locs ls (by omega) hw ⟨hi2, (by show (mem 11 i) = stC mem n t a0 (fC mem n t a0 i) i; rw [← ha]; unfold stC; simp only [if_pos c9, if_neg c10, if_pos c40, if_neg c46, if_pos c54, if_pos c62, if_neg c63, if_neg c65]), rfl, lv_sub hl [3, 4, 1, 0] rfl⟩
                                · skip
                                  refine lv_iload_n S.1 S.2.1 d_Mo_count_182 rfl (lv_at hl 3 rfl) ?_
                                  refine lv_iload S.1 S.2.1 d_Mo_count_183 (lv_at hl 0 rfl) ?_
                                  refine lv_iadd S.1 S.2.1 d_Mo_count_185 ?_
                                  refine lv_istore_n (lv' := [(2, .int (a + (0 : Int32))), (4, .int (0 : Int32)), (0, .ref (G.2.1 0)), (1, .int a0), (3, .int (nI i))]) S.1 S.2.1 d_Mo_count_186 rfl hl (by decide) rfl (fun ls hl => ?_)
                                  refine lv_iload_n S.1 S.2.1 d_Mo_count_187 rfl (lv_at hl 3 rfl) ?_
                                  refine lv_iconst (v := (4 : Int32)) S.1 S.2.1 d_Mo_count_188 (by decide) ?_
                                  refine lv_icmp_ne (tgt := 209) S.1 S.2.1 d_Mo_count_189 (by decide) (fun c66 => ?_) (fun c66 => ?_)
                                  · skip
                                    exact absurd c9 c66
                                  · skip
                                    refine lv_aload_n S.1 S.2.1 d_Mo_count_192 rfl (lv_at hl 2 rfl) ?_
                                    refine u_get (v := .ref (G.2.1 11)) S hw 0 (by decide) rfl rfl in_Mo 15 (by decide) lf_Mo_40 rfl d_Mo_count_193 ?_
                                    refine lv_iload_n S.1 S.2.1 d_Mo_count_196 rfl (lv_at hl 4 rfl) ?_
                                    refine u_iaN S hw 11 0 (by decide) rfl rfl (j := i) rfl (by omega) (by decide) d_Mo_count_197 ?_
                                    refine lv_iload_n S.1 S.2.1 d_Mo_count_198 rfl (lv_at hl 0 rfl) ?_
                                    refine lv_icmp_le (tgt := 209) S.1 S.2.1 d_Mo_count_199 (by decide) (fun c67 => ?_) (fun c67 => ?_)
                                    · skip
                                      refine lv_iinc (v := (nI (i + 1))) (lv' := [(3, .int (nI (i + 1))), (2, .int (a + (0 : Int32))), (4, .int (0 : Int32)), (0, .ref (G.2.1 0)), (1, .int a0)]) S.1 S.2.1 d_Mo_count_209 hl (k := 4) rfl (nI_1 _) (by decide) rfl (fun ls hl => ?_)
                                      refine lv_goto (tgt := 83) S.1 S.2.1 d_Mo_count_212 (by decide) ?_
                                      exact ih83 (i + 1, (a + (0 : Int32))) _ H locs ls (by omega) hw ⟨hi2, (by show (a + (0 : Int32)) = stC mem n t a0 (fC mem n t a0 i) i; rw [← ha]; unfold stC; simp only [if_pos c9, if_neg c10, if_pos c40, if_neg c46, if_pos c54, if_pos c62, if_pos c63, if_pos c67]), rfl, lv_sub hl [3, 4, 1, 0] rfl⟩
                                    · skip
                                      refine lv_aload_n S.1 S.2.1 d_Mo_count_202 rfl (lv_at hl 2 rfl) ?_
                                      refine u_get (v := .ref (G.2.1 11)) S hw 0 (by decide) rfl rfl in_Mo 15 (by decide) lf_Mo_40 rfl d_Mo_count_203 ?_
                                      refine lv_iload_n S.1 S.2.1 d_Mo_count_206 rfl (lv_at hl 4 rfl) ?_
                                      refine u_iaN S hw 11 0 (by decide) rfl rfl (j := i) rfl (by omega) (by decide) d_Mo_count_207 ?_
                                      refine lv_istore_n (lv' := [(2, .int (mem 11 i)), (4, .int (0 : Int32)), (0, .ref (G.2.1 0)), (1, .int a0), (3, .int (nI i))]) S.1 S.2.1 d_Mo_count_208 rfl hl (by decide) rfl (fun ls hl => ?_)
                                      refine lv_iinc (v := (nI (i + 1))) (lv' := [(3, .int (nI (i + 1))), (2, .int (mem 11 i)), (4, .int (0 : Int32)), (0, .ref (G.2.1 0)), (1, .int a0)]) S.1 S.2.1 d_Mo_count_209 hl (k := 4) rfl (nI_1 _) (by decide) rfl (fun ls hl => ?_)
                                      refine lv_goto (tgt := 83) S.1 S.2.1 d_Mo_count_212 (by decide) ?_
                                      exact ih83 (i + 1, (mem 11 i)) _ H locs ls (by omega) hw ⟨hi2, (by show (mem 11 i) = stC mem n t a0 (fC mem n t a0 i) i; rw [← ha]; unfold stC; simp only [if_pos c9, if_neg c10, if_pos c40, if_neg c46, if_pos c54, if_pos c62, if_pos c63, if_neg c67]), rfl, lv_sub hl [3, 4, 1, 0] rfl⟩
                              · skip
                                refine lv_iinc (v := (a + (1 : Int32))) (lv' := [(2, .int (a + (1 : Int32))), (4, .int (0 : Int32)), (0, .ref (G.2.1 0)), (1, .int a0), (3, .int (nI i))]) S.1 S.2.1 d_Mo_count_174 hl (k := 3) rfl rfl (by decide) rfl (fun ls hl => ?_)
                                refine lv_iload_n S.1 S.2.1 d_Mo_count_177 rfl (lv_at hl 3 rfl) ?_
                                refine lv_iconst (v := (3 : Int32)) S.1 S.2.1 d_Mo_count_178 (by decide) ?_
                                refine lv_icmp_ne (tgt := 187) S.1 S.2.1 d_Mo_count_179 (by decide) (fun c68 => ?_) (fun c68 => ?_)
                                · skip
                                  refine lv_iload_n S.1 S.2.1 d_Mo_count_187 rfl (lv_at hl 3 rfl) ?_
                                  refine lv_iconst (v := (4 : Int32)) S.1 S.2.1 d_Mo_count_188 (by decide) ?_
                                  refine lv_icmp_ne (tgt := 209) S.1 S.2.1 d_Mo_count_189 (by decide) (fun c69 => ?_) (fun c69 => ?_)
                                  · skip
                                    exact absurd c9 c69
                                  · skip
                                    refine lv_aload_n S.1 S.2.1 d_Mo_count_192 rfl (lv_at hl 2 rfl) ?_
                                    refine u_get (v := .ref (G.2.1 11)) S hw 0 (by decide) rfl rfl in_Mo 15 (by decide) lf_Mo_40 rfl d_Mo_count_193 ?_
                                    refine lv_iload_n S.1 S.2.1 d_Mo_count_196 rfl (lv_at hl 4 rfl) ?_
                                    refine u_iaN S hw 11 0 (by decide) rfl rfl (j := i) rfl (by omega) (by decide) d_Mo_count_197 ?_
                                    refine lv_iload_n S.1 S.2.1 d_Mo_count_198 rfl (lv_at hl 0 rfl) ?_
                                    refine lv_icmp_le (tgt := 209) S.1 S.2.1 d_Mo_count_199 (by decide) (fun c70 => ?_) (fun c70 => ?_)
                                    · skip
                                      refine lv_iinc (v := (nI (i + 1))) (lv' := [(3, .int (nI (i + 1))), (2, .int (a + (1 : Int32))), (4, .int (0 : Int32)), (0, .ref (G.2.1 0)), (1, .int a0)]) S.1 S.2.1 d_Mo_count_209 hl (k := 4) rfl (nI_1 _) (by decide) rfl (fun ls hl => ?_)
                                      refine lv_goto (tgt := 83) S.1 S.2.1 d_Mo_count_212 (by decide) ?_
                                      exact ih83 (i + 1, (a + (1 : Int32))) _ H locs ls (by omega) hw ⟨hi2, (by show (a + (1 : Int32)) = stC mem n t a0 (fC mem n t a0 i) i; rw [← ha]; unfold stC; simp only [if_pos c9, if_neg c10, if_pos c40, if_neg c46, if_pos c54, if_neg c62, if_neg c68, if_pos c70]), rfl, lv_sub hl [3, 4, 1, 0] rfl⟩
                                    · skip
                                      refine lv_aload_n S.1 S.2.1 d_Mo_count_202 rfl (lv_at hl 2 rfl) ?_
                                      refine u_get (v := .ref (G.2.1 11)) S hw 0 (by decide) rfl rfl in_Mo 15 (by decide) lf_Mo_40 rfl d_Mo_count_203 ?_
                                      refine lv_iload_n S.1 S.2.1 d_Mo_count_206 rfl (lv_at hl 4 rfl) ?_
                                      refine u_iaN S hw 11 0 (by decide) rfl rfl (j := i) rfl (by omega) (by decide) d_Mo_count_207 ?_
                                      refine lv_istore_n (lv' := [(2, .int (mem 11 i)), (4, .int (0 : Int32)), (0, .ref (G.2.1 0)), (1, .int a0), (3, .int (nI i))]) S.1 S.2.1 d_Mo_count_208 rfl hl (by decide) rfl (fun ls hl => ?_)
                                      refine lv_iinc (v := (nI (i + 1))) (lv' := [(3, .int (nI (i + 1))), (2, .int (mem 11 i)), (4, .int (0 : Int32)), (0, .ref (G.2.1 0)), (1, .int a0)]) S.1 S.2.1 d_Mo_count_209 hl (k := 4) rfl (nI_1 _) (by decide) rfl (fun ls hl => ?_)
                                      refine lv_goto (tgt := 83) S.1 S.2.1 d_Mo_count_212 (by decide) ?_
                                      exact ih83 (i + 1, (mem 11 i)) _ H locs ls (by omega) hw ⟨hi2, (by show (mem 11 i) = stC mem n t a0 (fC mem n t a0 i) i; rw [← ha]; unfold stC; simp only [if_pos c9, if_neg c10, if_pos c40, if_neg c46, if_pos c54, if_neg c62, if_neg c68, if_neg c70]), rfl, lv_sub hl [3, 4, 1, 0] rfl⟩
                                · skip
                                  refine lv_iload_n S.1 S.2.1 d_Mo_count_182 rfl (lv_at hl 0 rfl) ?_
                                  refine lv_iload S.1 S.2.1 d_Mo_count_183 (lv_at hl 1 rfl) ?_
                                  refine lv_iadd S.1 S.2.1 d_Mo_count_185 ?_
                                  refine lv_istore_n (lv' := [(2, .int ((a + (1 : Int32)) + (0 : Int32))), (4, .int (0 : Int32)), (0, .ref (G.2.1 0)), (1, .int a0), (3, .int (nI i))]) S.1 S.2.1 d_Mo_count_186 rfl hl (by decide) rfl (fun ls hl => ?_)
                                  refine lv_iload_n S.1 S.2.1 d_Mo_count_187 rfl (lv_at hl 3 rfl) ?_
                                  refine lv_iconst (v := (4 : Int32)) S.1 S.2.1 d_Mo_count_188 (by decide) ?_
                                  refine lv_icmp_ne (tgt := 209) S.1 S.2.1 d_Mo_count_189 (by decide) (fun c71 => ?_) (fun c71 => ?_)
                                  · skip
                                    exact absurd c9 c71
                                  · skip
                                    refine lv_aload_n S.1 S.2.1 d_Mo_count_192 rfl (lv_at hl 2 rfl) ?_
                                    refine u_get (v := .ref (G.2.1 11)) S hw 0 (by decide) rfl rfl in_Mo 15 (by decide) lf_Mo_40 rfl d_Mo_count_193 ?_
                                    refine lv_iload_n S.1 S.2.1 d_Mo_count_196 rfl (lv_at hl 4 rfl) ?_
                                    refine u_iaN S hw 11 0 (by decide) rfl rfl (j := i) rfl (by omega) (by decide) d_Mo_count_197 ?_
                                    refine lv_iload_n S.1 S.2.1 d_Mo_count_198 rfl (lv_at hl 0 rfl) ?_
                                    refine lv_icmp_le (tgt := 209) S.1 S.2.1 d_Mo_count_199 (by decide) (fun c72 => ?_) (fun c72 => ?_)
                                    · skip
                                      refine lv_iinc (v := (nI (i + 1))) (lv' := [(3, .int (nI (i + 1))), (2, .int ((a + (1 : Int32)) + (0 : Int32))), (4, .int (0 : Int32)), (0, .ref (G.2.1 0)), (1, .int a0)]) S.1 S.2.1 d_Mo_count_209 hl (k := 4) rfl (nI_1 _) (by decide) rfl (fun ls hl => ?_)
                                      refine lv_goto (tgt := 83) S.1 S.2.1 d_Mo_count_212 (by decide) ?_
                                      exact ih83 (i + 1, ((a + (1 : Int32)) + (0 : Int32))) _ H locs ls (by omega) hw ⟨hi2, (by show ((a + (1 : Int32)) + (0 : Int32)) = stC mem n t a0 (fC mem n t a0 i) i; rw [← ha]; unfold stC; simp only [if_pos c9, if_neg c10, if_pos c40, if_neg c46, if_pos c54, if_neg c62, if_pos c68, if_pos c72]), rfl, lv_sub hl [3, 4, 1, 0] rfl⟩
                                    · skip
                                      refine lv_aload_n S.1 S.2.1 d_Mo_count_202 rfl (lv_at hl 2 rfl) ?_
                                      refine u_get (v := .ref (G.2.1 11)) S hw 0 (by decide) rfl rfl in_Mo 15 (by decide) lf_Mo_40 rfl d_Mo_count_203 ?_
                                      refine lv_iload_n S.1 S.2.1 d_Mo_count_206 rfl (lv_at hl 4 rfl) ?_
                                      refine u_iaN S hw 11 0 (by decide) rfl rfl (j := i) rfl (by omega) (by decide) d_Mo_count_207 ?_
                                      refine lv_istore_n (lv' := [(2, .int (mem 11 i)), (4, .int (0 : Int32)), (0, .ref (G.2.1 0)), (1, .int a0), (3, .int (nI i))]) S.1 S.2.1 d_Mo_count_208 rfl hl (by decide) rfl (fun ls hl => ?_)
                                      refine lv_iinc (v := (nI (i + 1))) (lv' := [(3, .int (nI (i + 1))), (2, .int (mem 11 i)), (4, .int (0 : Int32)), (0, .ref (G.2.1 0)), (1, .int a0)]) S.1 S.2.1 d_Mo_count_209 hl (k := 4) rfl (nI_1 _) (by decide) rfl (fun ls hl => ?_)
                                      refine lv_goto (tgt := 83) S.1 S.2.1 d_Mo_count_212 (by decide) ?_
                                      exact ih83 (i + 1, (mem 11 i)) _ H locs ls (by omega) hw ⟨hi2, (by show (mem 11 i) = stC mem n t a0 (fC mem n t a0 i) i; rw [← ha]; unfold stC; simp only [if_pos c9, if_neg c10, if_pos c40, if_neg c46, if_pos c54, if_neg c62, if_pos c68, if_neg c72]), rfl, lv_sub hl [3, 4, 1, 0] rfl⟩
                · skip
                  refine lv_iload_n S.1 S.2.1 d_Mo_count_96 rfl (lv_at hl 1 rfl) ?_
                  refine lv_bipush (v := (10 : Int32)) S.1 S.2.1 d_Mo_count_97 (by decide) ?_
                  refine lv_icmp_lt (tgt := 106) S.1 S.2.1 d_Mo_count_99 (by decide) (fun c73 => ?_) (fun c73 => ?_)
                  · skip
                    refine lv_aload_n S.1 S.2.1 d_Mo_count_106 rfl (lv_at hl 0 rfl) ?_
                    refine lv_aload_n S.1 S.2.1 d_Mo_count_107 rfl (lv_at hl 0 rfl) ?_
                    refine u_get (v := .ref (G.2.1 8)) S hw 0 (by decide) rfl rfl in_Mo 12 (by decide) lf_Mo_31 rfl d_Mo_count_108 ?_
                    refine lv_iload_n S.1 S.2.1 d_Mo_count_111 rfl (lv_at hl 3 rfl) ?_
                    refine u_iaN S hw 8 0 (by decide) rfl rfl (j := i) rfl (by omega) (by decide) d_Mo_count_112 ?_
                    refine u_calli hw (va_runV (As := [.int (mem 8 i)]) (rest := []) S (c_Mo_openIn l G mem (mem 8 i) n hn hnn) ⟨u_cB S.2.2.2.2 t_Mo_openIn ln_Mo lm_Mo_118 hd_Mo_openIn rfl rfl ⟨Nat.le_of_ble_eq_true rfl, Nat.le_of_ble_eq_true rfl⟩, S.2.2.2.2 _ li_Mo_openIn, S.2.2.2.2 _ ls_Mo_openIn⟩ (u_preV hw 0 (by decide) rfl rfl) rfl rfl hl.1 rfl (lv_room (Nat.le_of_ble_eq_true rfl)) d_Mo_count_113 ⟨Nat.zero_le _, Nat.zero_le _⟩) (fun r75 mem74 H locs hp hw => ?_)
                    obtain ⟨hp, rfl⟩ := hp
                    refine u_top (y := (nI (mOC mem n (mem 8 i)))) hp ?_
                    refine lv_istore (lv' := [(4, .int (nI (mOC mem n (mem 8 i)))), (0, .ref (G.2.1 0)), (1, .int a0), (2, .int a), (3, .int (nI i))]) S.1 S.2.1 d_Mo_count_116 hl (by decide) rfl (fun ls hl => ?_)
                    refine lv_iload_n S.1 S.2.1 d_Mo_count_118 rfl (lv_at hl 2 rfl) ?_
                    refine lv_bipush (v := (10 : Int32)) S.1 S.2.1 d_Mo_count_119 (by decide) ?_
                    refine lv_icmp_lt (tgt := 141) S.1 S.2.1 d_Mo_count_121 (by decide) (fun c76 => ?_) (fun c76 => ?_)
                    · skip
                      refine lv_iload_n S.1 S.2.1 d_Mo_count_141 rfl (lv_at hl 2 rfl) ?_
                      refine lv_iconst (v := (5 : Int32)) S.1 S.2.1 d_Mo_count_142 (by decide) ?_
                      refine lv_icmp_eq (tgt := 152) S.1 S.2.1 d_Mo_count_143 (by decide) (fun c77 => ?_) (fun c77 => ?_)
                      · skip
                        refine lv_iload S.1 S.2.1 d_Mo_count_152 (lv_at hl 0 rfl) ?_
                        refine lv_if_ne (tgt := 177) S.1 S.2.1 d_Mo_count_154 (by decide) (fun c78 => ?_) (fun c78 => ?_)
                        · skip
                          refine lv_iload_n S.1 S.2.1 d_Mo_count_177 rfl (lv_at hl 2 rfl) ?_
                          refine lv_iconst (v := (3 : Int32)) S.1 S.2.1 d_Mo_count_178 (by decide) ?_
                          refine lv_icmp_ne (tgt := 187) S.1 S.2.1 d_Mo_count_179 (by decide) (fun c79 => ?_) (fun c79 => ?_)
                          · skip
                            refine lv_iload_n S.1 S.2.1 d_Mo_count_187 rfl (lv_at hl 2 rfl) ?_
                            refine lv_iconst (v := (4 : Int32)) S.1 S.2.1 d_Mo_count_188 (by decide) ?_
                            refine lv_icmp_ne (tgt := 209) S.1 S.2.1 d_Mo_count_189 (by decide) (fun c80 => ?_) (fun c80 => ?_)
                            · skip
                              refine lv_iinc (v := (nI (i + 1))) (lv' := [(3, .int (nI (i + 1))), (4, .int (nI (mOC mem n (mem 8 i)))), (0, .ref (G.2.1 0)), (1, .int a0), (2, .int a)]) S.1 S.2.1 d_Mo_count_209 hl (k := 4) rfl (nI_1 _) (by decide) rfl (fun ls hl => ?_)
                              refine lv_goto (tgt := 83) S.1 S.2.1 d_Mo_count_212 (by decide) ?_
                              exact ih83 (i + 1, a) _ H locs ls (by omega) hw ⟨hi2, (by show a = stC mem n t a0 (fC mem n t a0 i) i; rw [← ha]; unfold stC; simp only [if_neg c9, if_pos c73, if_pos c77, if_neg c78, if_neg c79]), rfl, lv_sub hl [2, 3, 4, 0] rfl⟩
                            · skip
                              exact absurd c80 c9
                          · skip
                            refine lv_iload_n S.1 S.2.1 d_Mo_count_182 rfl (lv_at hl 3 rfl) ?_
                            refine lv_iload S.1 S.2.1 d_Mo_count_183 (lv_at hl 0 rfl) ?_
                            refine lv_iadd S.1 S.2.1 d_Mo_count_185 ?_
                            refine lv_istore_n (lv' := [(2, .int (a + (nI (mOC mem n (mem 8 i))))), (4, .int (nI (mOC mem n (mem 8 i)))), (0, .ref (G.2.1 0)), (1, .int a0), (3, .int (nI i))]) S.1 S.2.1 d_Mo_count_186 rfl hl (by decide) rfl (fun ls hl => ?_)
                            refine lv_iload_n S.1 S.2.1 d_Mo_count_187 rfl (lv_at hl 3 rfl) ?_
                            refine lv_iconst (v := (4 : Int32)) S.1 S.2.1 d_Mo_count_188 (by decide) ?_
                            refine lv_icmp_ne (tgt := 209) S.1 S.2.1 d_Mo_count_189 (by decide) (fun c81 => ?_) (fun c81 => ?_)
                            · skip
                              refine lv_iinc (v := (nI (i + 1))) (lv' := [(3, .int (nI (i + 1))), (2, .int (a + (nI (mOC mem n (mem 8 i))))), (4, .int (nI (mOC mem n (mem 8 i)))), (0, .ref (G.2.1 0)), (1, .int a0)]) S.1 S.2.1 d_Mo_count_209 hl (k := 4) rfl (nI_1 _) (by decide) rfl (fun ls hl => ?_)
                              refine lv_goto (tgt := 83) S.1 S.2.1 d_Mo_count_212 (by decide) ?_
                              exact ih83 (i + 1, (a + (nI (mOC mem n (mem 8 i))))) _ H locs ls (by omega) hw ⟨hi2, (by show (a + (nI (mOC mem n (mem 8 i)))) = stC mem n t a0 (fC mem n t a0 i) i; rw [← ha]; unfold stC; simp only [if_neg c9, if_pos c73, if_pos c77, if_neg c78, if_pos c79]), rfl, lv_sub hl [3, 4, 1, 0] rfl⟩
                            · skip
                              exact absurd c81 c9
                        · skip
                          refine lv_iload_n S.1 S.2.1 d_Mo_count_157 rfl (lv_at hl 2 rfl) ?_
                          refine lv_iconst (v := (5 : Int32)) S.1 S.2.1 d_Mo_count_158 (by decide) ?_
                          refine lv_icmp_eq (tgt := 174) S.1 S.2.1 d_Mo_count_159 (by decide) (fun c82 => ?_) (fun c82 => ?_)
                          · skip
                            refine lv_iinc (v := (a + (1 : Int32))) (lv' := [(2, .int (a + (1 : Int32))), (4, .int (nI (mOC mem n (mem 8 i)))), (0, .ref (G.2.1 0)), (1, .int a0), (3, .int (nI i))]) S.1 S.2.1 d_Mo_count_174 hl (k := 3) rfl rfl (by decide) rfl (fun ls hl => ?_)
                            refine lv_iload_n S.1 S.2.1 d_Mo_count_177 rfl (lv_at hl 3 rfl) ?_
                            refine lv_iconst (v := (3 : Int32)) S.1 S.2.1 d_Mo_count_178 (by decide) ?_
                            refine lv_icmp_ne (tgt := 187) S.1 S.2.1 d_Mo_count_179 (by decide) (fun c83 => ?_) (fun c83 => ?_)
                            · skip
                              refine lv_iload_n S.1 S.2.1 d_Mo_count_187 rfl (lv_at hl 3 rfl) ?_
                              refine lv_iconst (v := (4 : Int32)) S.1 S.2.1 d_Mo_count_188 (by decide) ?_
                              refine lv_icmp_ne (tgt := 209) S.1 S.2.1 d_Mo_count_189 (by decide) (fun c84 => ?_) (fun c84 => ?_)
                              · skip
                                refine lv_iinc (v := (nI (i + 1))) (lv' := [(3, .int (nI (i + 1))), (2, .int (a + (1 : Int32))), (4, .int (nI (mOC mem n (mem 8 i)))), (0, .ref (G.2.1 0)), (1, .int a0)]) S.1 S.2.1 d_Mo_count_209 hl (k := 4) rfl (nI_1 _) (by decide) rfl (fun ls hl => ?_)
                                refine lv_goto (tgt := 83) S.1 S.2.1 d_Mo_count_212 (by decide) ?_
                                exact ih83 (i + 1, (a + (1 : Int32))) _ H locs ls (by omega) hw ⟨hi2, (by show (a + (1 : Int32)) = stC mem n t a0 (fC mem n t a0 i) i; rw [← ha]; unfold stC; simp only [if_neg c9, if_pos c73, if_pos c77, if_pos c78, if_neg c83]), rfl, lv_sub hl [3, 4, 1, 0] rfl⟩
                              · skip
                                exact absurd c84 c9
                            · skip
                              refine lv_iload_n S.1 S.2.1 d_Mo_count_182 rfl (lv_at hl 0 rfl) ?_
                              refine lv_iload S.1 S.2.1 d_Mo_count_183 (lv_at hl 1 rfl) ?_
                              refine lv_iadd S.1 S.2.1 d_Mo_count_185 ?_
                              refine lv_istore_n (lv' := [(2, .int ((a + (1 : Int32)) + (nI (mOC mem n (mem 8 i))))), (4, .int (nI (mOC mem n (mem 8 i)))), (0, .ref (G.2.1 0)), (1, .int a0), (3, .int (nI i))]) S.1 S.2.1 d_Mo_count_186 rfl hl (by decide) rfl (fun ls hl => ?_)
                              refine lv_iload_n S.1 S.2.1 d_Mo_count_187 rfl (lv_at hl 3 rfl) ?_
                              refine lv_iconst (v := (4 : Int32)) S.1 S.2.1 d_Mo_count_188 (by decide) ?_
                              refine lv_icmp_ne (tgt := 209) S.1 S.2.1 d_Mo_count_189 (by decide) (fun c85 => ?_) (fun c85 => ?_)
                              · skip
                                refine lv_iinc (v := (nI (i + 1))) (lv' := [(3, .int (nI (i + 1))), (2, .int ((a + (1 : Int32)) + (nI (mOC mem n (mem 8 i))))), (4, .int (nI (mOC mem n (mem 8 i)))), (0, .ref (G.2.1 0)), (1, .int a0)]) S.1 S.2.1 d_Mo_count_209 hl (k := 4) rfl (nI_1 _) (by decide) rfl (fun ls hl => ?_)
                                refine lv_goto (tgt := 83) S.1 S.2.1 d_Mo_count_212 (by decide) ?_
                                exact ih83 (i + 1, ((a + (1 : Int32)) + (nI (mOC mem n (mem 8 i))))) _ H locs ls (by omega) hw ⟨hi2, (by show ((a + (1 : Int32)) + (nI (mOC mem n (mem 8 i)))) = stC mem n t a0 (fC mem n t a0 i) i; rw [← ha]; unfold stC; simp only [if_neg c9, if_pos c73, if_pos c77, if_pos c78, if_pos c83]), rfl, lv_sub hl [3, 4, 1, 0] rfl⟩
                              · skip
                                exact absurd c85 c9
                          · skip
                            exact absurd c77 c82
                      · skip
                        refine lv_iload_n S.1 S.2.1 d_Mo_count_146 rfl (lv_at hl 2 rfl) ?_
                        refine lv_bipush (v := (6 : Int32)) S.1 S.2.1 d_Mo_count_147 (by decide) ?_
                        refine lv_icmp_ne (tgt := 177) S.1 S.2.1 d_Mo_count_149 (by decide) (fun c86 => ?_) (fun c86 => ?_)
                        · skip
                          refine lv_iload_n S.1 S.2.1 d_Mo_count_177 rfl (lv_at hl 2 rfl) ?_
                          refine lv_iconst (v := (3 : Int32)) S.1 S.2.1 d_Mo_count_178 (by decide) ?_
                          refine lv_icmp_ne (tgt := 187) S.1 S.2.1 d_Mo_count_179 (by decide) (fun c87 => ?_) (fun c87 => ?_)
                          · skip
                            refine lv_iload_n S.1 S.2.1 d_Mo_count_187 rfl (lv_at hl 2 rfl) ?_
                            refine lv_iconst (v := (4 : Int32)) S.1 S.2.1 d_Mo_count_188 (by decide) ?_
                            refine lv_icmp_ne (tgt := 209) S.1 S.2.1 d_Mo_count_189 (by decide) (fun c88 => ?_) (fun c88 => ?_)
                            · skip
                              refine lv_iinc (v := (nI (i + 1))) (lv' := [(3, .int (nI (i + 1))), (4, .int (nI (mOC mem n (mem 8 i)))), (0, .ref (G.2.1 0)), (1, .int a0), (2, .int a)]) S.1 S.2.1 d_Mo_count_209 hl (k := 4) rfl (nI_1 _) (by decide) rfl (fun ls hl => ?_)
                              refine lv_goto (tgt := 83) S.1 S.2.1 d_Mo_count_212 (by decide) ?_
                              exact ih83 (i + 1, a) _ H locs ls (by omega) hw ⟨hi2, (by show a = stC mem n t a0 (fC mem n t a0 i) i; rw [← ha]; unfold stC; simp only [if_neg c9, if_pos c73, if_neg c77, if_neg c86, if_neg c87]), rfl, lv_sub hl [2, 3, 4, 0] rfl⟩
                            · skip
                              exact absurd c88 c9
                          · skip
                            refine lv_iload_n S.1 S.2.1 d_Mo_count_182 rfl (lv_at hl 3 rfl) ?_
                            refine lv_iload S.1 S.2.1 d_Mo_count_183 (lv_at hl 0 rfl) ?_
                            refine lv_iadd S.1 S.2.1 d_Mo_count_185 ?_
                            refine lv_istore_n (lv' := [(2, .int (a + (nI (mOC mem n (mem 8 i))))), (4, .int (nI (mOC mem n (mem 8 i)))), (0, .ref (G.2.1 0)), (1, .int a0), (3, .int (nI i))]) S.1 S.2.1 d_Mo_count_186 rfl hl (by decide) rfl (fun ls hl => ?_)
                            refine lv_iload_n S.1 S.2.1 d_Mo_count_187 rfl (lv_at hl 3 rfl) ?_
                            refine lv_iconst (v := (4 : Int32)) S.1 S.2.1 d_Mo_count_188 (by decide) ?_
                            refine lv_icmp_ne (tgt := 209) S.1 S.2.1 d_Mo_count_189 (by decide) (fun c89 => ?_) (fun c89 => ?_)
                            · skip
                              refine lv_iinc (v := (nI (i + 1))) (lv' := [(3, .int (nI (i + 1))), (2, .int (a + (nI (mOC mem n (mem 8 i))))), (4, .int (nI (mOC mem n (mem 8 i)))), (0, .ref (G.2.1 0)), (1, .int a0)]) S.1 S.2.1 d_Mo_count_209 hl (k := 4) rfl (nI_1 _) (by decide) rfl (fun ls hl => ?_)
                              refine lv_goto (tgt := 83) S.1 S.2.1 d_Mo_count_212 (by decide) ?_
                              exact ih83 (i + 1, (a + (nI (mOC mem n (mem 8 i))))) _ H locs ls (by omega) hw ⟨hi2, (by show (a + (nI (mOC mem n (mem 8 i)))) = stC mem n t a0 (fC mem n t a0 i) i; rw [← ha]; unfold stC; simp only [if_neg c9, if_pos c73, if_neg c77, if_neg c86, if_pos c87]), rfl, lv_sub hl [3, 4, 1, 0] rfl⟩
                            · skip
                              exact absurd c89 c9
                        · skip
                          refine lv_iload S.1 S.2.1 d_Mo_count_152 (lv_at hl 0 rfl) ?_
                          refine lv_if_ne (tgt := 177) S.1 S.2.1 d_Mo_count_154 (by decide) (fun c90 => ?_) (fun c90 => ?_)
                          · skip
                            refine lv_iload_n S.1 S.2.1 d_Mo_count_177 rfl (lv_at hl 2 rfl) ?_
                            refine lv_iconst (v := (3 : Int32)) S.1 S.2.1 d_Mo_count_178 (by decide) ?_
                            refine lv_icmp_ne (tgt := 187) S.1 S.2.1 d_Mo_count_179 (by decide) (fun c91 => ?_) (fun c91 => ?_)
                            · skip
                              refine lv_iload_n S.1 S.2.1 d_Mo_count_187 rfl (lv_at hl 2 rfl) ?_
                              refine lv_iconst (v := (4 : Int32)) S.1 S.2.1 d_Mo_count_188 (by decide) ?_
                              refine lv_icmp_ne (tgt := 209) S.1 S.2.1 d_Mo_count_189 (by decide) (fun c92 => ?_) (fun c92 => ?_)
                              · skip
                                refine lv_iinc (v := (nI (i + 1))) (lv' := [(3, .int (nI (i + 1))), (4, .int (nI (mOC mem n (mem 8 i)))), (0, .ref (G.2.1 0)), (1, .int a0), (2, .int a)]) S.1 S.2.1 d_Mo_count_209 hl (k := 4) rfl (nI_1 _) (by decide) rfl (fun ls hl => ?_)
                                refine lv_goto (tgt := 83) S.1 S.2.1 d_Mo_count_212 (by decide) ?_
                                exact ih83 (i + 1, a) _ H locs ls (by omega) hw ⟨hi2, (by show a = stC mem n t a0 (fC mem n t a0 i) i; rw [← ha]; unfold stC; simp only [if_neg c9, if_pos c73, if_neg c77, if_pos c86, if_neg c90, if_neg c91]), rfl, lv_sub hl [2, 3, 4, 0] rfl⟩
                              · skip
                                exact absurd c92 c9
                            · skip
                              refine lv_iload_n S.1 S.2.1 d_Mo_count_182 rfl (lv_at hl 3 rfl) ?_
                              refine lv_iload S.1 S.2.1 d_Mo_count_183 (lv_at hl 0 rfl) ?_
                              refine lv_iadd S.1 S.2.1 d_Mo_count_185 ?_
                              refine lv_istore_n (lv' := [(2, .int (a + (nI (mOC mem n (mem 8 i))))), (4, .int (nI (mOC mem n (mem 8 i)))), (0, .ref (G.2.1 0)), (1, .int a0), (3, .int (nI i))]) S.1 S.2.1 d_Mo_count_186 rfl hl (by decide) rfl (fun ls hl => ?_)
                              refine lv_iload_n S.1 S.2.1 d_Mo_count_187 rfl (lv_at hl 3 rfl) ?_
                              refine lv_iconst (v := (4 : Int32)) S.1 S.2.1 d_Mo_count_188 (by decide) ?_
                              refine lv_icmp_ne (tgt := 209) S.1 S.2.1 d_Mo_count_189 (by decide) (fun c93 => ?_) (fun c93 => ?_)
                              · skip
                                refine lv_iinc (v := (nI (i + 1))) (lv' := [(3, .int (nI (i + 1))), (2, .int (a + (nI (mOC mem n (mem 8 i))))), (4, .int (nI (mOC mem n (mem 8 i)))), (0, .ref (G.2.1 0)), (1, .int a0)]) S.1 S.2.1 d_Mo_count_209 hl (k := 4) rfl (nI_1 _) (by decide) rfl (fun ls hl => ?_)
                                refine lv_goto (tgt := 83) S.1 S.2.1 d_Mo_count_212 (by decide) ?_
                                exact ih83 (i + 1, (a + (nI (mOC mem n (mem 8 i))))) _ H locs ls (by omega) hw ⟨hi2, (by show (a + (nI (mOC mem n (mem 8 i)))) = stC mem n t a0 (fC mem n t a0 i) i; rw [← ha]; unfold stC; simp only [if_neg c9, if_pos c73, if_neg c77, if_pos c86, if_neg c90, if_pos c91]), rfl, lv_sub hl [3, 4, 1, 0] rfl⟩
                              · skip
                                exact absurd c93 c9
                          · skip
                            refine lv_iload_n S.1 S.2.1 d_Mo_count_157 rfl (lv_at hl 2 rfl) ?_
                            refine lv_iconst (v := (5 : Int32)) S.1 S.2.1 d_Mo_count_158 (by decide) ?_
                            refine lv_icmp_eq (tgt := 174) S.1 S.2.1 d_Mo_count_159 (by decide) (fun c94 => ?_) (fun c94 => ?_)
                            · skip
                              exact absurd c94 c77
                            · skip
                              refine lv_aload_n S.1 S.2.1 d_Mo_count_162 rfl (lv_at hl 1 rfl) ?_
                              refine u_get (v := .ref (G.2.1 8)) S hw 0 (by decide) rfl rfl in_Mo 12 (by decide) lf_Mo_31 rfl d_Mo_count_163 ?_
                              refine lv_iload_n S.1 S.2.1 d_Mo_count_166 rfl (lv_at hl 4 rfl) ?_
                              refine u_iaN S hw 8 0 (by decide) rfl rfl (j := i) rfl (by omega) (by decide) d_Mo_count_167 ?_
                              refine u_callp hw (va_runS (As := [.int (mem 8 i)]) (rest := []) S (c_Mo_isDone l (mem 8 i)) ⟨u_cB S.2.2.2.2 t_Mo_isDone ln_Mo lm_Mo_121 hd_Mo_isDone rfl rfl ⟨Nat.le_of_ble_eq_true rfl, Nat.le_of_ble_eq_true rfl⟩, S.2.2.2.2 _ lt_Mo_isDone⟩ (u_preP hw.1.2) rfl rfl hl.1 rfl (lv_room (Nat.le_of_ble_eq_true rfl)) d_Mo_count_168 ⟨Nat.zero_le _, Nat.zero_le _⟩) (fun r H locs hp hw => ?_)
                              refine u_top (y := (s_Mo_isDone (mem 8 i))) hp ?_
                              refine lv_if_eq (tgt := 177) S.1 S.2.1 d_Mo_count_171 (by decide) (fun c95 => ?_) (fun c95 => ?_)
                              · skip
                                refine lv_iload_n S.1 S.2.1 d_Mo_count_177 rfl (lv_at hl 2 rfl) ?_
                                refine lv_iconst (v := (3 : Int32)) S.1 S.2.1 d_Mo_count_178 (by decide) ?_
                                refine lv_icmp_ne (tgt := 187) S.1 S.2.1 d_Mo_count_179 (by decide) (fun c96 => ?_) (fun c96 => ?_)
                                · skip
                                  refine lv_iload_n S.1 S.2.1 d_Mo_count_187 rfl (lv_at hl 2 rfl) ?_
                                  refine lv_iconst (v := (4 : Int32)) S.1 S.2.1 d_Mo_count_188 (by decide) ?_
                                  refine lv_icmp_ne (tgt := 209) S.1 S.2.1 d_Mo_count_189 (by decide) (fun c97 => ?_) (fun c97 => ?_)
                                  · skip
                                    refine lv_iinc (v := (nI (i + 1))) (lv' := [(3, .int (nI (i + 1))), (4, .int (nI (mOC mem n (mem 8 i)))), (0, .ref (G.2.1 0)), (1, .int a0), (2, .int a)]) S.1 S.2.1 d_Mo_count_209 hl (k := 4) rfl (nI_1 _) (by decide) rfl (fun ls hl => ?_)
                                    refine lv_goto (tgt := 83) S.1 S.2.1 d_Mo_count_212 (by decide) ?_
                                    exact ih83 (i + 1, a) _ H locs ls (by omega) hw ⟨hi2, (by show a = stC mem n t a0 (fC mem n t a0 i) i; rw [← ha]; unfold stC; simp only [if_neg c9, if_pos c73, if_neg c77, if_pos c86, if_pos c90, if_pos c95, if_neg c96]), rfl, lv_sub hl [2, 3, 4, 0] rfl⟩
                                  · skip
                                    exact absurd c97 c9
                                · skip
                                  refine lv_iload_n S.1 S.2.1 d_Mo_count_182 rfl (lv_at hl 3 rfl) ?_
                                  refine lv_iload S.1 S.2.1 d_Mo_count_183 (lv_at hl 0 rfl) ?_
                                  refine lv_iadd S.1 S.2.1 d_Mo_count_185 ?_
                                  refine lv_istore_n (lv' := [(2, .int (a + (nI (mOC mem n (mem 8 i))))), (4, .int (nI (mOC mem n (mem 8 i)))), (0, .ref (G.2.1 0)), (1, .int a0), (3, .int (nI i))]) S.1 S.2.1 d_Mo_count_186 rfl hl (by decide) rfl (fun ls hl => ?_)
                                  refine lv_iload_n S.1 S.2.1 d_Mo_count_187 rfl (lv_at hl 3 rfl) ?_
                                  refine lv_iconst (v := (4 : Int32)) S.1 S.2.1 d_Mo_count_188 (by decide) ?_
                                  refine lv_icmp_ne (tgt := 209) S.1 S.2.1 d_Mo_count_189 (by decide) (fun c98 => ?_) (fun c98 => ?_)
                                  · skip
                                    refine lv_iinc (v := (nI (i + 1))) (lv' := [(3, .int (nI (i + 1))), (2, .int (a + (nI (mOC mem n (mem 8 i))))), (4, .int (nI (mOC mem n (mem 8 i)))), (0, .ref (G.2.1 0)), (1, .int a0)]) S.1 S.2.1 d_Mo_count_209 hl (k := 4) rfl (nI_1 _) (by decide) rfl (fun ls hl => ?_)
                                    refine lv_goto (tgt := 83) S.1 S.2.1 d_Mo_count_212 (by decide) ?_
                                    exact ih83 (i + 1, (a + (nI (mOC mem n (mem 8 i))))) _ H locs ls (by omega) hw ⟨hi2, (by show (a + (nI (mOC mem n (mem 8 i)))) = stC mem n t a0 (fC mem n t a0 i) i; rw [← ha]; unfold stC; simp only [if_neg c9, if_pos c73, if_neg c77, if_pos c86, if_pos c90, if_pos c95, if_pos c96]), rfl, lv_sub hl [3, 4, 1, 0] rfl⟩
                                  · skip
                                    exact absurd c98 c9
                              · skip
                                refine lv_iinc (v := (a + (1 : Int32))) (lv' := [(2, .int (a + (1 : Int32))), (4, .int (nI (mOC mem n (mem 8 i)))), (0, .ref (G.2.1 0)), (1, .int a0), (3, .int (nI i))]) S.1 S.2.1 d_Mo_count_174 hl (k := 3) rfl rfl (by decide) rfl (fun ls hl => ?_)
                                refine lv_iload_n S.1 S.2.1 d_Mo_count_177 rfl (lv_at hl 3 rfl) ?_
                                refine lv_iconst (v := (3 : Int32)) S.1 S.2.1 d_Mo_count_178 (by decide) ?_
                                refine lv_icmp_ne (tgt := 187) S.1 S.2.1 d_Mo_count_179 (by decide) (fun c99 => ?_) (fun c99 => ?_)
                                · skip
                                  refine lv_iload_n S.1 S.2.1 d_Mo_count_187 rfl (lv_at hl 3 rfl) ?_
                                  refine lv_iconst (v := (4 : Int32)) S.1 S.2.1 d_Mo_count_188 (by decide) ?_
                                  refine lv_icmp_ne (tgt := 209) S.1 S.2.1 d_Mo_count_189 (by decide) (fun c100 => ?_) (fun c100 => ?_)
                                  · skip
                                    refine lv_iinc (v := (nI (i + 1))) (lv' := [(3, .int (nI (i + 1))), (2, .int (a + (1 : Int32))), (4, .int (nI (mOC mem n (mem 8 i)))), (0, .ref (G.2.1 0)), (1, .int a0)]) S.1 S.2.1 d_Mo_count_209 hl (k := 4) rfl (nI_1 _) (by decide) rfl (fun ls hl => ?_)
                                    refine lv_goto (tgt := 83) S.1 S.2.1 d_Mo_count_212 (by decide) ?_
                                    exact ih83 (i + 1, (a + (1 : Int32))) _ H locs ls (by omega) hw ⟨hi2, (by show (a + (1 : Int32)) = stC mem n t a0 (fC mem n t a0 i) i; rw [← ha]; unfold stC; simp only [if_neg c9, if_pos c73, if_neg c77, if_pos c86, if_pos c90, if_neg c95, if_neg c99]), rfl, lv_sub hl [3, 4, 1, 0] rfl⟩
                                  · skip
                                    exact absurd c100 c9
                                · skip
                                  refine lv_iload_n S.1 S.2.1 d_Mo_count_182 rfl (lv_at hl 0 rfl) ?_
                                  refine lv_iload S.1 S.2.1 d_Mo_count_183 (lv_at hl 1 rfl) ?_
                                  refine lv_iadd S.1 S.2.1 d_Mo_count_185 ?_
                                  refine lv_istore_n (lv' := [(2, .int ((a + (1 : Int32)) + (nI (mOC mem n (mem 8 i))))), (4, .int (nI (mOC mem n (mem 8 i)))), (0, .ref (G.2.1 0)), (1, .int a0), (3, .int (nI i))]) S.1 S.2.1 d_Mo_count_186 rfl hl (by decide) rfl (fun ls hl => ?_)
                                  refine lv_iload_n S.1 S.2.1 d_Mo_count_187 rfl (lv_at hl 3 rfl) ?_
                                  refine lv_iconst (v := (4 : Int32)) S.1 S.2.1 d_Mo_count_188 (by decide) ?_
                                  refine lv_icmp_ne (tgt := 209) S.1 S.2.1 d_Mo_count_189 (by decide) (fun c101 => ?_) (fun c101 => ?_)
                                  · skip
                                    refine lv_iinc (v := (nI (i + 1))) (lv' := [(3, .int (nI (i + 1))), (2, .int ((a + (1 : Int32)) + (nI (mOC mem n (mem 8 i))))), (4, .int (nI (mOC mem n (mem 8 i)))), (0, .ref (G.2.1 0)), (1, .int a0)]) S.1 S.2.1 d_Mo_count_209 hl (k := 4) rfl (nI_1 _) (by decide) rfl (fun ls hl => ?_)
                                    refine lv_goto (tgt := 83) S.1 S.2.1 d_Mo_count_212 (by decide) ?_
                                    exact ih83 (i + 1, ((a + (1 : Int32)) + (nI (mOC mem n (mem 8 i))))) _ H locs ls (by omega) hw ⟨hi2, (by show ((a + (1 : Int32)) + (nI (mOC mem n (mem 8 i)))) = stC mem n t a0 (fC mem n t a0 i) i; rw [← ha]; unfold stC; simp only [if_neg c9, if_pos c73, if_neg c77, if_pos c86, if_pos c90, if_neg c95, if_pos c99]), rfl, lv_sub hl [3, 4, 1, 0] rfl⟩
                                  · skip
                                    exact absurd c101 c9
                    · skip
                      exact absurd c73 c76
                  · skip
                    refine lv_iconst (v := (0 : Int32)) S.1 S.2.1 d_Mo_count_102 (by decide) ?_
                    refine lv_goto (tgt := 116) S.1 S.2.1 d_Mo_count_103 (by decide) ?_
                    refine lv_istore (lv' := [(4, .int (0 : Int32)), (0, .ref (G.2.1 0)), (1, .int a0), (2, .int a), (3, .int (nI i))]) S.1 S.2.1 d_Mo_count_116 hl (by decide) rfl (fun ls hl => ?_)
                    refine lv_iload_n S.1 S.2.1 d_Mo_count_118 rfl (lv_at hl 2 rfl) ?_
                    refine lv_bipush (v := (10 : Int32)) S.1 S.2.1 d_Mo_count_119 (by decide) ?_
                    refine lv_icmp_lt (tgt := 141) S.1 S.2.1 d_Mo_count_121 (by decide) (fun c102 => ?_) (fun c102 => ?_)
                    · skip
                      exact absurd c102 c73
                    · skip
                      obtain ⟨j9, hj9, hzt⟩ := cnt_t10 hrng c102 hlt; obtain rfl := htt j9 hj9 hzt
                      refine lv_aload_n S.1 S.2.1 d_Mo_count_124 rfl (lv_at hl 1 rfl) ?_
                      refine lv_aload_n S.1 S.2.1 d_Mo_count_125 rfl (lv_at hl 1 rfl) ?_
                      refine u_get (v := .ref (G.2.1 8)) S hw 0 (by decide) rfl rfl in_Mo 12 (by decide) lf_Mo_31 rfl d_Mo_count_126 ?_
                      refine lv_iload_n S.1 S.2.1 d_Mo_count_129 rfl (lv_at hl 4 rfl) ?_
                      refine u_iaN S hw 8 0 (by decide) rfl rfl (j := i) rfl (by omega) (by decide) d_Mo_count_130 ?_
                      refine lv_iload_n S.1 S.2.1 d_Mo_count_131 rfl (lv_at hl 2 rfl) ?_
                      refine lv_bipush (v := (10 : Int32)) S.1 S.2.1 d_Mo_count_132 (by decide) ?_
                      refine lv_isub S.1 S.2.1 d_Mo_count_134 ?_
                      refine u_top (y := (nI t)) hzt ?_
                      refine u_calli hw (va_runV (As := [.int (mem 8 i), .int (nI t)]) (rest := []) S (c_Mo_isOpen l G mem (mem 8 i) t (by omega)) ⟨u_cB S.2.2.2.2 t_Mo_isOpen ln_Mo lm_Mo_80 hd_Mo_isOpen rfl rfl ⟨Nat.le_of_ble_eq_true rfl, Nat.le_of_ble_eq_true rfl⟩, S.2.2.2.2 _ li_Mo_isOpen, S.2.2.2.2 _ ls_Mo_isOpen⟩ (u_preV hw 0 (by decide) rfl rfl) rfl rfl hl.1 rfl (lv_room (Nat.le_of_ble_eq_true rfl)) d_Mo_count_135 ⟨Nat.zero_le _, Nat.zero_le _⟩) (fun r104 mem103 H locs hp hw => ?_)
                      obtain ⟨hp, rfl⟩ := hp
                      refine u_top (y := (s_Mo_isOpen (mem 1 t) (mem 2 t) (mem 4 t) (mem 8 i))) hp ?_
                      refine lv_if_ne (tgt := 174) S.1 S.2.1 d_Mo_count_138 (by decide) (fun c105 => ?_) (fun c105 => ?_)
                      · skip
                        refine lv_iinc (v := (a + (1 : Int32))) (lv' := [(2, .int (a + (1 : Int32))), (4, .int (0 : Int32)), (0, .ref (G.2.1 0)), (1, .int a0), (3, .int (nI i))]) S.1 S.2.1 d_Mo_count_174 hl (k := 3) rfl rfl (by decide) rfl (fun ls hl => ?_)
                        refine lv_iload_n S.1 S.2.1 d_Mo_count_177 rfl (lv_at hl 3 rfl) ?_
                        refine lv_iconst (v := (3 : Int32)) S.1 S.2.1 d_Mo_count_178 (by decide) ?_
                        refine lv_icmp_ne (tgt := 187) S.1 S.2.1 d_Mo_count_179 (by decide) (fun c106 => ?_) (fun c106 => ?_)
                        · skip
                          refine lv_iload_n S.1 S.2.1 d_Mo_count_187 rfl (lv_at hl 3 rfl) ?_
                          refine lv_iconst (v := (4 : Int32)) S.1 S.2.1 d_Mo_count_188 (by decide) ?_
                          refine lv_icmp_ne (tgt := 209) S.1 S.2.1 d_Mo_count_189 (by decide) (fun c107 => ?_) (fun c107 => ?_)
                          · skip
                            refine lv_iinc (v := (nI (i + 1))) (lv' := [(3, .int (nI (i + 1))), (2, .int (a + (1 : Int32))), (4, .int (0 : Int32)), (0, .ref (G.2.1 0)), (1, .int a0)]) S.1 S.2.1 d_Mo_count_209 hl (k := 4) rfl (nI_1 _) (by decide) rfl (fun ls hl => ?_)
                            refine lv_goto (tgt := 83) S.1 S.2.1 d_Mo_count_212 (by decide) ?_
                            exact ih83 (i + 1, (a + (1 : Int32))) _ H locs ls (by omega) hw ⟨hi2, (by show (a + (1 : Int32)) = stC mem n t a0 (fC mem n t a0 i) i; rw [← ha]; unfold stC; simp only [if_neg c9, if_neg c73, if_neg c105, if_neg c106]), rfl, lv_sub hl [3, 4, 1, 0] rfl⟩
                          · skip
                            exact absurd c107 c9
                        · skip
                          refine lv_iload_n S.1 S.2.1 d_Mo_count_182 rfl (lv_at hl 0 rfl) ?_
                          refine lv_iload S.1 S.2.1 d_Mo_count_183 (lv_at hl 1 rfl) ?_
                          refine lv_iadd S.1 S.2.1 d_Mo_count_185 ?_
                          refine lv_istore_n (lv' := [(2, .int ((a + (1 : Int32)) + (0 : Int32))), (4, .int (0 : Int32)), (0, .ref (G.2.1 0)), (1, .int a0), (3, .int (nI i))]) S.1 S.2.1 d_Mo_count_186 rfl hl (by decide) rfl (fun ls hl => ?_)
                          refine lv_iload_n S.1 S.2.1 d_Mo_count_187 rfl (lv_at hl 3 rfl) ?_
                          refine lv_iconst (v := (4 : Int32)) S.1 S.2.1 d_Mo_count_188 (by decide) ?_
                          refine lv_icmp_ne (tgt := 209) S.1 S.2.1 d_Mo_count_189 (by decide) (fun c108 => ?_) (fun c108 => ?_)
                          · skip
                            refine lv_iinc (v := (nI (i + 1))) (lv' := [(3, .int (nI (i + 1))), (2, .int ((a + (1 : Int32)) + (0 : Int32))), (4, .int (0 : Int32)), (0, .ref (G.2.1 0)), (1, .int a0)]) S.1 S.2.1 d_Mo_count_209 hl (k := 4) rfl (nI_1 _) (by decide) rfl (fun ls hl => ?_)
                            refine lv_goto (tgt := 83) S.1 S.2.1 d_Mo_count_212 (by decide) ?_
                            exact ih83 (i + 1, ((a + (1 : Int32)) + (0 : Int32))) _ H locs ls (by omega) hw ⟨hi2, (by show ((a + (1 : Int32)) + (0 : Int32)) = stC mem n t a0 (fC mem n t a0 i) i; rw [← ha]; unfold stC; simp only [if_neg c9, if_neg c73, if_neg c105, if_pos c106]), rfl, lv_sub hl [3, 4, 1, 0] rfl⟩
                          · skip
                            exact absurd c108 c9
                      · skip
                        refine lv_iload_n S.1 S.2.1 d_Mo_count_141 rfl (lv_at hl 2 rfl) ?_
                        refine lv_iconst (v := (5 : Int32)) S.1 S.2.1 d_Mo_count_142 (by decide) ?_
                        refine lv_icmp_eq (tgt := 152) S.1 S.2.1 d_Mo_count_143 (by decide) (fun c109 => ?_) (fun c109 => ?_)
                        · skip
                          refine lv_iload S.1 S.2.1 d_Mo_count_152 (lv_at hl 0 rfl) ?_
                          refine lv_if_ne (tgt := 177) S.1 S.2.1 d_Mo_count_154 (by decide) (fun c110 => ?_) (fun c110 => ?_)
                          · skip
                            exact absurd (by decide) c110
                          · skip
                            refine lv_iload_n S.1 S.2.1 d_Mo_count_157 rfl (lv_at hl 2 rfl) ?_
                            refine lv_iconst (v := (5 : Int32)) S.1 S.2.1 d_Mo_count_158 (by decide) ?_
                            refine lv_icmp_eq (tgt := 174) S.1 S.2.1 d_Mo_count_159 (by decide) (fun c111 => ?_) (fun c111 => ?_)
                            · skip
                              refine lv_iinc (v := (a + (1 : Int32))) (lv' := [(2, .int (a + (1 : Int32))), (4, .int (0 : Int32)), (0, .ref (G.2.1 0)), (1, .int a0), (3, .int (nI i))]) S.1 S.2.1 d_Mo_count_174 hl (k := 3) rfl rfl (by decide) rfl (fun ls hl => ?_)
                              refine lv_iload_n S.1 S.2.1 d_Mo_count_177 rfl (lv_at hl 3 rfl) ?_
                              refine lv_iconst (v := (3 : Int32)) S.1 S.2.1 d_Mo_count_178 (by decide) ?_
                              refine lv_icmp_ne (tgt := 187) S.1 S.2.1 d_Mo_count_179 (by decide) (fun c112 => ?_) (fun c112 => ?_)
                              · skip
                                refine lv_iload_n S.1 S.2.1 d_Mo_count_187 rfl (lv_at hl 3 rfl) ?_
                                refine lv_iconst (v := (4 : Int32)) S.1 S.2.1 d_Mo_count_188 (by decide) ?_
                                refine lv_icmp_ne (tgt := 209) S.1 S.2.1 d_Mo_count_189 (by decide) (fun c113 => ?_) (fun c113 => ?_)
                                · skip
                                  refine lv_iinc (v := (nI (i + 1))) (lv' := [(3, .int (nI (i + 1))), (2, .int (a + (1 : Int32))), (4, .int (0 : Int32)), (0, .ref (G.2.1 0)), (1, .int a0)]) S.1 S.2.1 d_Mo_count_209 hl (k := 4) rfl (nI_1 _) (by decide) rfl (fun ls hl => ?_)
                                  refine lv_goto (tgt := 83) S.1 S.2.1 d_Mo_count_212 (by decide) ?_
                                  exact ih83 (i + 1, (a + (1 : Int32))) _ H locs ls (by omega) hw ⟨hi2, (by show (a + (1 : Int32)) = stC mem n t a0 (fC mem n t a0 i) i; rw [← ha]; unfold stC; simp only [if_neg c9, if_neg c73, if_pos c105, if_pos c109, if_neg c112]), rfl, lv_sub hl [3, 4, 1, 0] rfl⟩
                                · skip
                                  exact absurd c113 c9
                              · skip
                                refine lv_iload_n S.1 S.2.1 d_Mo_count_182 rfl (lv_at hl 0 rfl) ?_
                                refine lv_iload S.1 S.2.1 d_Mo_count_183 (lv_at hl 1 rfl) ?_
                                refine lv_iadd S.1 S.2.1 d_Mo_count_185 ?_
                                refine lv_istore_n (lv' := [(2, .int ((a + (1 : Int32)) + (0 : Int32))), (4, .int (0 : Int32)), (0, .ref (G.2.1 0)), (1, .int a0), (3, .int (nI i))]) S.1 S.2.1 d_Mo_count_186 rfl hl (by decide) rfl (fun ls hl => ?_)
                                refine lv_iload_n S.1 S.2.1 d_Mo_count_187 rfl (lv_at hl 3 rfl) ?_
                                refine lv_iconst (v := (4 : Int32)) S.1 S.2.1 d_Mo_count_188 (by decide) ?_
                                refine lv_icmp_ne (tgt := 209) S.1 S.2.1 d_Mo_count_189 (by decide) (fun c114 => ?_) (fun c114 => ?_)
                                · skip
                                  refine lv_iinc (v := (nI (i + 1))) (lv' := [(3, .int (nI (i + 1))), (2, .int ((a + (1 : Int32)) + (0 : Int32))), (4, .int (0 : Int32)), (0, .ref (G.2.1 0)), (1, .int a0)]) S.1 S.2.1 d_Mo_count_209 hl (k := 4) rfl (nI_1 _) (by decide) rfl (fun ls hl => ?_)
                                  refine lv_goto (tgt := 83) S.1 S.2.1 d_Mo_count_212 (by decide) ?_
                                  exact ih83 (i + 1, ((a + (1 : Int32)) + (0 : Int32))) _ H locs ls (by omega) hw ⟨hi2, (by show ((a + (1 : Int32)) + (0 : Int32)) = stC mem n t a0 (fC mem n t a0 i) i; rw [← ha]; unfold stC; simp only [if_neg c9, if_neg c73, if_pos c105, if_pos c109, if_pos c112]), rfl, lv_sub hl [3, 4, 1, 0] rfl⟩
                                · skip
                                  exact absurd c114 c9
                            · skip
                              exact absurd c109 c111
                        · skip
                          refine lv_iload_n S.1 S.2.1 d_Mo_count_146 rfl (lv_at hl 2 rfl) ?_
                          refine lv_bipush (v := (6 : Int32)) S.1 S.2.1 d_Mo_count_147 (by decide) ?_
                          refine lv_icmp_ne (tgt := 177) S.1 S.2.1 d_Mo_count_149 (by decide) (fun c115 => ?_) (fun c115 => ?_)
                          · skip
                            refine lv_iload_n S.1 S.2.1 d_Mo_count_177 rfl (lv_at hl 2 rfl) ?_
                            refine lv_iconst (v := (3 : Int32)) S.1 S.2.1 d_Mo_count_178 (by decide) ?_
                            refine lv_icmp_ne (tgt := 187) S.1 S.2.1 d_Mo_count_179 (by decide) (fun c116 => ?_) (fun c116 => ?_)
                            · skip
                              refine lv_iload_n S.1 S.2.1 d_Mo_count_187 rfl (lv_at hl 2 rfl) ?_
                              refine lv_iconst (v := (4 : Int32)) S.1 S.2.1 d_Mo_count_188 (by decide) ?_
                              refine lv_icmp_ne (tgt := 209) S.1 S.2.1 d_Mo_count_189 (by decide) (fun c117 => ?_) (fun c117 => ?_)
                              · skip
                                refine lv_iinc (v := (nI (i + 1))) (lv' := [(3, .int (nI (i + 1))), (4, .int (0 : Int32)), (0, .ref (G.2.1 0)), (1, .int a0), (2, .int a)]) S.1 S.2.1 d_Mo_count_209 hl (k := 4) rfl (nI_1 _) (by decide) rfl (fun ls hl => ?_)
                                refine lv_goto (tgt := 83) S.1 S.2.1 d_Mo_count_212 (by decide) ?_
                                exact ih83 (i + 1, a) _ H locs ls (by omega) hw ⟨hi2, (by show a = stC mem n t a0 (fC mem n t a0 i) i; rw [← ha]; unfold stC; simp only [if_neg c9, if_neg c73, if_pos c105, if_neg c109, if_neg c115, if_neg c116]), rfl, lv_sub hl [2, 3, 4, 0] rfl⟩
                              · skip
                                exact absurd c117 c9
                            · skip
                              refine lv_iload_n S.1 S.2.1 d_Mo_count_182 rfl (lv_at hl 3 rfl) ?_
                              refine lv_iload S.1 S.2.1 d_Mo_count_183 (lv_at hl 0 rfl) ?_
                              refine lv_iadd S.1 S.2.1 d_Mo_count_185 ?_
                              refine lv_istore_n (lv' := [(2, .int (a + (0 : Int32))), (4, .int (0 : Int32)), (0, .ref (G.2.1 0)), (1, .int a0), (3, .int (nI i))]) S.1 S.2.1 d_Mo_count_186 rfl hl (by decide) rfl (fun ls hl => ?_)
                              refine lv_iload_n S.1 S.2.1 d_Mo_count_187 rfl (lv_at hl 3 rfl) ?_
                              refine lv_iconst (v := (4 : Int32)) S.1 S.2.1 d_Mo_count_188 (by decide) ?_
                              refine lv_icmp_ne (tgt := 209) S.1 S.2.1 d_Mo_count_189 (by decide) (fun c118 => ?_) (fun c118 => ?_)
                              · skip
                                refine lv_iinc (v := (nI (i + 1))) (lv' := [(3, .int (nI (i + 1))), (2, .int (a + (0 : Int32))), (4, .int (0 : Int32)), (0, .ref (G.2.1 0)), (1, .int a0)]) S.1 S.2.1 d_Mo_count_209 hl (k := 4) rfl (nI_1 _) (by decide) rfl (fun ls hl => ?_)
                                refine lv_goto (tgt := 83) S.1 S.2.1 d_Mo_count_212 (by decide) ?_
                                exact ih83 (i + 1, (a + (0 : Int32))) _ H locs ls (by omega) hw ⟨hi2, (by show (a + (0 : Int32)) = stC mem n t a0 (fC mem n t a0 i) i; rw [← ha]; unfold stC; simp only [if_neg c9, if_neg c73, if_pos c105, if_neg c109, if_neg c115, if_pos c116]), rfl, lv_sub hl [3, 4, 1, 0] rfl⟩
                              · skip
                                exact absurd c118 c9
                          · skip
                            refine lv_iload S.1 S.2.1 d_Mo_count_152 (lv_at hl 0 rfl) ?_
                            refine lv_if_ne (tgt := 177) S.1 S.2.1 d_Mo_count_154 (by decide) (fun c119 => ?_) (fun c119 => ?_)
                            · skip
                              exact absurd (by decide) c119
                            · skip
                              refine lv_iload_n S.1 S.2.1 d_Mo_count_157 rfl (lv_at hl 2 rfl) ?_
                              refine lv_iconst (v := (5 : Int32)) S.1 S.2.1 d_Mo_count_158 (by decide) ?_
                              refine lv_icmp_eq (tgt := 174) S.1 S.2.1 d_Mo_count_159 (by decide) (fun c120 => ?_) (fun c120 => ?_)
                              · skip
                                exact absurd c120 c109
                              · skip
                                refine lv_aload_n S.1 S.2.1 d_Mo_count_162 rfl (lv_at hl 1 rfl) ?_
                                refine u_get (v := .ref (G.2.1 8)) S hw 0 (by decide) rfl rfl in_Mo 12 (by decide) lf_Mo_31 rfl d_Mo_count_163 ?_
                                refine lv_iload_n S.1 S.2.1 d_Mo_count_166 rfl (lv_at hl 4 rfl) ?_
                                refine u_iaN S hw 8 0 (by decide) rfl rfl (j := i) rfl (by omega) (by decide) d_Mo_count_167 ?_
                                refine u_callp hw (va_runS (As := [.int (mem 8 i)]) (rest := []) S (c_Mo_isDone l (mem 8 i)) ⟨u_cB S.2.2.2.2 t_Mo_isDone ln_Mo lm_Mo_121 hd_Mo_isDone rfl rfl ⟨Nat.le_of_ble_eq_true rfl, Nat.le_of_ble_eq_true rfl⟩, S.2.2.2.2 _ lt_Mo_isDone⟩ (u_preP hw.1.2) rfl rfl hl.1 rfl (lv_room (Nat.le_of_ble_eq_true rfl)) d_Mo_count_168 ⟨Nat.zero_le _, Nat.zero_le _⟩) (fun r H locs hp hw => ?_)
                                refine u_top (y := (s_Mo_isDone (mem 8 i))) hp ?_
                                refine lv_if_eq (tgt := 177) S.1 S.2.1 d_Mo_count_171 (by decide) (fun c121 => ?_) (fun c121 => ?_)
                                · skip
                                  refine lv_iload_n S.1 S.2.1 d_Mo_count_177 rfl (lv_at hl 2 rfl) ?_
                                  refine lv_iconst (v := (3 : Int32)) S.1 S.2.1 d_Mo_count_178 (by decide) ?_
                                  refine lv_icmp_ne (tgt := 187) S.1 S.2.1 d_Mo_count_179 (by decide) (fun c122 => ?_) (fun c122 => ?_)
                                  · skip
                                    refine lv_iload_n S.1 S.2.1 d_Mo_count_187 rfl (lv_at hl 2 rfl) ?_
                                    refine lv_iconst (v := (4 : Int32)) S.1 S.2.1 d_Mo_count_188 (by decide) ?_
                                    refine lv_icmp_ne (tgt := 209) S.1 S.2.1 d_Mo_count_189 (by decide) (fun c123 => ?_) (fun c123 => ?_)
                                    · skip
                                      refine lv_iinc (v := (nI (i + 1))) (lv' := [(3, .int (nI (i + 1))), (4, .int (0 : Int32)), (0, .ref (G.2.1 0)), (1, .int a0), (2, .int a)]) S.1 S.2.1 d_Mo_count_209 hl (k := 4) rfl (nI_1 _) (by decide) rfl (fun ls hl => ?_)
                                      refine lv_goto (tgt := 83) S.1 S.2.1 d_Mo_count_212 (by decide) ?_
                                      exact ih83 (i + 1, a) _ H locs ls (by omega) hw ⟨hi2, (by show a = stC mem n t a0 (fC mem n t a0 i) i; rw [← ha]; unfold stC; simp only [if_neg c9, if_neg c73, if_pos c105, if_neg c109, if_pos c115, if_pos c121, if_neg c122]), rfl, lv_sub hl [2, 3, 4, 0] rfl⟩
                                    · skip
                                      exact absurd c123 c9
                                  · skip
                                    refine lv_iload_n S.1 S.2.1 d_Mo_count_182 rfl (lv_at hl 3 rfl) ?_
                                    refine lv_iload S.1 S.2.1 d_Mo_count_183 (lv_at hl 0 rfl) ?_
                                    refine lv_iadd S.1 S.2.1 d_Mo_count_185 ?_
                                    refine lv_istore_n (lv' := [(2, .int (a + (0 : Int32))), (4, .int (0 : Int32)), (0, .ref (G.2.1 0)), (1, .int a0), (3, .int (nI i))]) S.1 S.2.1 d_Mo_count_186 rfl hl (by decide) rfl (fun ls hl => ?_)
                                    refine lv_iload_n S.1 S.2.1 d_Mo_count_187 rfl (lv_at hl 3 rfl) ?_
                                    refine lv_iconst (v := (4 : Int32)) S.1 S.2.1 d_Mo_count_188 (by decide) ?_
                                    refine lv_icmp_ne (tgt := 209) S.1 S.2.1 d_Mo_count_189 (by decide) (fun c124 => ?_) (fun c124 => ?_)
                                    · skip
                                      refine lv_iinc (v := (nI (i + 1))) (lv' := [(3, .int (nI (i + 1))), (2, .int (a + (0 : Int32))), (4, .int (0 : Int32)), (0, .ref (G.2.1 0)), (1, .int a0)]) S.1 S.2.1 d_Mo_count_209 hl (k := 4) rfl (nI_1 _) (by decide) rfl (fun ls hl => ?_)
                                      refine lv_goto (tgt := 83) S.1 S.2.1 d_Mo_count_212 (by decide) ?_
                                      exact ih83 (i + 1, (a + (0 : Int32))) _ H locs ls (by omega) hw ⟨hi2, (by show (a + (0 : Int32)) = stC mem n t a0 (fC mem n t a0 i) i; rw [← ha]; unfold stC; simp only [if_neg c9, if_neg c73, if_pos c105, if_neg c109, if_pos c115, if_pos c121, if_pos c122]), rfl, lv_sub hl [3, 4, 1, 0] rfl⟩
                                    · skip
                                      exact absurd c124 c9
                                · skip
                                  refine lv_iinc (v := (a + (1 : Int32))) (lv' := [(2, .int (a + (1 : Int32))), (4, .int (0 : Int32)), (0, .ref (G.2.1 0)), (1, .int a0), (3, .int (nI i))]) S.1 S.2.1 d_Mo_count_174 hl (k := 3) rfl rfl (by decide) rfl (fun ls hl => ?_)
                                  refine lv_iload_n S.1 S.2.1 d_Mo_count_177 rfl (lv_at hl 3 rfl) ?_
                                  refine lv_iconst (v := (3 : Int32)) S.1 S.2.1 d_Mo_count_178 (by decide) ?_
                                  refine lv_icmp_ne (tgt := 187) S.1 S.2.1 d_Mo_count_179 (by decide) (fun c125 => ?_) (fun c125 => ?_)
                                  · skip
                                    refine lv_iload_n S.1 S.2.1 d_Mo_count_187 rfl (lv_at hl 3 rfl) ?_
                                    refine lv_iconst (v := (4 : Int32)) S.1 S.2.1 d_Mo_count_188 (by decide) ?_
                                    refine lv_icmp_ne (tgt := 209) S.1 S.2.1 d_Mo_count_189 (by decide) (fun c126 => ?_) (fun c126 => ?_)
                                    · skip
                                      refine lv_iinc (v := (nI (i + 1))) (lv' := [(3, .int (nI (i + 1))), (2, .int (a + (1 : Int32))), (4, .int (0 : Int32)), (0, .ref (G.2.1 0)), (1, .int a0)]) S.1 S.2.1 d_Mo_count_209 hl (k := 4) rfl (nI_1 _) (by decide) rfl (fun ls hl => ?_)
                                      refine lv_goto (tgt := 83) S.1 S.2.1 d_Mo_count_212 (by decide) ?_
                                      exact ih83 (i + 1, (a + (1 : Int32))) _ H locs ls (by omega) hw ⟨hi2, (by show (a + (1 : Int32)) = stC mem n t a0 (fC mem n t a0 i) i; rw [← ha]; unfold stC; simp only [if_neg c9, if_neg c73, if_pos c105, if_neg c109, if_pos c115, if_neg c121, if_neg c125]), rfl, lv_sub hl [3, 4, 1, 0] rfl⟩
                                    · skip
                                      exact absurd c126 c9
                                  · skip
                                    refine lv_iload_n S.1 S.2.1 d_Mo_count_182 rfl (lv_at hl 0 rfl) ?_
                                    refine lv_iload S.1 S.2.1 d_Mo_count_183 (lv_at hl 1 rfl) ?_
                                    refine lv_iadd S.1 S.2.1 d_Mo_count_185 ?_
                                    refine lv_istore_n (lv' := [(2, .int ((a + (1 : Int32)) + (0 : Int32))), (4, .int (0 : Int32)), (0, .ref (G.2.1 0)), (1, .int a0), (3, .int (nI i))]) S.1 S.2.1 d_Mo_count_186 rfl hl (by decide) rfl (fun ls hl => ?_)
                                    refine lv_iload_n S.1 S.2.1 d_Mo_count_187 rfl (lv_at hl 3 rfl) ?_
                                    refine lv_iconst (v := (4 : Int32)) S.1 S.2.1 d_Mo_count_188 (by decide) ?_
                                    refine lv_icmp_ne (tgt := 209) S.1 S.2.1 d_Mo_count_189 (by decide) (fun c127 => ?_) (fun c127 => ?_)
                                    · skip
                                      refine lv_iinc (v := (nI (i + 1))) (lv' := [(3, .int (nI (i + 1))), (2, .int ((a + (1 : Int32)) + (0 : Int32))), (4, .int (0 : Int32)), (0, .ref (G.2.1 0)), (1, .int a0)]) S.1 S.2.1 d_Mo_count_209 hl (k := 4) rfl (nI_1 _) (by decide) rfl (fun ls hl => ?_)
                                      refine lv_goto (tgt := 83) S.1 S.2.1 d_Mo_count_212 (by decide) ?_
                                      exact ih83 (i + 1, ((a + (1 : Int32)) + (0 : Int32))) _ H locs ls (by omega) hw ⟨hi2, (by show ((a + (1 : Int32)) + (0 : Int32)) = stC mem n t a0 (fC mem n t a0 i) i; rw [← ha]; unfold stC; simp only [if_neg c9, if_neg c73, if_pos c105, if_neg c109, if_pos c115, if_neg c121, if_pos c125]), rfl, lv_sub hl [3, 4, 1, 0] rfl⟩
                                    · skip
                                      exact absurd c127 c9
            · skip
              have x2 := c7
              refine lv_aload_n S.1 S.2.1 d_Mo_count_74 rfl (lv_at hl 0 rfl) ?_
              refine u_get (v := .int (mem 0 17)) S hw 0 (by decide) rfl rfl in_Mo 17 (by decide) lf_Mo_106 rfl d_Mo_count_75 ?_
              refine u_top (y := (nI k)) hkk ?_
              exact u_iret S hr hlk hw ⟨fun h => absurd h x0, fun h => absurd h x1, fun _ _ => ⟨fun h => absurd h hrng, fun _ => ⟨fun h => h.elim (fun y => absurd y h18) (fun y => absurd hlt y), fun _ _ => ⟨fun _ => rfl, fun h => absurd x2 h⟩⟩⟩, rfl⟩ d_Mo_count_78
          · skip
            have hlt := c6
            refine lv_bipush (v := (-2 : Int32)) S.1 S.2.1 d_Mo_count_66 (by decide) ?_
            exact u_iret S hr hlk hw ⟨fun h => absurd h x0, fun h => absurd h x1, fun _ _ => ⟨fun h => absurd h hrng, fun _ => ⟨fun _ => rfl, fun _ h => absurd h hlt⟩⟩, rfl⟩ d_Mo_count_68
      · skip
        have y1 := c4
        refine lv_iload_n S.1 S.2.1 d_Mo_count_35 rfl (lv_at hl 1 rfl) ?_
        refine lv_bipush (v := (10 : Int32)) S.1 S.2.1 d_Mo_count_36 (by decide) ?_
        refine lv_bipush (v := (33 : Int32)) S.1 S.2.1 d_Mo_count_38 (by decide) ?_
        refine u_callp hw (va_runS (As := [.int a0, .int (10 : Int32), .int (33 : Int32)]) (rest := []) S (c_Mo_in l a0 (10 : Int32) (33 : Int32)) ⟨u_cB S.2.2.2.2 t_Mo_in ln_Mo lm_Mo_84 hd_Mo_in rfl rfl ⟨Nat.le_of_ble_eq_true rfl, Nat.le_of_ble_eq_true rfl⟩, S.2.2.2.2 _ lt_Mo_in⟩ (u_preP hw.1.2) rfl rfl hl.1 rfl (lv_room (Nat.le_of_ble_eq_true rfl)) d_Mo_count_40 ⟨Nat.zero_le _, Nat.zero_le _⟩) (fun r H locs hp hw => ?_)
        refine u_top (y := (s_Mo_in a0 (10 : Int32) (33 : Int32))) hp ?_
        refine lv_if_ne (tgt := 48) S.1 S.2.1 d_Mo_count_43 (by decide) (fun c128 => ?_) (fun c128 => ?_)
        · skip
          have hrng : ¬ (s_Mo_in a0 2 6 = 0 ∧ s_Mo_in a0 10 33 = 0) := fun h => c128 h.2
          refine lv_aload_n S.1 S.2.1 d_Mo_count_48 rfl (lv_at hl 0 rfl) ?_
          refine u_get (v := .int (mem 0 18)) S hw 0 (by decide) rfl rfl in_Mo 18 (by decide) lf_Mo_91 rfl d_Mo_count_49 ?_
          refine lv_if_eq (tgt := 66) S.1 S.2.1 d_Mo_count_52 (by decide) (fun c129 => ?_) (fun c129 => ?_)
          · skip
            have h18 := c129
            refine lv_bipush (v := (-2 : Int32)) S.1 S.2.1 d_Mo_count_66 (by decide) ?_
            exact u_iret S hr hlk hw ⟨fun h => absurd h x0, fun h => absurd h x1, fun _ _ => ⟨fun h => absurd h hrng, fun _ => ⟨fun _ => rfl, fun h => absurd h18 h⟩⟩, rfl⟩ d_Mo_count_68
          · skip
            have h18 := c129
            refine lv_iload_n S.1 S.2.1 d_Mo_count_55 rfl (lv_at hl 1 rfl) ?_
            refine lv_bipush (v := (10 : Int32)) S.1 S.2.1 d_Mo_count_56 (by decide) ?_
            refine lv_isub S.1 S.2.1 d_Mo_count_58 ?_
            refine lv_aload_n S.1 S.2.1 d_Mo_count_59 rfl (lv_at hl 0 rfl) ?_
            refine u_get (v := .int (mem 0 7)) S hw 0 (by decide) rfl rfl in_Mo 7 (by decide) lf_Mo_77 rfl d_Mo_count_60 ?_
            refine u_top (y := (nI n)) hnn ?_
            refine lv_icmp_lt (tgt := 69) S.1 S.2.1 d_Mo_count_63 (by decide) (fun c130 => ?_) (fun c130 => ?_)
            · skip
              have hlt := c130
              refine lv_iload_n S.1 S.2.1 d_Mo_count_69 rfl (lv_at hl 1 rfl) ?_
              refine lv_iconst (v := (2 : Int32)) S.1 S.2.1 d_Mo_count_70 (by decide) ?_
              refine lv_icmp_ne (tgt := 79) S.1 S.2.1 d_Mo_count_71 (by decide) (fun c131 => ?_) (fun c131 => ?_)
              · skip
                have x2 := c131
                refine lv_iconst (v := (0 : Int32)) S.1 S.2.1 d_Mo_count_79 (by decide) ?_
                refine lv_istore_n (lv' := [(2, .int (0 : Int32)), (0, .ref (G.2.1 0)), (1, .int a0)]) S.1 S.2.1 d_Mo_count_80 rfl hl (by decide) rfl (fun ls hl => ?_)
                refine lv_iconst (v := (0 : Int32)) S.1 S.2.1 d_Mo_count_81 (by decide) ?_
                refine lv_istore_n (lv' := [(3, .int (0 : Int32)), (2, .int (0 : Int32)), (0, .ref (G.2.1 0)), (1, .int a0)]) S.1 S.2.1 d_Mo_count_82 rfl hl (by decide) rfl (fun ls hl => ?_)
                refine u_loop (σ := Nat × Int32) (fun (x : Nat × Int32) (mem_ : um_M) (ls : Array Slot) => match x with | (i, a) => (i ≤ k) ∧ (a = fC mem n t a0 i) ∧ mem = mem_ ∧ lv_has ls 5 [(0, .ref (G.2.1 0)), (1, .int a0), (2, .int a), (3, .int (nI i))]) (fun x => match x with | (i, a) => k - i) ?_ (0, 0) hw ⟨Nat.zero_le _, rfl, rfl, lv_sub hl [2, 3, 1, 0] rfl⟩
                intro x memq H locs ls hw hI ih83
                obtain ⟨i, a⟩ := x
                obtain ⟨hik, ha, rfl, hl⟩ := hI
                dsimp only at ih83
                refine lv_iload_n S.1 S.2.1 d_Mo_count_83 rfl (lv_at hl 3 rfl) ?_
                refine lv_aload_n S.1 S.2.1 d_Mo_count_84 rfl (lv_at hl 0 rfl) ?_
                refine u_get (v := .int (mem 0 17)) S hw 0 (by decide) rfl rfl in_Mo 17 (by decide) lf_Mo_106 rfl d_Mo_count_85 ?_
                refine u_top (y := (nI k)) hkk ?_
                refine lv_icmp_ge (tgt := 215) S.1 S.2.1 d_Mo_count_88 (by decide) (fun c132 => ?_) (fun c132 => ?_)
                · skip
                  have hi2 : i = k := by have y := nle c132 (by omega) (by omega); omega
                  refine lv_iload_n S.1 S.2.1 d_Mo_count_215 rfl (lv_at hl 2 rfl) ?_
                  exact u_iret S hr hlk hw ⟨fun h => absurd h x0, fun h => absurd h x1, fun _ _ => ⟨fun h => absurd h hrng, fun _ => ⟨fun h => h.elim (fun y => absurd y h18) (fun y => absurd hlt y), fun _ _ => ⟨fun h => absurd h x2, fun _ => by rw [ha, hi2]⟩⟩⟩, rfl⟩ d_Mo_count_216
                · skip
                  have hi2 : i < k := nlt c132 (by omega) (by omega)
                  refine lv_iload_n S.1 S.2.1 d_Mo_count_91 rfl (lv_at hl 1 rfl) ?_
                  refine lv_iconst (v := (4 : Int32)) S.1 S.2.1 d_Mo_count_92 (by decide) ?_
                  refine lv_icmp_eq (tgt := 102) S.1 S.2.1 d_Mo_count_93 (by decide) (fun c133 => ?_) (fun c133 => ?_)
                  · skip
                    refine lv_iconst (v := (0 : Int32)) S.1 S.2.1 d_Mo_count_102 (by decide) ?_
                    refine lv_goto (tgt := 116) S.1 S.2.1 d_Mo_count_103 (by decide) ?_
                    refine lv_istore (lv' := [(4, .int (0 : Int32)), (0, .ref (G.2.1 0)), (1, .int a0), (2, .int a), (3, .int (nI i))]) S.1 S.2.1 d_Mo_count_116 hl (by decide) rfl (fun ls hl => ?_)
                    refine lv_iload_n S.1 S.2.1 d_Mo_count_118 rfl (lv_at hl 2 rfl) ?_
                    refine lv_bipush (v := (10 : Int32)) S.1 S.2.1 d_Mo_count_119 (by decide) ?_
                    refine lv_icmp_lt (tgt := 141) S.1 S.2.1 d_Mo_count_121 (by decide) (fun c134 => ?_) (fun c134 => ?_)
                    · skip
                      refine lv_iload_n S.1 S.2.1 d_Mo_count_141 rfl (lv_at hl 2 rfl) ?_
                      refine lv_iconst (v := (5 : Int32)) S.1 S.2.1 d_Mo_count_142 (by decide) ?_
                      refine lv_icmp_eq (tgt := 152) S.1 S.2.1 d_Mo_count_143 (by decide) (fun c135 => ?_) (fun c135 => ?_)
                      · skip
                        refine lv_iload S.1 S.2.1 d_Mo_count_152 (lv_at hl 0 rfl) ?_
                        refine lv_if_ne (tgt := 177) S.1 S.2.1 d_Mo_count_154 (by decide) (fun c136 => ?_) (fun c136 => ?_)
                        · skip
                          exact absurd (by decide) c136
                        · skip
                          refine lv_iload_n S.1 S.2.1 d_Mo_count_157 rfl (lv_at hl 2 rfl) ?_
                          refine lv_iconst (v := (5 : Int32)) S.1 S.2.1 d_Mo_count_158 (by decide) ?_
                          refine lv_icmp_eq (tgt := 174) S.1 S.2.1 d_Mo_count_159 (by decide) (fun c137 => ?_) (fun c137 => ?_)
                          · skip
                            refine lv_iinc (v := (a + (1 : Int32))) (lv' := [(2, .int (a + (1 : Int32))), (4, .int (0 : Int32)), (0, .ref (G.2.1 0)), (1, .int a0), (3, .int (nI i))]) S.1 S.2.1 d_Mo_count_174 hl (k := 3) rfl rfl (by decide) rfl (fun ls hl => ?_)
                            refine lv_iload_n S.1 S.2.1 d_Mo_count_177 rfl (lv_at hl 3 rfl) ?_
                            refine lv_iconst (v := (3 : Int32)) S.1 S.2.1 d_Mo_count_178 (by decide) ?_
                            refine lv_icmp_ne (tgt := 187) S.1 S.2.1 d_Mo_count_179 (by decide) (fun c138 => ?_) (fun c138 => ?_)
                            · skip
                              refine lv_iload_n S.1 S.2.1 d_Mo_count_187 rfl (lv_at hl 3 rfl) ?_
                              refine lv_iconst (v := (4 : Int32)) S.1 S.2.1 d_Mo_count_188 (by decide) ?_
                              refine lv_icmp_ne (tgt := 209) S.1 S.2.1 d_Mo_count_189 (by decide) (fun c139 => ?_) (fun c139 => ?_)
                              · skip
                                exact absurd c133 c139
                              · skip
                                refine lv_aload_n S.1 S.2.1 d_Mo_count_192 rfl (lv_at hl 2 rfl) ?_
                                refine u_get (v := .ref (G.2.1 11)) S hw 0 (by decide) rfl rfl in_Mo 15 (by decide) lf_Mo_40 rfl d_Mo_count_193 ?_
                                refine lv_iload_n S.1 S.2.1 d_Mo_count_196 rfl (lv_at hl 4 rfl) ?_
                                refine u_iaN S hw 11 0 (by decide) rfl rfl (j := i) rfl (by omega) (by decide) d_Mo_count_197 ?_
                                refine lv_iload_n S.1 S.2.1 d_Mo_count_198 rfl (lv_at hl 0 rfl) ?_
                                refine lv_icmp_le (tgt := 209) S.1 S.2.1 d_Mo_count_199 (by decide) (fun c140 => ?_) (fun c140 => ?_)
                                · skip
                                  refine lv_iinc (v := (nI (i + 1))) (lv' := [(3, .int (nI (i + 1))), (2, .int (a + (1 : Int32))), (4, .int (0 : Int32)), (0, .ref (G.2.1 0)), (1, .int a0)]) S.1 S.2.1 d_Mo_count_209 hl (k := 4) rfl (nI_1 _) (by decide) rfl (fun ls hl => ?_)
                                  refine lv_goto (tgt := 83) S.1 S.2.1 d_Mo_count_212 (by decide) ?_
                                  exact ih83 (i + 1, (a + (1 : Int32))) _ H locs ls (by omega) hw ⟨hi2, (by show (a + (1 : Int32)) = stC mem n t a0 (fC mem n t a0 i) i; rw [← ha]; unfold stC; simp only [if_pos c133, if_pos c134, if_pos c135, if_neg c138, if_pos c140]), rfl, lv_sub hl [3, 4, 1, 0] rfl⟩
                                · skip
                                  refine lv_aload_n S.1 S.2.1 d_Mo_count_202 rfl (lv_at hl 2 rfl) ?_
                                  refine u_get (v := .ref (G.2.1 11)) S hw 0 (by decide) rfl rfl in_Mo 15 (by decide) lf_Mo_40 rfl d_Mo_count_203 ?_
                                  refine lv_iload_n S.1 S.2.1 d_Mo_count_206 rfl (lv_at hl 4 rfl) ?_
                                  refine u_iaN S hw 11 0 (by decide) rfl rfl (j := i) rfl (by omega) (by decide) d_Mo_count_207 ?_
                                  refine lv_istore_n (lv' := [(2, .int (mem 11 i)), (4, .int (0 : Int32)), (0, .ref (G.2.1 0)), (1, .int a0), (3, .int (nI i))]) S.1 S.2.1 d_Mo_count_208 rfl hl (by decide) rfl (fun ls hl => ?_)
                                  refine lv_iinc (v := (nI (i + 1))) (lv' := [(3, .int (nI (i + 1))), (2, .int (mem 11 i)), (4, .int (0 : Int32)), (0, .ref (G.2.1 0)), (1, .int a0)]) S.1 S.2.1 d_Mo_count_209 hl (k := 4) rfl (nI_1 _) (by decide) rfl (fun ls hl => ?_)
                                  refine lv_goto (tgt := 83) S.1 S.2.1 d_Mo_count_212 (by decide) ?_
                                  exact ih83 (i + 1, (mem 11 i)) _ H locs ls (by omega) hw ⟨hi2, (by show (mem 11 i) = stC mem n t a0 (fC mem n t a0 i) i; rw [← ha]; unfold stC; simp only [if_pos c133, if_pos c134, if_pos c135, if_neg c138, if_neg c140]), rfl, lv_sub hl [3, 4, 1, 0] rfl⟩
                            · skip
                              refine lv_iload_n S.1 S.2.1 d_Mo_count_182 rfl (lv_at hl 0 rfl) ?_
                              refine lv_iload S.1 S.2.1 d_Mo_count_183 (lv_at hl 1 rfl) ?_
                              refine lv_iadd S.1 S.2.1 d_Mo_count_185 ?_
                              refine lv_istore_n (lv' := [(2, .int ((a + (1 : Int32)) + (0 : Int32))), (4, .int (0 : Int32)), (0, .ref (G.2.1 0)), (1, .int a0), (3, .int (nI i))]) S.1 S.2.1 d_Mo_count_186 rfl hl (by decide) rfl (fun ls hl => ?_)
                              refine lv_iload_n S.1 S.2.1 d_Mo_count_187 rfl (lv_at hl 3 rfl) ?_
                              refine lv_iconst (v := (4 : Int32)) S.1 S.2.1 d_Mo_count_188 (by decide) ?_
                              refine lv_icmp_ne (tgt := 209) S.1 S.2.1 d_Mo_count_189 (by decide) (fun c141 => ?_) (fun c141 => ?_)
                              · skip
                                exact absurd c133 c141
                              · skip
                                refine lv_aload_n S.1 S.2.1 d_Mo_count_192 rfl (lv_at hl 2 rfl) ?_
                                refine u_get (v := .ref (G.2.1 11)) S hw 0 (by decide) rfl rfl in_Mo 15 (by decide) lf_Mo_40 rfl d_Mo_count_193 ?_
                                refine lv_iload_n S.1 S.2.1 d_Mo_count_196 rfl (lv_at hl 4 rfl) ?_
                                refine u_iaN S hw 11 0 (by decide) rfl rfl (j := i) rfl (by omega) (by decide) d_Mo_count_197 ?_
                                refine lv_iload_n S.1 S.2.1 d_Mo_count_198 rfl (lv_at hl 0 rfl) ?_
                                refine lv_icmp_le (tgt := 209) S.1 S.2.1 d_Mo_count_199 (by decide) (fun c142 => ?_) (fun c142 => ?_)
                                · skip
                                  refine lv_iinc (v := (nI (i + 1))) (lv' := [(3, .int (nI (i + 1))), (2, .int ((a + (1 : Int32)) + (0 : Int32))), (4, .int (0 : Int32)), (0, .ref (G.2.1 0)), (1, .int a0)]) S.1 S.2.1 d_Mo_count_209 hl (k := 4) rfl (nI_1 _) (by decide) rfl (fun ls hl => ?_)
                                  refine lv_goto (tgt := 83) S.1 S.2.1 d_Mo_count_212 (by decide) ?_
                                  exact ih83 (i + 1, ((a + (1 : Int32)) + (0 : Int32))) _ H locs ls (by omega) hw ⟨hi2, (by show ((a + (1 : Int32)) + (0 : Int32)) = stC mem n t a0 (fC mem n t a0 i) i; rw [← ha]; unfold stC; simp only [if_pos c133, if_pos c134, if_pos c135, if_pos c138, if_pos c142]), rfl, lv_sub hl [3, 4, 1, 0] rfl⟩
                                · skip
                                  refine lv_aload_n S.1 S.2.1 d_Mo_count_202 rfl (lv_at hl 2 rfl) ?_
                                  refine u_get (v := .ref (G.2.1 11)) S hw 0 (by decide) rfl rfl in_Mo 15 (by decide) lf_Mo_40 rfl d_Mo_count_203 ?_
                                  refine lv_iload_n S.1 S.2.1 d_Mo_count_206 rfl (lv_at hl 4 rfl) ?_
                                  refine u_iaN S hw 11 0 (by decide) rfl rfl (j := i) rfl (by omega) (by decide) d_Mo_count_207 ?_
                                  refine lv_istore_n (lv' := [(2, .int (mem 11 i)), (4, .int (0 : Int32)), (0, .ref (G.2.1 0)), (1, .int a0), (3, .int (nI i))]) S.1 S.2.1 d_Mo_count_208 rfl hl (by decide) rfl (fun ls hl => ?_)
                                  refine lv_iinc (v := (nI (i + 1))) (lv' := [(3, .int (nI (i + 1))), (2, .int (mem 11 i)), (4, .int (0 : Int32)), (0, .ref (G.2.1 0)), (1, .int a0)]) S.1 S.2.1 d_Mo_count_209 hl (k := 4) rfl (nI_1 _) (by decide) rfl (fun ls hl => ?_)
                                  refine lv_goto (tgt := 83) S.1 S.2.1 d_Mo_count_212 (by decide) ?_
                                  exact ih83 (i + 1, (mem 11 i)) _ H locs ls (by omega) hw ⟨hi2, (by show (mem 11 i) = stC mem n t a0 (fC mem n t a0 i) i; rw [← ha]; unfold stC; simp only [if_pos c133, if_pos c134, if_pos c135, if_pos c138, if_neg c142]), rfl, lv_sub hl [3, 4, 1, 0] rfl⟩
                          · skip
                            exact absurd c135 c137
                      · skip
                        refine lv_iload_n S.1 S.2.1 d_Mo_count_146 rfl (lv_at hl 2 rfl) ?_
                        refine lv_bipush (v := (6 : Int32)) S.1 S.2.1 d_Mo_count_147 (by decide) ?_
                        refine lv_icmp_ne (tgt := 177) S.1 S.2.1 d_Mo_count_149 (by decide) (fun c143 => ?_) (fun c143 => ?_)
                        · skip
                          refine lv_iload_n S.1 S.2.1 d_Mo_count_177 rfl (lv_at hl 2 rfl) ?_
                          refine lv_iconst (v := (3 : Int32)) S.1 S.2.1 d_Mo_count_178 (by decide) ?_
                          refine lv_icmp_ne (tgt := 187) S.1 S.2.1 d_Mo_count_179 (by decide) (fun c144 => ?_) (fun c144 => ?_)
                          · skip
                            refine lv_iload_n S.1 S.2.1 d_Mo_count_187 rfl (lv_at hl 2 rfl) ?_
                            refine lv_iconst (v := (4 : Int32)) S.1 S.2.1 d_Mo_count_188 (by decide) ?_
                            refine lv_icmp_ne (tgt := 209) S.1 S.2.1 d_Mo_count_189 (by decide) (fun c145 => ?_) (fun c145 => ?_)
                            · skip
                              exact absurd c133 c145
                            · skip
                              refine lv_aload_n S.1 S.2.1 d_Mo_count_192 rfl (lv_at hl 1 rfl) ?_
                              refine u_get (v := .ref (G.2.1 11)) S hw 0 (by decide) rfl rfl in_Mo 15 (by decide) lf_Mo_40 rfl d_Mo_count_193 ?_
                              refine lv_iload_n S.1 S.2.1 d_Mo_count_196 rfl (lv_at hl 4 rfl) ?_
                              refine u_iaN S hw 11 0 (by decide) rfl rfl (j := i) rfl (by omega) (by decide) d_Mo_count_197 ?_
                              refine lv_iload_n S.1 S.2.1 d_Mo_count_198 rfl (lv_at hl 3 rfl) ?_
                              refine lv_icmp_le (tgt := 209) S.1 S.2.1 d_Mo_count_199 (by decide) (fun c146 => ?_) (fun c146 => ?_)
                              · skip
                                refine lv_iinc (v := (nI (i + 1))) (lv' := [(3, .int (nI (i + 1))), (4, .int (0 : Int32)), (0, .ref (G.2.1 0)), (1, .int a0), (2, .int a)]) S.1 S.2.1 d_Mo_count_209 hl (k := 4) rfl (nI_1 _) (by decide) rfl (fun ls hl => ?_)
                                refine lv_goto (tgt := 83) S.1 S.2.1 d_Mo_count_212 (by decide) ?_
                                exact ih83 (i + 1, a) _ H locs ls (by omega) hw ⟨hi2, (by show a = stC mem n t a0 (fC mem n t a0 i) i; rw [← ha]; unfold stC; simp only [if_pos c133, if_pos c134, if_neg c135, if_neg c143, if_neg c144, if_pos c146]), rfl, lv_sub hl [2, 3, 4, 0] rfl⟩
                              · skip
                                refine lv_aload_n S.1 S.2.1 d_Mo_count_202 rfl (lv_at hl 1 rfl) ?_
                                refine u_get (v := .ref (G.2.1 11)) S hw 0 (by decide) rfl rfl in_Mo 15 (by decide) lf_Mo_40 rfl d_Mo_count_203 ?_
                                refine lv_iload_n S.1 S.2.1 d_Mo_count_206 rfl (lv_at hl 4 rfl) ?_
                                refine u_iaN S hw 11 0 (by decide) rfl rfl (j := i) rfl (by omega) (by decide) d_Mo_count_207 ?_
                                refine lv_istore_n (lv' := [(2, .int (mem 11 i)), (4, .int (0 : Int32)), (0, .ref (G.2.1 0)), (1, .int a0), (3, .int (nI i))]) S.1 S.2.1 d_Mo_count_208 rfl hl (by decide) rfl (fun ls hl => ?_)
                                refine lv_iinc (v := (nI (i + 1))) (lv' := [(3, .int (nI (i + 1))), (2, .int (mem 11 i)), (4, .int (0 : Int32)), (0, .ref (G.2.1 0)), (1, .int a0)]) S.1 S.2.1 d_Mo_count_209 hl (k := 4) rfl (nI_1 _) (by decide) rfl (fun ls hl => ?_)
                                refine lv_goto (tgt := 83) S.1 S.2.1 d_Mo_count_212 (by decide) ?_
                                exact ih83 (i + 1, (mem 11 i)) _ H locs ls (by omega) hw ⟨hi2, (by show (mem 11 i) = stC mem n t a0 (fC mem n t a0 i) i; rw [← ha]; unfold stC; simp only [if_pos c133, if_pos c134, if_neg c135, if_neg c143, if_neg c144, if_neg c146]), rfl, lv_sub hl [3, 4, 1, 0] rfl⟩
                          · skip
                            refine lv_iload_n S.1 S.2.1 d_Mo_count_182 rfl (lv_at hl 3 rfl) ?_
                            refine lv_iload S.1 S.2.1 d_Mo_count_183 (lv_at hl 0 rfl) ?_
                            refine lv_iadd S.1 S.2.1 d_Mo_count_185 ?_
                            refine lv_istore_n (lv' := [(2, .int (a + (0 : Int32))), (4, .int (0 : Int32)), (0, .ref (G.2.1 0)), (1, .int a0), (3, .int (nI i))]) S.1 S.2.1 d_Mo_count_186 rfl hl (by decide) rfl (fun ls hl => ?_)
                            refine lv_iload_n S.1 S.2.1 d_Mo_count_187 rfl (lv_at hl 3 rfl) ?_
                            refine lv_iconst (v := (4 : Int32)) S.1 S.2.1 d_Mo_count_188 (by decide) ?_
                            refine lv_icmp_ne (tgt := 209) S.1 S.2.1 d_Mo_count_189 (by decide) (fun c147 => ?_) (fun c147 => ?_)
                            · skip
                              exact absurd c133 c147
                            · skip
                              refine lv_aload_n S.1 S.2.1 d_Mo_count_192 rfl (lv_at hl 2 rfl) ?_
                              refine u_get (v := .ref (G.2.1 11)) S hw 0 (by decide) rfl rfl in_Mo 15 (by decide) lf_Mo_40 rfl d_Mo_count_193 ?_
                              refine lv_iload_n S.1 S.2.1 d_Mo_count_196 rfl (lv_at hl 4 rfl) ?_
                              refine u_iaN S hw 11 0 (by decide) rfl rfl (j := i) rfl (by omega) (by decide) d_Mo_count_197 ?_
                              refine lv_iload_n S.1 S.2.1 d_Mo_count_198 rfl (lv_at hl 0 rfl) ?_
                              refine lv_icmp_le (tgt := 209) S.1 S.2.1 d_Mo_count_199 (by decide) (fun c148 => ?_) (fun c148 => ?_)
                              · skip
                                refine lv_iinc (v := (nI (i + 1))) (lv' := [(3, .int (nI (i + 1))), (2, .int (a + (0 : Int32))), (4, .int (0 : Int32)), (0, .ref (G.2.1 0)), (1, .int a0)]) S.1 S.2.1 d_Mo_count_209 hl (k := 4) rfl (nI_1 _) (by decide) rfl (fun ls hl => ?_)
                                refine lv_goto (tgt := 83) S.1 S.2.1 d_Mo_count_212 (by decide) ?_
                                exact ih83 (i + 1, (a + (0 : Int32))) _ H locs ls (by omega) hw ⟨hi2, (by show (a + (0 : Int32)) = stC mem n t a0 (fC mem n t a0 i) i; rw [← ha]; unfold stC; simp only [if_pos c133, if_pos c134, if_neg c135, if_neg c143, if_pos c144, if_pos c148]), rfl, lv_sub hl [3, 4, 1, 0] rfl⟩
                              · skip
                                refine lv_aload_n S.1 S.2.1 d_Mo_count_202 rfl (lv_at hl 2 rfl) ?_
                                refine u_get (v := .ref (G.2.1 11)) S hw 0 (by decide) rfl rfl in_Mo 15 (by decide) lf_Mo_40 rfl d_Mo_count_203 ?_
                                refine lv_iload_n S.1 S.2.1 d_Mo_count_206 rfl (lv_at hl 4 rfl) ?_
                                refine u_iaN S hw 11 0 (by decide) rfl rfl (j := i) rfl (by omega) (by decide) d_Mo_count_207 ?_
                                refine lv_istore_n (lv' := [(2, .int (mem 11 i)), (4, .int (0 : Int32)), (0, .ref (G.2.1 0)), (1, .int a0), (3, .int (nI i))]) S.1 S.2.1 d_Mo_count_208 rfl hl (by decide) rfl (fun ls hl => ?_)
                                refine lv_iinc (v := (nI (i + 1))) (lv' := [(3, .int (nI (i + 1))), (2, .int (mem 11 i)), (4, .int (0 : Int32)), (0, .ref (G.2.1 0)), (1, .int a0)]) S.1 S.2.1 d_Mo_count_209 hl (k := 4) rfl (nI_1 _) (by decide) rfl (fun ls hl => ?_)
                                refine lv_goto (tgt := 83) S.1 S.2.1 d_Mo_count_212 (by decide) ?_
                                exact ih83 (i + 1, (mem 11 i)) _ H locs ls (by omega) hw ⟨hi2, (by show (mem 11 i) = stC mem n t a0 (fC mem n t a0 i) i; rw [← ha]; unfold stC; simp only [if_pos c133, if_pos c134, if_neg c135, if_neg c143, if_pos c144, if_neg c148]), rfl, lv_sub hl [3, 4, 1, 0] rfl⟩
                        · skip
                          refine lv_iload S.1 S.2.1 d_Mo_count_152 (lv_at hl 0 rfl) ?_
                          refine lv_if_ne (tgt := 177) S.1 S.2.1 d_Mo_count_154 (by decide) (fun c149 => ?_) (fun c149 => ?_)
                          · skip
                            exact absurd (by decide) c149
                          · skip
                            refine lv_iload_n S.1 S.2.1 d_Mo_count_157 rfl (lv_at hl 2 rfl) ?_
                            refine lv_iconst (v := (5 : Int32)) S.1 S.2.1 d_Mo_count_158 (by decide) ?_
                            refine lv_icmp_eq (tgt := 174) S.1 S.2.1 d_Mo_count_159 (by decide) (fun c150 => ?_) (fun c150 => ?_)
                            · skip
                              exact absurd c150 c135
                            · skip
                              refine lv_aload_n S.1 S.2.1 d_Mo_count_162 rfl (lv_at hl 1 rfl) ?_
                              refine u_get (v := .ref (G.2.1 8)) S hw 0 (by decide) rfl rfl in_Mo 12 (by decide) lf_Mo_31 rfl d_Mo_count_163 ?_
                              refine lv_iload_n S.1 S.2.1 d_Mo_count_166 rfl (lv_at hl 4 rfl) ?_
                              refine u_iaN S hw 8 0 (by decide) rfl rfl (j := i) rfl (by omega) (by decide) d_Mo_count_167 ?_
                              refine u_callp hw (va_runS (As := [.int (mem 8 i)]) (rest := []) S (c_Mo_isDone l (mem 8 i)) ⟨u_cB S.2.2.2.2 t_Mo_isDone ln_Mo lm_Mo_121 hd_Mo_isDone rfl rfl ⟨Nat.le_of_ble_eq_true rfl, Nat.le_of_ble_eq_true rfl⟩, S.2.2.2.2 _ lt_Mo_isDone⟩ (u_preP hw.1.2) rfl rfl hl.1 rfl (lv_room (Nat.le_of_ble_eq_true rfl)) d_Mo_count_168 ⟨Nat.zero_le _, Nat.zero_le _⟩) (fun r H locs hp hw => ?_)
                              refine u_top (y := (s_Mo_isDone (mem 8 i))) hp ?_
                              refine lv_if_eq (tgt := 177) S.1 S.2.1 d_Mo_count_171 (by decide) (fun c151 => ?_) (fun c151 => ?_)
                              · skip
                                refine lv_iload_n S.1 S.2.1 d_Mo_count_177 rfl (lv_at hl 2 rfl) ?_
                                refine lv_iconst (v := (3 : Int32)) S.1 S.2.1 d_Mo_count_178 (by decide) ?_
                                refine lv_icmp_ne (tgt := 187) S.1 S.2.1 d_Mo_count_179 (by decide) (fun c152 => ?_) (fun c152 => ?_)
                                · skip
                                  refine lv_iload_n S.1 S.2.1 d_Mo_count_187 rfl (lv_at hl 2 rfl) ?_
                                  refine lv_iconst (v := (4 : Int32)) S.1 S.2.1 d_Mo_count_188 (by decide) ?_
                                  refine lv_icmp_ne (tgt := 209) S.1 S.2.1 d_Mo_count_189 (by decide) (fun c153 => ?_) (fun c153 => ?_)
                                  · skip
                                    exact absurd c133 c153
                                  · skip
                                    refine lv_aload_n S.1 S.2.1 d_Mo_count_192 rfl (lv_at hl 1 rfl) ?_
                                    refine u_get (v := .ref (G.2.1 11)) S hw 0 (by decide) rfl rfl in_Mo 15 (by decide) lf_Mo_40 rfl d_Mo_count_193 ?_
                                    refine lv_iload_n S.1 S.2.1 d_Mo_count_196 rfl (lv_at hl 4 rfl) ?_
                                    refine u_iaN S hw 11 0 (by decide) rfl rfl (j := i) rfl (by omega) (by decide) d_Mo_count_197 ?_
                                    refine lv_iload_n S.1 S.2.1 d_Mo_count_198 rfl (lv_at hl 3 rfl) ?_
                                    refine lv_icmp_le (tgt := 209) S.1 S.2.1 d_Mo_count_199 (by decide) (fun c154 => ?_) (fun c154 => ?_)
                                    · skip
                                      refine lv_iinc (v := (nI (i + 1))) (lv' := [(3, .int (nI (i + 1))), (4, .int (0 : Int32)), (0, .ref (G.2.1 0)), (1, .int a0), (2, .int a)]) S.1 S.2.1 d_Mo_count_209 hl (k := 4) rfl (nI_1 _) (by decide) rfl (fun ls hl => ?_)
                                      refine lv_goto (tgt := 83) S.1 S.2.1 d_Mo_count_212 (by decide) ?_
                                      exact ih83 (i + 1, a) _ H locs ls (by omega) hw ⟨hi2, (by show a = stC mem n t a0 (fC mem n t a0 i) i; rw [← ha]; unfold stC; simp only [if_pos c133, if_pos c134, if_neg c135, if_pos c143, if_pos c151, if_neg c152, if_pos c154]), rfl, lv_sub hl [2, 3, 4, 0] rfl⟩
                                    · skip
                                      refine lv_aload_n S.1 S.2.1 d_Mo_count_202 rfl (lv_at hl 1 rfl) ?_
                                      refine u_get (v := .ref (G.2.1 11)) S hw 0 (by decide) rfl rfl in_Mo 15 (by decide) lf_Mo_40 rfl d_Mo_count_203 ?_
                                      refine lv_iload_n S.1 S.2.1 d_Mo_count_206 rfl (lv_at hl 4 rfl) ?_
                                      refine u_iaN S hw 11 0 (by decide) rfl rfl (j := i) rfl (by omega) (by decide) d_Mo_count_207 ?_
                                      refine lv_istore_n (lv' := [(2, .int (mem 11 i)), (4, .int (0 : Int32)), (0, .ref (G.2.1 0)), (1, .int a0), (3, .int (nI i))]) S.1 S.2.1 d_Mo_count_208 rfl hl (by decide) rfl (fun ls hl => ?_)
                                      refine lv_iinc (v := (nI (i + 1))) (lv' := [(3, .int (nI (i + 1))), (2, .int (mem 11 i)), (4, .int (0 : Int32)), (0, .ref (G.2.1 0)), (1, .int a0)]) S.1 S.2.1 d_Mo_count_209 hl (k := 4) rfl (nI_1 _) (by decide) rfl (fun ls hl => ?_)
                                      refine lv_goto (tgt := 83) S.1 S.2.1 d_Mo_count_212 (by decide) ?_
                                      exact ih83 (i + 1, (mem 11 i)) _ H locs ls (by omega) hw ⟨hi2, (by show (mem 11 i) = stC mem n t a0 (fC mem n t a0 i) i; rw [← ha]; unfold stC; simp only [if_pos c133, if_pos c134, if_neg c135, if_pos c143, if_pos c151, if_neg c152, if_neg c154]), rfl, lv_sub hl [3, 4, 1, 0] rfl⟩
                                · skip
                                  refine lv_iload_n S.1 S.2.1 d_Mo_count_182 rfl (lv_at hl 3 rfl) ?_
                                  refine lv_iload S.1 S.2.1 d_Mo_count_183 (lv_at hl 0 rfl) ?_
                                  refine lv_iadd S.1 S.2.1 d_Mo_count_185 ?_
                                  refine lv_istore_n (lv' := [(2, .int (a + (0 : Int32))), (4, .int (0 : Int32)), (0, .ref (G.2.1 0)), (1, .int a0), (3, .int (nI i))]) S.1 S.2.1 d_Mo_count_186 rfl hl (by decide) rfl (fun ls hl => ?_)
                                  refine lv_iload_n S.1 S.2.1 d_Mo_count_187 rfl (lv_at hl 3 rfl) ?_
                                  refine lv_iconst (v := (4 : Int32)) S.1 S.2.1 d_Mo_count_188 (by decide) ?_
                                  refine lv_icmp_ne (tgt := 209) S.1 S.2.1 d_Mo_count_189 (by decide) (fun c155 => ?_) (fun c155 => ?_)
                                  · skip
                                    exact absurd c133 c155
                                  · skip
                                    refine lv_aload_n S.1 S.2.1 d_Mo_count_192 rfl (lv_at hl 2 rfl) ?_
                                    refine u_get (v := .ref (G.2.1 11)) S hw 0 (by decide) rfl rfl in_Mo 15 (by decide) lf_Mo_40 rfl d_Mo_count_193 ?_
                                    refine lv_iload_n S.1 S.2.1 d_Mo_count_196 rfl (lv_at hl 4 rfl) ?_
                                    refine u_iaN S hw 11 0 (by decide) rfl rfl (j := i) rfl (by omega) (by decide) d_Mo_count_197 ?_
                                    refine lv_iload_n S.1 S.2.1 d_Mo_count_198 rfl (lv_at hl 0 rfl) ?_
                                    refine lv_icmp_le (tgt := 209) S.1 S.2.1 d_Mo_count_199 (by decide) (fun c156 => ?_) (fun c156 => ?_)
                                    · skip
                                      refine lv_iinc (v := (nI (i + 1))) (lv' := [(3, .int (nI (i + 1))), (2, .int (a + (0 : Int32))), (4, .int (0 : Int32)), (0, .ref (G.2.1 0)), (1, .int a0)]) S.1 S.2.1 d_Mo_count_209 hl (k := 4) rfl (nI_1 _) (by decide) rfl (fun ls hl => ?_)
                                      refine lv_goto (tgt := 83) S.1 S.2.1 d_Mo_count_212 (by decide) ?_
                                      exact ih83 (i + 1, (a + (0 : Int32))) _ H locs ls (by omega) hw ⟨hi2, (by show (a + (0 : Int32)) = stC mem n t a0 (fC mem n t a0 i) i; rw [← ha]; unfold stC; simp only [if_pos c133, if_pos c134, if_neg c135, if_pos c143, if_pos c151, if_pos c152, if_pos c156]), rfl, lv_sub hl [3, 4, 1, 0] rfl⟩
                                    · skip
                                      refine lv_aload_n S.1 S.2.1 d_Mo_count_202 rfl (lv_at hl 2 rfl) ?_
                                      refine u_get (v := .ref (G.2.1 11)) S hw 0 (by decide) rfl rfl in_Mo 15 (by decide) lf_Mo_40 rfl d_Mo_count_203 ?_
                                      refine lv_iload_n S.1 S.2.1 d_Mo_count_206 rfl (lv_at hl 4 rfl) ?_
                                      refine u_iaN S hw 11 0 (by decide) rfl rfl (j := i) rfl (by omega) (by decide) d_Mo_count_207 ?_
                                      refine lv_istore_n (lv' := [(2, .int (mem 11 i)), (4, .int (0 : Int32)), (0, .ref (G.2.1 0)), (1, .int a0), (3, .int (nI i))]) S.1 S.2.1 d_Mo_count_208 rfl hl (by decide) rfl (fun ls hl => ?_)
                                      refine lv_iinc (v := (nI (i + 1))) (lv' := [(3, .int (nI (i + 1))), (2, .int (mem 11 i)), (4, .int (0 : Int32)), (0, .ref (G.2.1 0)), (1, .int a0)]) S.1 S.2.1 d_Mo_count_209 hl (k := 4) rfl (nI_1 _) (by decide) rfl (fun ls hl => ?_)
                                      refine lv_goto (tgt := 83) S.1 S.2.1 d_Mo_count_212 (by decide) ?_
                                      exact ih83 (i + 1, (mem 11 i)) _ H locs ls (by omega) hw ⟨hi2, (by show (mem 11 i) = stC mem n t a0 (fC mem n t a0 i) i; rw [← ha]; unfold stC; simp only [if_pos c133, if_pos c134, if_neg c135, if_pos c143, if_pos c151, if_pos c152, if_neg c156]), rfl, lv_sub hl [3, 4, 1, 0] rfl⟩
                              · skip
                                refine lv_iinc (v := (a + (1 : Int32))) (lv' := [(2, .int (a + (1 : Int32))), (4, .int (0 : Int32)), (0, .ref (G.2.1 0)), (1, .int a0), (3, .int (nI i))]) S.1 S.2.1 d_Mo_count_174 hl (k := 3) rfl rfl (by decide) rfl (fun ls hl => ?_)
                                refine lv_iload_n S.1 S.2.1 d_Mo_count_177 rfl (lv_at hl 3 rfl) ?_
                                refine lv_iconst (v := (3 : Int32)) S.1 S.2.1 d_Mo_count_178 (by decide) ?_
                                refine lv_icmp_ne (tgt := 187) S.1 S.2.1 d_Mo_count_179 (by decide) (fun c157 => ?_) (fun c157 => ?_)
                                · skip
                                  refine lv_iload_n S.1 S.2.1 d_Mo_count_187 rfl (lv_at hl 3 rfl) ?_
                                  refine lv_iconst (v := (4 : Int32)) S.1 S.2.1 d_Mo_count_188 (by decide) ?_
                                  refine lv_icmp_ne (tgt := 209) S.1 S.2.1 d_Mo_count_189 (by decide) (fun c158 => ?_) (fun c158 => ?_)
                                  · skip
                                    exact absurd c133 c158
                                  · skip
                                    refine lv_aload_n S.1 S.2.1 d_Mo_count_192 rfl (lv_at hl 2 rfl) ?_
                                    refine u_get (v := .ref (G.2.1 11)) S hw 0 (by decide) rfl rfl in_Mo 15 (by decide) lf_Mo_40 rfl d_Mo_count_193 ?_
                                    refine lv_iload_n S.1 S.2.1 d_Mo_count_196 rfl (lv_at hl 4 rfl) ?_
                                    refine u_iaN S hw 11 0 (by decide) rfl rfl (j := i) rfl (by omega) (by decide) d_Mo_count_197 ?_
                                    refine lv_iload_n S.1 S.2.1 d_Mo_count_198 rfl (lv_at hl 0 rfl) ?_
                                    refine lv_icmp_le (tgt := 209) S.1 S.2.1 d_Mo_count_199 (by decide) (fun c159 => ?_) (fun c159 => ?_)
                                    · skip
                                      refine lv_iinc (v := (nI (i + 1))) (lv' := [(3, .int (nI (i + 1))), (2, .int (a + (1 : Int32))), (4, .int (0 : Int32)), (0, .ref (G.2.1 0)), (1, .int a0)]) S.1 S.2.1 d_Mo_count_209 hl (k := 4) rfl (nI_1 _) (by decide) rfl (fun ls hl => ?_)
                                      refine lv_goto (tgt := 83) S.1 S.2.1 d_Mo_count_212 (by decide) ?_
                                      exact ih83 (i + 1, (a + (1 : Int32))) _ H locs ls (by omega) hw ⟨hi2, (by show (a + (1 : Int32)) = stC mem n t a0 (fC mem n t a0 i) i; rw [← ha]; unfold stC; simp only [if_pos c133, if_pos c134, if_neg c135, if_pos c143, if_neg c151, if_neg c157, if_pos c159]), rfl, lv_sub hl [3, 4, 1, 0] rfl⟩
                                    · skip
                                      refine lv_aload_n S.1 S.2.1 d_Mo_count_202 rfl (lv_at hl 2 rfl) ?_
                                      refine u_get (v := .ref (G.2.1 11)) S hw 0 (by decide) rfl rfl in_Mo 15 (by decide) lf_Mo_40 rfl d_Mo_count_203 ?_
                                      refine lv_iload_n S.1 S.2.1 d_Mo_count_206 rfl (lv_at hl 4 rfl) ?_
                                      refine u_iaN S hw 11 0 (by decide) rfl rfl (j := i) rfl (by omega) (by decide) d_Mo_count_207 ?_
                                      refine lv_istore_n (lv' := [(2, .int (mem 11 i)), (4, .int (0 : Int32)), (0, .ref (G.2.1 0)), (1, .int a0), (3, .int (nI i))]) S.1 S.2.1 d_Mo_count_208 rfl hl (by decide) rfl (fun ls hl => ?_)
                                      refine lv_iinc (v := (nI (i + 1))) (lv' := [(3, .int (nI (i + 1))), (2, .int (mem 11 i)), (4, .int (0 : Int32)), (0, .ref (G.2.1 0)), (1, .int a0)]) S.1 S.2.1 d_Mo_count_209 hl (k := 4) rfl (nI_1 _) (by decide) rfl (fun ls hl => ?_)
                                      refine lv_goto (tgt := 83) S.1 S.2.1 d_Mo_count_212 (by decide) ?_
                                      exact ih83 (i + 1, (mem 11 i)) _ H locs ls (by omega) hw ⟨hi2, (by show (mem 11 i) = stC mem n t a0 (fC mem n t a0 i) i; rw [← ha]; unfold stC; simp only [if_pos c133, if_pos c134, if_neg c135, if_pos c143, if_neg c151, if_neg c157, if_neg c159]), rfl, lv_sub hl [3, 4, 1, 0] rfl⟩
                                · skip
                                  refine lv_iload_n S.1 S.2.1 d_Mo_count_182 rfl (lv_at hl 0 rfl) ?_
                                  refine lv_iload S.1 S.2.1 d_Mo_count_183 (lv_at hl 1 rfl) ?_
                                  refine lv_iadd S.1 S.2.1 d_Mo_count_185 ?_
                                  refine lv_istore_n (lv' := [(2, .int ((a + (1 : Int32)) + (0 : Int32))), (4, .int (0 : Int32)), (0, .ref (G.2.1 0)), (1, .int a0), (3, .int (nI i))]) S.1 S.2.1 d_Mo_count_186 rfl hl (by decide) rfl (fun ls hl => ?_)
                                  refine lv_iload_n S.1 S.2.1 d_Mo_count_187 rfl (lv_at hl 3 rfl) ?_
                                  refine lv_iconst (v := (4 : Int32)) S.1 S.2.1 d_Mo_count_188 (by decide) ?_
                                  refine lv_icmp_ne (tgt := 209) S.1 S.2.1 d_Mo_count_189 (by decide) (fun c160 => ?_) (fun c160 => ?_)
                                  · skip
                                    exact absurd c133 c160
                                  · skip
                                    refine lv_aload_n S.1 S.2.1 d_Mo_count_192 rfl (lv_at hl 2 rfl) ?_
                                    refine u_get (v := .ref (G.2.1 11)) S hw 0 (by decide) rfl rfl in_Mo 15 (by decide) lf_Mo_40 rfl d_Mo_count_193 ?_
                                    refine lv_iload_n S.1 S.2.1 d_Mo_count_196 rfl (lv_at hl 4 rfl) ?_
                                    refine u_iaN S hw 11 0 (by decide) rfl rfl (j := i) rfl (by omega) (by decide) d_Mo_count_197 ?_
                                    refine lv_iload_n S.1 S.2.1 d_Mo_count_198 rfl (lv_at hl 0 rfl) ?_
                                    refine lv_icmp_le (tgt := 209) S.1 S.2.1 d_Mo_count_199 (by decide) (fun c161 => ?_) (fun c161 => ?_)
                                    · skip
                                      refine lv_iinc (v := (nI (i + 1))) (lv' := [(3, .int (nI (i + 1))), (2, .int ((a + (1 : Int32)) + (0 : Int32))), (4, .int (0 : Int32)), (0, .ref (G.2.1 0)), (1, .int a0)]) S.1 S.2.1 d_Mo_count_209 hl (k := 4) rfl (nI_1 _) (by decide) rfl (fun ls hl => ?_)
                                      refine lv_goto (tgt := 83) S.1 S.2.1 d_Mo_count_212 (by decide) ?_
                                      exact ih83 (i + 1, ((a + (1 : Int32)) + (0 : Int32))) _ H locs ls (by omega) hw ⟨hi2, (by show ((a + (1 : Int32)) + (0 : Int32)) = stC mem n t a0 (fC mem n t a0 i) i; rw [← ha]; unfold stC; simp only [if_pos c133, if_pos c134, if_neg c135, if_pos c143, if_neg c151, if_pos c157, if_pos c161]), rfl, lv_sub hl [3, 4, 1, 0] rfl⟩
                                    · skip
                                      refine lv_aload_n S.1 S.2.1 d_Mo_count_202 rfl (lv_at hl 2 rfl) ?_
                                      refine u_get (v := .ref (G.2.1 11)) S hw 0 (by decide) rfl rfl in_Mo 15 (by decide) lf_Mo_40 rfl d_Mo_count_203 ?_
                                      refine lv_iload_n S.1 S.2.1 d_Mo_count_206 rfl (lv_at hl 4 rfl) ?_
                                      refine u_iaN S hw 11 0 (by decide) rfl rfl (j := i) rfl (by omega) (by decide) d_Mo_count_207 ?_
                                      refine lv_istore_n (lv' := [(2, .int (mem 11 i)), (4, .int (0 : Int32)), (0, .ref (G.2.1 0)), (1, .int a0), (3, .int (nI i))]) S.1 S.2.1 d_Mo_count_208 rfl hl (by decide) rfl (fun ls hl => ?_)
                                      refine lv_iinc (v := (nI (i + 1))) (lv' := [(3, .int (nI (i + 1))), (2, .int (mem 11 i)), (4, .int (0 : Int32)), (0, .ref (G.2.1 0)), (1, .int a0)]) S.1 S.2.1 d_Mo_count_209 hl (k := 4) rfl (nI_1 _) (by decide) rfl (fun ls hl => ?_)
                                      refine lv_goto (tgt := 83) S.1 S.2.1 d_Mo_count_212 (by decide) ?_
                                      exact ih83 (i + 1, (mem 11 i)) _ H locs ls (by omega) hw ⟨hi2, (by show (mem 11 i) = stC mem n t a0 (fC mem n t a0 i) i; rw [← ha]; unfold stC; simp only [if_pos c133, if_pos c134, if_neg c135, if_pos c143, if_neg c151, if_pos c157, if_neg c161]), rfl, lv_sub hl [3, 4, 1, 0] rfl⟩
                    · skip
                      obtain ⟨j9, hj9, hzt⟩ := cnt_t10 hrng c134 hlt; obtain rfl := htt j9 hj9 hzt
                      refine lv_aload_n S.1 S.2.1 d_Mo_count_124 rfl (lv_at hl 1 rfl) ?_
                      refine lv_aload_n S.1 S.2.1 d_Mo_count_125 rfl (lv_at hl 1 rfl) ?_
                      refine u_get (v := .ref (G.2.1 8)) S hw 0 (by decide) rfl rfl in_Mo 12 (by decide) lf_Mo_31 rfl d_Mo_count_126 ?_
                      refine lv_iload_n S.1 S.2.1 d_Mo_count_129 rfl (lv_at hl 4 rfl) ?_
                      refine u_iaN S hw 8 0 (by decide) rfl rfl (j := i) rfl (by omega) (by decide) d_Mo_count_130 ?_
                      refine lv_iload_n S.1 S.2.1 d_Mo_count_131 rfl (lv_at hl 2 rfl) ?_
                      refine lv_bipush (v := (10 : Int32)) S.1 S.2.1 d_Mo_count_132 (by decide) ?_
                      refine lv_isub S.1 S.2.1 d_Mo_count_134 ?_
                      refine u_top (y := (nI t)) hzt ?_
                      refine u_calli hw (va_runV (As := [.int (mem 8 i), .int (nI t)]) (rest := []) S (c_Mo_isOpen l G mem (mem 8 i) t (by omega)) ⟨u_cB S.2.2.2.2 t_Mo_isOpen ln_Mo lm_Mo_80 hd_Mo_isOpen rfl rfl ⟨Nat.le_of_ble_eq_true rfl, Nat.le_of_ble_eq_true rfl⟩, S.2.2.2.2 _ li_Mo_isOpen, S.2.2.2.2 _ ls_Mo_isOpen⟩ (u_preV hw 0 (by decide) rfl rfl) rfl rfl hl.1 rfl (lv_room (Nat.le_of_ble_eq_true rfl)) d_Mo_count_135 ⟨Nat.zero_le _, Nat.zero_le _⟩) (fun r163 mem162 H locs hp hw => ?_)
                      obtain ⟨hp, rfl⟩ := hp
                      refine u_top (y := (s_Mo_isOpen (mem 1 t) (mem 2 t) (mem 4 t) (mem 8 i))) hp ?_
                      refine lv_if_ne (tgt := 174) S.1 S.2.1 d_Mo_count_138 (by decide) (fun c164 => ?_) (fun c164 => ?_)
                      · skip
                        refine lv_iinc (v := (a + (1 : Int32))) (lv' := [(2, .int (a + (1 : Int32))), (4, .int (0 : Int32)), (0, .ref (G.2.1 0)), (1, .int a0), (3, .int (nI i))]) S.1 S.2.1 d_Mo_count_174 hl (k := 3) rfl rfl (by decide) rfl (fun ls hl => ?_)
                        refine lv_iload_n S.1 S.2.1 d_Mo_count_177 rfl (lv_at hl 3 rfl) ?_
                        refine lv_iconst (v := (3 : Int32)) S.1 S.2.1 d_Mo_count_178 (by decide) ?_
                        refine lv_icmp_ne (tgt := 187) S.1 S.2.1 d_Mo_count_179 (by decide) (fun c165 => ?_) (fun c165 => ?_)
                        · skip
                          refine lv_iload_n S.1 S.2.1 d_Mo_count_187 rfl (lv_at hl 3 rfl) ?_
                          refine lv_iconst (v := (4 : Int32)) S.1 S.2.1 d_Mo_count_188 (by decide) ?_
                          refine lv_icmp_ne (tgt := 209) S.1 S.2.1 d_Mo_count_189 (by decide) (fun c166 => ?_) (fun c166 => ?_)
                          · skip
                            exact absurd c133 c166
                          · skip
                            refine lv_aload_n S.1 S.2.1 d_Mo_count_192 rfl (lv_at hl 2 rfl) ?_
                            refine u_get (v := .ref (G.2.1 11)) S hw 0 (by decide) rfl rfl in_Mo 15 (by decide) lf_Mo_40 rfl d_Mo_count_193 ?_
                            refine lv_iload_n S.1 S.2.1 d_Mo_count_196 rfl (lv_at hl 4 rfl) ?_
                            refine u_iaN S hw 11 0 (by decide) rfl rfl (j := i) rfl (by omega) (by decide) d_Mo_count_197 ?_
                            refine lv_iload_n S.1 S.2.1 d_Mo_count_198 rfl (lv_at hl 0 rfl) ?_
                            refine lv_icmp_le (tgt := 209) S.1 S.2.1 d_Mo_count_199 (by decide) (fun c167 => ?_) (fun c167 => ?_)
                            · skip
                              refine lv_iinc (v := (nI (i + 1))) (lv' := [(3, .int (nI (i + 1))), (2, .int (a + (1 : Int32))), (4, .int (0 : Int32)), (0, .ref (G.2.1 0)), (1, .int a0)]) S.1 S.2.1 d_Mo_count_209 hl (k := 4) rfl (nI_1 _) (by decide) rfl (fun ls hl => ?_)
                              refine lv_goto (tgt := 83) S.1 S.2.1 d_Mo_count_212 (by decide) ?_
                              exact ih83 (i + 1, (a + (1 : Int32))) _ H locs ls (by omega) hw ⟨hi2, (by show (a + (1 : Int32)) = stC mem n t a0 (fC mem n t a0 i) i; rw [← ha]; unfold stC; simp only [if_pos c133, if_neg c134, if_neg c164, if_neg c165, if_pos c167]), rfl, lv_sub hl [3, 4, 1, 0] rfl⟩
                            · skip
                              refine lv_aload_n S.1 S.2.1 d_Mo_count_202 rfl (lv_at hl 2 rfl) ?_
                              refine u_get (v := .ref (G.2.1 11)) S hw 0 (by decide) rfl rfl in_Mo 15 (by decide) lf_Mo_40 rfl d_Mo_count_203 ?_
                              refine lv_iload_n S.1 S.2.1 d_Mo_count_206 rfl (lv_at hl 4 rfl) ?_
                              refine u_iaN S hw 11 0 (by decide) rfl rfl (j := i) rfl (by omega) (by decide) d_Mo_count_207 ?_
                              refine lv_istore_n (lv' := [(2, .int (mem 11 i)), (4, .int (0 : Int32)), (0, .ref (G.2.1 0)), (1, .int a0), (3, .int (nI i))]) S.1 S.2.1 d_Mo_count_208 rfl hl (by decide) rfl (fun ls hl => ?_)
                              refine lv_iinc (v := (nI (i + 1))) (lv' := [(3, .int (nI (i + 1))), (2, .int (mem 11 i)), (4, .int (0 : Int32)), (0, .ref (G.2.1 0)), (1, .int a0)]) S.1 S.2.1 d_Mo_count_209 hl (k := 4) rfl (nI_1 _) (by decide) rfl (fun ls hl => ?_)
                              refine lv_goto (tgt := 83) S.1 S.2.1 d_Mo_count_212 (by decide) ?_
                              exact ih83 (i + 1, (mem 11 i)) _ H locs ls (by omega) hw ⟨hi2, (by show (mem 11 i) = stC mem n t a0 (fC mem n t a0 i) i; rw [← ha]; unfold stC; simp only [if_pos c133, if_neg c134, if_neg c164, if_neg c165, if_neg c167]), rfl, lv_sub hl [3, 4, 1, 0] rfl⟩
                        · skip
                          refine lv_iload_n S.1 S.2.1 d_Mo_count_182 rfl (lv_at hl 0 rfl) ?_
                          refine lv_iload S.1 S.2.1 d_Mo_count_183 (lv_at hl 1 rfl) ?_
                          refine lv_iadd S.1 S.2.1 d_Mo_count_185 ?_
                          refine lv_istore_n (lv' := [(2, .int ((a + (1 : Int32)) + (0 : Int32))), (4, .int (0 : Int32)), (0, .ref (G.2.1 0)), (1, .int a0), (3, .int (nI i))]) S.1 S.2.1 d_Mo_count_186 rfl hl (by decide) rfl (fun ls hl => ?_)
                          refine lv_iload_n S.1 S.2.1 d_Mo_count_187 rfl (lv_at hl 3 rfl) ?_
                          refine lv_iconst (v := (4 : Int32)) S.1 S.2.1 d_Mo_count_188 (by decide) ?_
                          refine lv_icmp_ne (tgt := 209) S.1 S.2.1 d_Mo_count_189 (by decide) (fun c168 => ?_) (fun c168 => ?_)
                          · skip
                            exact absurd c133 c168
                          · skip
                            refine lv_aload_n S.1 S.2.1 d_Mo_count_192 rfl (lv_at hl 2 rfl) ?_
                            refine u_get (v := .ref (G.2.1 11)) S hw 0 (by decide) rfl rfl in_Mo 15 (by decide) lf_Mo_40 rfl d_Mo_count_193 ?_
                            refine lv_iload_n S.1 S.2.1 d_Mo_count_196 rfl (lv_at hl 4 rfl) ?_
                            refine u_iaN S hw 11 0 (by decide) rfl rfl (j := i) rfl (by omega) (by decide) d_Mo_count_197 ?_
                            refine lv_iload_n S.1 S.2.1 d_Mo_count_198 rfl (lv_at hl 0 rfl) ?_
                            refine lv_icmp_le (tgt := 209) S.1 S.2.1 d_Mo_count_199 (by decide) (fun c169 => ?_) (fun c169 => ?_)
                            · skip
                              refine lv_iinc (v := (nI (i + 1))) (lv' := [(3, .int (nI (i + 1))), (2, .int ((a + (1 : Int32)) + (0 : Int32))), (4, .int (0 : Int32)), (0, .ref (G.2.1 0)), (1, .int a0)]) S.1 S.2.1 d_Mo_count_209 hl (k := 4) rfl (nI_1 _) (by decide) rfl (fun ls hl => ?_)
                              refine lv_goto (tgt := 83) S.1 S.2.1 d_Mo_count_212 (by decide) ?_
                              exact ih83 (i + 1, ((a + (1 : Int32)) + (0 : Int32))) _ H locs ls (by omega) hw ⟨hi2, (by show ((a + (1 : Int32)) + (0 : Int32)) = stC mem n t a0 (fC mem n t a0 i) i; rw [← ha]; unfold stC; simp only [if_pos c133, if_neg c134, if_neg c164, if_pos c165, if_pos c169]), rfl, lv_sub hl [3, 4, 1, 0] rfl⟩
                            · skip
                              refine lv_aload_n S.1 S.2.1 d_Mo_count_202 rfl (lv_at hl 2 rfl) ?_
                              refine u_get (v := .ref (G.2.1 11)) S hw 0 (by decide) rfl rfl in_Mo 15 (by decide) lf_Mo_40 rfl d_Mo_count_203 ?_
                              refine lv_iload_n S.1 S.2.1 d_Mo_count_206 rfl (lv_at hl 4 rfl) ?_
                              refine u_iaN S hw 11 0 (by decide) rfl rfl (j := i) rfl (by omega) (by decide) d_Mo_count_207 ?_
                              refine lv_istore_n (lv' := [(2, .int (mem 11 i)), (4, .int (0 : Int32)), (0, .ref (G.2.1 0)), (1, .int a0), (3, .int (nI i))]) S.1 S.2.1 d_Mo_count_208 rfl hl (by decide) rfl (fun ls hl => ?_)
                              refine lv_iinc (v := (nI (i + 1))) (lv' := [(3, .int (nI (i + 1))), (2, .int (mem 11 i)), (4, .int (0 : Int32)), (0, .ref (G.2.1 0)), (1, .int a0)]) S.1 S.2.1 d_Mo_count_209 hl (k := 4) rfl (nI_1 _) (by decide) rfl (fun ls hl => ?_)
                              refine lv_goto (tgt := 83) S.1 S.2.1 d_Mo_count_212 (by decide) ?_
                              exact ih83 (i + 1, (mem 11 i)) _ H locs ls (by omega) hw ⟨hi2, (by show (mem 11 i) = stC mem n t a0 (fC mem n t a0 i) i; rw [← ha]; unfold stC; simp only [if_pos c133, if_neg c134, if_neg c164, if_pos c165, if_neg c169]), rfl, lv_sub hl [3, 4, 1, 0] rfl⟩
                      · skip
                        refine lv_iload_n S.1 S.2.1 d_Mo_count_141 rfl (lv_at hl 2 rfl) ?_
                        refine lv_iconst (v := (5 : Int32)) S.1 S.2.1 d_Mo_count_142 (by decide) ?_
                        refine lv_icmp_eq (tgt := 152) S.1 S.2.1 d_Mo_count_143 (by decide) (fun c170 => ?_) (fun c170 => ?_)
                        · skip
                          refine lv_iload S.1 S.2.1 d_Mo_count_152 (lv_at hl 0 rfl) ?_
                          refine lv_if_ne (tgt := 177) S.1 S.2.1 d_Mo_count_154 (by decide) (fun c171 => ?_) (fun c171 => ?_)
                          · skip
                            exact absurd (by decide) c171
                          · skip
                            refine lv_iload_n S.1 S.2.1 d_Mo_count_157 rfl (lv_at hl 2 rfl) ?_
                            refine lv_iconst (v := (5 : Int32)) S.1 S.2.1 d_Mo_count_158 (by decide) ?_
                            refine lv_icmp_eq (tgt := 174) S.1 S.2.1 d_Mo_count_159 (by decide) (fun c172 => ?_) (fun c172 => ?_)
                            · skip
                              refine lv_iinc (v := (a + (1 : Int32))) (lv' := [(2, .int (a + (1 : Int32))), (4, .int (0 : Int32)), (0, .ref (G.2.1 0)), (1, .int a0), (3, .int (nI i))]) S.1 S.2.1 d_Mo_count_174 hl (k := 3) rfl rfl (by decide) rfl (fun ls hl => ?_)
                              refine lv_iload_n S.1 S.2.1 d_Mo_count_177 rfl (lv_at hl 3 rfl) ?_
                              refine lv_iconst (v := (3 : Int32)) S.1 S.2.1 d_Mo_count_178 (by decide) ?_
                              refine lv_icmp_ne (tgt := 187) S.1 S.2.1 d_Mo_count_179 (by decide) (fun c173 => ?_) (fun c173 => ?_)
                              · skip
                                refine lv_iload_n S.1 S.2.1 d_Mo_count_187 rfl (lv_at hl 3 rfl) ?_
                                refine lv_iconst (v := (4 : Int32)) S.1 S.2.1 d_Mo_count_188 (by decide) ?_
                                refine lv_icmp_ne (tgt := 209) S.1 S.2.1 d_Mo_count_189 (by decide) (fun c174 => ?_) (fun c174 => ?_)
                                · skip
                                  exact absurd c133 c174
                                · skip
                                  refine lv_aload_n S.1 S.2.1 d_Mo_count_192 rfl (lv_at hl 2 rfl) ?_
                                  refine u_get (v := .ref (G.2.1 11)) S hw 0 (by decide) rfl rfl in_Mo 15 (by decide) lf_Mo_40 rfl d_Mo_count_193 ?_
                                  refine lv_iload_n S.1 S.2.1 d_Mo_count_196 rfl (lv_at hl 4 rfl) ?_
                                  refine u_iaN S hw 11 0 (by decide) rfl rfl (j := i) rfl (by omega) (by decide) d_Mo_count_197 ?_
                                  refine lv_iload_n S.1 S.2.1 d_Mo_count_198 rfl (lv_at hl 0 rfl) ?_
                                  refine lv_icmp_le (tgt := 209) S.1 S.2.1 d_Mo_count_199 (by decide) (fun c175 => ?_) (fun c175 => ?_)
                                  · skip
                                    refine lv_iinc (v := (nI (i + 1))) (lv' := [(3, .int (nI (i + 1))), (2, .int (a + (1 : Int32))), (4, .int (0 : Int32)), (0, .ref (G.2.1 0)), (1, .int a0)]) S.1 S.2.1 d_Mo_count_209 hl (k := 4) rfl (nI_1 _) (by decide) rfl (fun ls hl => ?_)
                                    refine lv_goto (tgt := 83) S.1 S.2.1 d_Mo_count_212 (by decide) ?_
                                    exact ih83 (i + 1, (a + (1 : Int32))) _ H locs ls (by omega) hw ⟨hi2, (by show (a + (1 : Int32)) = stC mem n t a0 (fC mem n t a0 i) i; rw [← ha]; unfold stC; simp only [if_pos c133, if_neg c134, if_pos c164, if_pos c170, if_neg c173, if_pos c175]), rfl, lv_sub hl [3, 4, 1, 0] rfl⟩
                                  · skip
                                    refine lv_aload_n S.1 S.2.1 d_Mo_count_202 rfl (lv_at hl 2 rfl) ?_
                                    refine u_get (v := .ref (G.2.1 11)) S hw 0 (by decide) rfl rfl in_Mo 15 (by decide) lf_Mo_40 rfl d_Mo_count_203 ?_
                                    refine lv_iload_n S.1 S.2.1 d_Mo_count_206 rfl (lv_at hl 4 rfl) ?_
                                    refine u_iaN S hw 11 0 (by decide) rfl rfl (j := i) rfl (by omega) (by decide) d_Mo_count_207 ?_
                                    refine lv_istore_n (lv' := [(2, .int (mem 11 i)), (4, .int (0 : Int32)), (0, .ref (G.2.1 0)), (1, .int a0), (3, .int (nI i))]) S.1 S.2.1 d_Mo_count_208 rfl hl (by decide) rfl (fun ls hl => ?_)
                                    refine lv_iinc (v := (nI (i + 1))) (lv' := [(3, .int (nI (i + 1))), (2, .int (mem 11 i)), (4, .int (0 : Int32)), (0, .ref (G.2.1 0)), (1, .int a0)]) S.1 S.2.1 d_Mo_count_209 hl (k := 4) rfl (nI_1 _) (by decide) rfl (fun ls hl => ?_)
                                    refine lv_goto (tgt := 83) S.1 S.2.1 d_Mo_count_212 (by decide) ?_
                                    exact ih83 (i + 1, (mem 11 i)) _ H locs ls (by omega) hw ⟨hi2, (by show (mem 11 i) = stC mem n t a0 (fC mem n t a0 i) i; rw [← ha]; unfold stC; simp only [if_pos c133, if_neg c134, if_pos c164, if_pos c170, if_neg c173, if_neg c175]), rfl, lv_sub hl [3, 4, 1, 0] rfl⟩
                              · skip
                                refine lv_iload_n S.1 S.2.1 d_Mo_count_182 rfl (lv_at hl 0 rfl) ?_
                                refine lv_iload S.1 S.2.1 d_Mo_count_183 (lv_at hl 1 rfl) ?_
                                refine lv_iadd S.1 S.2.1 d_Mo_count_185 ?_
                                refine lv_istore_n (lv' := [(2, .int ((a + (1 : Int32)) + (0 : Int32))), (4, .int (0 : Int32)), (0, .ref (G.2.1 0)), (1, .int a0), (3, .int (nI i))]) S.1 S.2.1 d_Mo_count_186 rfl hl (by decide) rfl (fun ls hl => ?_)
                                refine lv_iload_n S.1 S.2.1 d_Mo_count_187 rfl (lv_at hl 3 rfl) ?_
                                refine lv_iconst (v := (4 : Int32)) S.1 S.2.1 d_Mo_count_188 (by decide) ?_
                                refine lv_icmp_ne (tgt := 209) S.1 S.2.1 d_Mo_count_189 (by decide) (fun c176 => ?_) (fun c176 => ?_)
                                · skip
                                  exact absurd c133 c176
                                · skip
                                  refine lv_aload_n S.1 S.2.1 d_Mo_count_192 rfl (lv_at hl 2 rfl) ?_
                                  refine u_get (v := .ref (G.2.1 11)) S hw 0 (by decide) rfl rfl in_Mo 15 (by decide) lf_Mo_40 rfl d_Mo_count_193 ?_
                                  refine lv_iload_n S.1 S.2.1 d_Mo_count_196 rfl (lv_at hl 4 rfl) ?_
                                  refine u_iaN S hw 11 0 (by decide) rfl rfl (j := i) rfl (by omega) (by decide) d_Mo_count_197 ?_
                                  refine lv_iload_n S.1 S.2.1 d_Mo_count_198 rfl (lv_at hl 0 rfl) ?_
                                  refine lv_icmp_le (tgt := 209) S.1 S.2.1 d_Mo_count_199 (by decide) (fun c177 => ?_) (fun c177 => ?_)
                                  · skip
                                    refine lv_iinc (v := (nI (i + 1))) (lv' := [(3, .int (nI (i + 1))), (2, .int ((a + (1 : Int32)) + (0 : Int32))), (4, .int (0 : Int32)), (0, .ref (G.2.1 0)), (1, .int a0)]) S.1 S.2.1 d_Mo_count_209 hl (k := 4) rfl (nI_1 _) (by decide) rfl (fun ls hl => ?_)
                                    refine lv_goto (tgt := 83) S.1 S.2.1 d_Mo_count_212 (by decide) ?_
                                    exact ih83 (i + 1, ((a + (1 : Int32)) + (0 : Int32))) _ H locs ls (by omega) hw ⟨hi2, (by show ((a + (1 : Int32)) + (0 : Int32)) = stC mem n t a0 (fC mem n t a0 i) i; rw [← ha]; unfold stC; simp only [if_pos c133, if_neg c134, if_pos c164, if_pos c170, if_pos c173, if_pos c177]), rfl, lv_sub hl [3, 4, 1, 0] rfl⟩
                                  · skip
                                    refine lv_aload_n S.1 S.2.1 d_Mo_count_202 rfl (lv_at hl 2 rfl) ?_
                                    refine u_get (v := .ref (G.2.1 11)) S hw 0 (by decide) rfl rfl in_Mo 15 (by decide) lf_Mo_40 rfl d_Mo_count_203 ?_
                                    refine lv_iload_n S.1 S.2.1 d_Mo_count_206 rfl (lv_at hl 4 rfl) ?_
                                    refine u_iaN S hw 11 0 (by decide) rfl rfl (j := i) rfl (by omega) (by decide) d_Mo_count_207 ?_
                                    refine lv_istore_n (lv' := [(2, .int (mem 11 i)), (4, .int (0 : Int32)), (0, .ref (G.2.1 0)), (1, .int a0), (3, .int (nI i))]) S.1 S.2.1 d_Mo_count_208 rfl hl (by decide) rfl (fun ls hl => ?_)
                                    refine lv_iinc (v := (nI (i + 1))) (lv' := [(3, .int (nI (i + 1))), (2, .int (mem 11 i)), (4, .int (0 : Int32)), (0, .ref (G.2.1 0)), (1, .int a0)]) S.1 S.2.1 d_Mo_count_209 hl (k := 4) rfl (nI_1 _) (by decide) rfl (fun ls hl => ?_)
                                    refine lv_goto (tgt := 83) S.1 S.2.1 d_Mo_count_212 (by decide) ?_
                                    exact ih83 (i + 1, (mem 11 i)) _ H locs ls (by omega) hw ⟨hi2, (by show (mem 11 i) = stC mem n t a0 (fC mem n t a0 i) i; rw [← ha]; unfold stC; simp only [if_pos c133, if_neg c134, if_pos c164, if_pos c170, if_pos c173, if_neg c177]), rfl, lv_sub hl [3, 4, 1, 0] rfl⟩
                            · skip
                              exact absurd c170 c172
                        · skip
                          refine lv_iload_n S.1 S.2.1 d_Mo_count_146 rfl (lv_at hl 2 rfl) ?_
                          refine lv_bipush (v := (6 : Int32)) S.1 S.2.1 d_Mo_count_147 (by decide) ?_
                          refine lv_icmp_ne (tgt := 177) S.1 S.2.1 d_Mo_count_149 (by decide) (fun c178 => ?_) (fun c178 => ?_)
                          · skip
                            refine lv_iload_n S.1 S.2.1 d_Mo_count_177 rfl (lv_at hl 2 rfl) ?_
                            refine lv_iconst (v := (3 : Int32)) S.1 S.2.1 d_Mo_count_178 (by decide) ?_
                            refine lv_icmp_ne (tgt := 187) S.1 S.2.1 d_Mo_count_179 (by decide) (fun c179 => ?_) (fun c179 => ?_)
                            · skip
                              refine lv_iload_n S.1 S.2.1 d_Mo_count_187 rfl (lv_at hl 2 rfl) ?_
                              refine lv_iconst (v := (4 : Int32)) S.1 S.2.1 d_Mo_count_188 (by decide) ?_
                              refine lv_icmp_ne (tgt := 209) S.1 S.2.1 d_Mo_count_189 (by decide) (fun c180 => ?_) (fun c180 => ?_)
                              · skip
                                exact absurd c133 c180
                              · skip
                                refine lv_aload_n S.1 S.2.1 d_Mo_count_192 rfl (lv_at hl 1 rfl) ?_
                                refine u_get (v := .ref (G.2.1 11)) S hw 0 (by decide) rfl rfl in_Mo 15 (by decide) lf_Mo_40 rfl d_Mo_count_193 ?_
                                refine lv_iload_n S.1 S.2.1 d_Mo_count_196 rfl (lv_at hl 4 rfl) ?_
                                refine u_iaN S hw 11 0 (by decide) rfl rfl (j := i) rfl (by omega) (by decide) d_Mo_count_197 ?_
                                refine lv_iload_n S.1 S.2.1 d_Mo_count_198 rfl (lv_at hl 3 rfl) ?_
                                refine lv_icmp_le (tgt := 209) S.1 S.2.1 d_Mo_count_199 (by decide) (fun c181 => ?_) (fun c181 => ?_)
                                · skip
                                  refine lv_iinc (v := (nI (i + 1))) (lv' := [(3, .int (nI (i + 1))), (4, .int (0 : Int32)), (0, .ref (G.2.1 0)), (1, .int a0), (2, .int a)]) S.1 S.2.1 d_Mo_count_209 hl (k := 4) rfl (nI_1 _) (by decide) rfl (fun ls hl => ?_)
                                  refine lv_goto (tgt := 83) S.1 S.2.1 d_Mo_count_212 (by decide) ?_
                                  exact ih83 (i + 1, a) _ H locs ls (by omega) hw ⟨hi2, (by show a = stC mem n t a0 (fC mem n t a0 i) i; rw [← ha]; unfold stC; simp only [if_pos c133, if_neg c134, if_pos c164, if_neg c170, if_neg c178, if_neg c179, if_pos c181]), rfl, lv_sub hl [2, 3, 4, 0] rfl⟩
                                · skip
                                  refine lv_aload_n S.1 S.2.1 d_Mo_count_202 rfl (lv_at hl 1 rfl) ?_
                                  refine u_get (v := .ref (G.2.1 11)) S hw 0 (by decide) rfl rfl in_Mo 15 (by decide) lf_Mo_40 rfl d_Mo_count_203 ?_
                                  refine lv_iload_n S.1 S.2.1 d_Mo_count_206 rfl (lv_at hl 4 rfl) ?_
                                  refine u_iaN S hw 11 0 (by decide) rfl rfl (j := i) rfl (by omega) (by decide) d_Mo_count_207 ?_
                                  refine lv_istore_n (lv' := [(2, .int (mem 11 i)), (4, .int (0 : Int32)), (0, .ref (G.2.1 0)), (1, .int a0), (3, .int (nI i))]) S.1 S.2.1 d_Mo_count_208 rfl hl (by decide) rfl (fun ls hl => ?_)
                                  refine lv_iinc (v := (nI (i + 1))) (lv' := [(3, .int (nI (i + 1))), (2, .int (mem 11 i)), (4, .int (0 : Int32)), (0, .ref (G.2.1 0)), (1, .int a0)]) S.1 S.2.1 d_Mo_count_209 hl (k := 4) rfl (nI_1 _) (by decide) rfl (fun ls hl => ?_)
                                  refine lv_goto (tgt := 83) S.1 S.2.1 d_Mo_count_212 (by decide) ?_
                                  exact ih83 (i + 1, (mem 11 i)) _ H locs ls (by omega) hw ⟨hi2, (by show (mem 11 i) = stC mem n t a0 (fC mem n t a0 i) i; rw [← ha]; unfold stC; simp only [if_pos c133, if_neg c134, if_pos c164, if_neg c170, if_neg c178, if_neg c179, if_neg c181]), rfl, lv_sub hl [3, 4, 1, 0] rfl⟩
                            · skip
                              refine lv_iload_n S.1 S.2.1 d_Mo_count_182 rfl (lv_at hl 3 rfl) ?_
                              refine lv_iload S.1 S.2.1 d_Mo_count_183 (lv_at hl 0 rfl) ?_
                              refine lv_iadd S.1 S.2.1 d_Mo_count_185 ?_
                              refine lv_istore_n (lv' := [(2, .int (a + (0 : Int32))), (4, .int (0 : Int32)), (0, .ref (G.2.1 0)), (1, .int a0), (3, .int (nI i))]) S.1 S.2.1 d_Mo_count_186 rfl hl (by decide) rfl (fun ls hl => ?_)
                              refine lv_iload_n S.1 S.2.1 d_Mo_count_187 rfl (lv_at hl 3 rfl) ?_
                              refine lv_iconst (v := (4 : Int32)) S.1 S.2.1 d_Mo_count_188 (by decide) ?_
                              refine lv_icmp_ne (tgt := 209) S.1 S.2.1 d_Mo_count_189 (by decide) (fun c182 => ?_) (fun c182 => ?_)
                              · skip
                                exact absurd c133 c182
                              · skip
                                refine lv_aload_n S.1 S.2.1 d_Mo_count_192 rfl (lv_at hl 2 rfl) ?_
                                refine u_get (v := .ref (G.2.1 11)) S hw 0 (by decide) rfl rfl in_Mo 15 (by decide) lf_Mo_40 rfl d_Mo_count_193 ?_
                                refine lv_iload_n S.1 S.2.1 d_Mo_count_196 rfl (lv_at hl 4 rfl) ?_
                                refine u_iaN S hw 11 0 (by decide) rfl rfl (j := i) rfl (by omega) (by decide) d_Mo_count_197 ?_
                                refine lv_iload_n S.1 S.2.1 d_Mo_count_198 rfl (lv_at hl 0 rfl) ?_
                                refine lv_icmp_le (tgt := 209) S.1 S.2.1 d_Mo_count_199 (by decide) (fun c183 => ?_) (fun c183 => ?_)
                                · skip
                                  refine lv_iinc (v := (nI (i + 1))) (lv' := [(3, .int (nI (i + 1))), (2, .int (a + (0 : Int32))), (4, .int (0 : Int32)), (0, .ref (G.2.1 0)), (1, .int a0)]) S.1 S.2.1 d_Mo_count_209 hl (k := 4) rfl (nI_1 _) (by decide) rfl (fun ls hl => ?_)
                                  refine lv_goto (tgt := 83) S.1 S.2.1 d_Mo_count_212 (by decide) ?_
                                  exact ih83 (i + 1, (a + (0 : Int32))) _ H locs ls (by omega) hw ⟨hi2, (by show (a + (0 : Int32)) = stC mem n t a0 (fC mem n t a0 i) i; rw [← ha]; unfold stC; simp only [if_pos c133, if_neg c134, if_pos c164, if_neg c170, if_neg c178, if_pos c179, if_pos c183]), rfl, lv_sub hl [3, 4, 1, 0] rfl⟩
                                · skip
                                  refine lv_aload_n S.1 S.2.1 d_Mo_count_202 rfl (lv_at hl 2 rfl) ?_
                                  refine u_get (v := .ref (G.2.1 11)) S hw 0 (by decide) rfl rfl in_Mo 15 (by decide) lf_Mo_40 rfl d_Mo_count_203 ?_
                                  refine lv_iload_n S.1 S.2.1 d_Mo_count_206 rfl (lv_at hl 4 rfl) ?_
                                  refine u_iaN S hw 11 0 (by decide) rfl rfl (j := i) rfl (by omega) (by decide) d_Mo_count_207 ?_
                                  refine lv_istore_n (lv' := [(2, .int (mem 11 i)), (4, .int (0 : Int32)), (0, .ref (G.2.1 0)), (1, .int a0), (3, .int (nI i))]) S.1 S.2.1 d_Mo_count_208 rfl hl (by decide) rfl (fun ls hl => ?_)
                                  refine lv_iinc (v := (nI (i + 1))) (lv' := [(3, .int (nI (i + 1))), (2, .int (mem 11 i)), (4, .int (0 : Int32)), (0, .ref (G.2.1 0)), (1, .int a0)]) S.1 S.2.1 d_Mo_count_209 hl (k := 4) rfl (nI_1 _) (by decide) rfl (fun ls hl => ?_)
                                  refine lv_goto (tgt := 83) S.1 S.2.1 d_Mo_count_212 (by decide) ?_
                                  exact ih83 (i + 1, (mem 11 i)) _ H locs ls (by omega) hw ⟨hi2, (by show (mem 11 i) = stC mem n t a0 (fC mem n t a0 i) i; rw [← ha]; unfold stC; simp only [if_pos c133, if_neg c134, if_pos c164, if_neg c170, if_neg c178, if_pos c179, if_neg c183]), rfl, lv_sub hl [3, 4, 1, 0] rfl⟩
                          · skip
                            refine lv_iload S.1 S.2.1 d_Mo_count_152 (lv_at hl 0 rfl) ?_
                            refine lv_if_ne (tgt := 177) S.1 S.2.1 d_Mo_count_154 (by decide) (fun c184 => ?_) (fun c184 => ?_)
                            · skip
                              exact absurd (by decide) c184
                            · skip
                              refine lv_iload_n S.1 S.2.1 d_Mo_count_157 rfl (lv_at hl 2 rfl) ?_
                              refine lv_iconst (v := (5 : Int32)) S.1 S.2.1 d_Mo_count_158 (by decide) ?_
                              refine lv_icmp_eq (tgt := 174) S.1 S.2.1 d_Mo_count_159 (by decide) (fun c185 => ?_) (fun c185 => ?_)
                              · skip
                                exact absurd c185 c170
                              · skip
                                refine lv_aload_n S.1 S.2.1 d_Mo_count_162 rfl (lv_at hl 1 rfl) ?_
                                refine u_get (v := .ref (G.2.1 8)) S hw 0 (by decide) rfl rfl in_Mo 12 (by decide) lf_Mo_31 rfl d_Mo_count_163 ?_
                                refine lv_iload_n S.1 S.2.1 d_Mo_count_166 rfl (lv_at hl 4 rfl) ?_
                                refine u_iaN S hw 8 0 (by decide) rfl rfl (j := i) rfl (by omega) (by decide) d_Mo_count_167 ?_
                                refine u_callp hw (va_runS (As := [.int (mem 8 i)]) (rest := []) S (c_Mo_isDone l (mem 8 i)) ⟨u_cB S.2.2.2.2 t_Mo_isDone ln_Mo lm_Mo_121 hd_Mo_isDone rfl rfl ⟨Nat.le_of_ble_eq_true rfl, Nat.le_of_ble_eq_true rfl⟩, S.2.2.2.2 _ lt_Mo_isDone⟩ (u_preP hw.1.2) rfl rfl hl.1 rfl (lv_room (Nat.le_of_ble_eq_true rfl)) d_Mo_count_168 ⟨Nat.zero_le _, Nat.zero_le _⟩) (fun r H locs hp hw => ?_)
                                refine u_top (y := (s_Mo_isDone (mem 8 i))) hp ?_
                                refine lv_if_eq (tgt := 177) S.1 S.2.1 d_Mo_count_171 (by decide) (fun c186 => ?_) (fun c186 => ?_)
                                · skip
                                  refine lv_iload_n S.1 S.2.1 d_Mo_count_177 rfl (lv_at hl 2 rfl) ?_
                                  refine lv_iconst (v := (3 : Int32)) S.1 S.2.1 d_Mo_count_178 (by decide) ?_
                                  refine lv_icmp_ne (tgt := 187) S.1 S.2.1 d_Mo_count_179 (by decide) (fun c187 => ?_) (fun c187 => ?_)
                                  · skip
                                    refine lv_iload_n S.1 S.2.1 d_Mo_count_187 rfl (lv_at hl 2 rfl) ?_
                                    refine lv_iconst (v := (4 : Int32)) S.1 S.2.1 d_Mo_count_188 (by decide) ?_
                                    refine lv_icmp_ne (tgt := 209) S.1 S.2.1 d_Mo_count_189 (by decide) (fun c188 => ?_) (fun c188 => ?_)
                                    · skip
                                      exact absurd c133 c188
                                    · skip
                                      refine lv_aload_n S.1 S.2.1 d_Mo_count_192 rfl (lv_at hl 1 rfl) ?_
                                      refine u_get (v := .ref (G.2.1 11)) S hw 0 (by decide) rfl rfl in_Mo 15 (by decide) lf_Mo_40 rfl d_Mo_count_193 ?_
                                      refine lv_iload_n S.1 S.2.1 d_Mo_count_196 rfl (lv_at hl 4 rfl) ?_
                                      refine u_iaN S hw 11 0 (by decide) rfl rfl (j := i) rfl (by omega) (by decide) d_Mo_count_197 ?_
                                      refine lv_iload_n S.1 S.2.1 d_Mo_count_198 rfl (lv_at hl 3 rfl) ?_
                                      refine lv_icmp_le (tgt := 209) S.1 S.2.1 d_Mo_count_199 (by decide) (fun c189 => ?_) (fun c189 => ?_)
                                      · skip
                                        refine lv_iinc (v := (nI (i + 1))) (lv' := [(3, .int (nI (i + 1))), (4, .int (0 : Int32)), (0, .ref (G.2.1 0)), (1, .int a0), (2, .int a)]) S.1 S.2.1 d_Mo_count_209 hl (k := 4) rfl (nI_1 _) (by decide) rfl (fun ls hl => ?_)
                                        refine lv_goto (tgt := 83) S.1 S.2.1 d_Mo_count_212 (by decide) ?_
                                        exact ih83 (i + 1, a) _ H locs ls (by omega) hw ⟨hi2, (by show a = stC mem n t a0 (fC mem n t a0 i) i; rw [← ha]; unfold stC; simp only [if_pos c133, if_neg c134, if_pos c164, if_neg c170, if_pos c178, if_pos c186, if_neg c187, if_pos c189]), rfl, lv_sub hl [2, 3, 4, 0] rfl⟩
                                      · skip
                                        refine lv_aload_n S.1 S.2.1 d_Mo_count_202 rfl (lv_at hl 1 rfl) ?_
                                        refine u_get (v := .ref (G.2.1 11)) S hw 0 (by decide) rfl rfl in_Mo 15 (by decide) lf_Mo_40 rfl d_Mo_count_203 ?_
                                        refine lv_iload_n S.1 S.2.1 d_Mo_count_206 rfl (lv_at hl 4 rfl) ?_
                                        refine u_iaN S hw 11 0 (by decide) rfl rfl (j := i) rfl (by omega) (by decide) d_Mo_count_207 ?_
                                        refine lv_istore_n (lv' := [(2, .int (mem 11 i)), (4, .int (0 : Int32)), (0, .ref (G.2.1 0)), (1, .int a0), (3, .int (nI i))]) S.1 S.2.1 d_Mo_count_208 rfl hl (by decide) rfl (fun ls hl => ?_)
                                        refine lv_iinc (v := (nI (i + 1))) (lv' := [(3, .int (nI (i + 1))), (2, .int (mem 11 i)), (4, .int (0 : Int32)), (0, .ref (G.2.1 0)), (1, .int a0)]) S.1 S.2.1 d_Mo_count_209 hl (k := 4) rfl (nI_1 _) (by decide) rfl (fun ls hl => ?_)
                                        refine lv_goto (tgt := 83) S.1 S.2.1 d_Mo_count_212 (by decide) ?_
                                        exact ih83 (i + 1, (mem 11 i)) _ H locs ls (by omega) hw ⟨hi2, (by show (mem 11 i) = stC mem n t a0 (fC mem n t a0 i) i; rw [← ha]; unfold stC; simp only [if_pos c133, if_neg c134, if_pos c164, if_neg c170, if_pos c178, if_pos c186, if_neg c187, if_neg c189]), rfl, lv_sub hl [3, 4, 1, 0] rfl⟩
                                  · skip
                                    refine lv_iload_n S.1 S.2.1 d_Mo_count_182 rfl (lv_at hl 3 rfl) ?_
                                    refine lv_iload S.1 S.2.1 d_Mo_count_183 (lv_at hl 0 rfl) ?_
                                    refine lv_iadd S.1 S.2.1 d_Mo_count_185 ?_
                                    refine lv_istore_n (lv' := [(2, .int (a + (0 : Int32))), (4, .int (0 : Int32)), (0, .ref (G.2.1 0)), (1, .int a0), (3, .int (nI i))]) S.1 S.2.1 d_Mo_count_186 rfl hl (by decide) rfl (fun ls hl => ?_)
                                    refine lv_iload_n S.1 S.2.1 d_Mo_count_187 rfl (lv_at hl 3 rfl) ?_
                                    refine lv_iconst (v := (4 : Int32)) S.1 S.2.1 d_Mo_count_188 (by decide) ?_
                                    refine lv_icmp_ne (tgt := 209) S.1 S.2.1 d_Mo_count_189 (by decide) (fun c190 => ?_) (fun c190 => ?_)
                                    · skip
                                      exact absurd c133 c190
                                    · skip
                                      refine lv_aload_n S.1 S.2.1 d_Mo_count_192 rfl (lv_at hl 2 rfl) ?_
                                      refine u_get (v := .ref (G.2.1 11)) S hw 0 (by decide) rfl rfl in_Mo 15 (by decide) lf_Mo_40 rfl d_Mo_count_193 ?_
                                      refine lv_iload_n S.1 S.2.1 d_Mo_count_196 rfl (lv_at hl 4 rfl) ?_
                                      refine u_iaN S hw 11 0 (by decide) rfl rfl (j := i) rfl (by omega) (by decide) d_Mo_count_197 ?_
                                      refine lv_iload_n S.1 S.2.1 d_Mo_count_198 rfl (lv_at hl 0 rfl) ?_
                                      refine lv_icmp_le (tgt := 209) S.1 S.2.1 d_Mo_count_199 (by decide) (fun c191 => ?_) (fun c191 => ?_)
                                      · skip
                                        refine lv_iinc (v := (nI (i + 1))) (lv' := [(3, .int (nI (i + 1))), (2, .int (a + (0 : Int32))), (4, .int (0 : Int32)), (0, .ref (G.2.1 0)), (1, .int a0)]) S.1 S.2.1 d_Mo_count_209 hl (k := 4) rfl (nI_1 _) (by decide) rfl (fun ls hl => ?_)
                                        refine lv_goto (tgt := 83) S.1 S.2.1 d_Mo_count_212 (by decide) ?_
                                        exact ih83 (i + 1, (a + (0 : Int32))) _ H locs ls (by omega) hw ⟨hi2, (by show (a + (0 : Int32)) = stC mem n t a0 (fC mem n t a0 i) i; rw [← ha]; unfold stC; simp only [if_pos c133, if_neg c134, if_pos c164, if_neg c170, if_pos c178, if_pos c186, if_pos c187, if_pos c191]), rfl, lv_sub hl [3, 4, 1, 0] rfl⟩
                                      · skip
                                        refine lv_aload_n S.1 S.2.1 d_Mo_count_202 rfl (lv_at hl 2 rfl) ?_
                                        refine u_get (v := .ref (G.2.1 11)) S hw 0 (by decide) rfl rfl in_Mo 15 (by decide) lf_Mo_40 rfl d_Mo_count_203 ?_
                                        refine lv_iload_n S.1 S.2.1 d_Mo_count_206 rfl (lv_at hl 4 rfl) ?_
                                        refine u_iaN S hw 11 0 (by decide) rfl rfl (j := i) rfl (by omega) (by decide) d_Mo_count_207 ?_
                                        refine lv_istore_n (lv' := [(2, .int (mem 11 i)), (4, .int (0 : Int32)), (0, .ref (G.2.1 0)), (1, .int a0), (3, .int (nI i))]) S.1 S.2.1 d_Mo_count_208 rfl hl (by decide) rfl (fun ls hl => ?_)
                                        refine lv_iinc (v := (nI (i + 1))) (lv' := [(3, .int (nI (i + 1))), (2, .int (mem 11 i)), (4, .int (0 : Int32)), (0, .ref (G.2.1 0)), (1, .int a0)]) S.1 S.2.1 d_Mo_count_209 hl (k := 4) rfl (nI_1 _) (by decide) rfl (fun ls hl => ?_)
                                        refine lv_goto (tgt := 83) S.1 S.2.1 d_Mo_count_212 (by decide) ?_
                                        exact ih83 (i + 1, (mem 11 i)) _ H locs ls (by omega) hw ⟨hi2, (by show (mem 11 i) = stC mem n t a0 (fC mem n t a0 i) i; rw [← ha]; unfold stC; simp only [if_pos c133, if_neg c134, if_pos c164, if_neg c170, if_pos c178, if_pos c186, if_pos c187, if_neg c191]), rfl, lv_sub hl [3, 4, 1, 0] rfl⟩
                                · skip
                                  refine lv_iinc (v := (a + (1 : Int32))) (lv' := [(2, .int (a + (1 : Int32))), (4, .int (0 : Int32)), (0, .ref (G.2.1 0)), (1, .int a0), (3, .int (nI i))]) S.1 S.2.1 d_Mo_count_174 hl (k := 3) rfl rfl (by decide) rfl (fun ls hl => ?_)
                                  refine lv_iload_n S.1 S.2.1 d_Mo_count_177 rfl (lv_at hl 3 rfl) ?_
                                  refine lv_iconst (v := (3 : Int32)) S.1 S.2.1 d_Mo_count_178 (by decide) ?_
                                  refine lv_icmp_ne (tgt := 187) S.1 S.2.1 d_Mo_count_179 (by decide) (fun c192 => ?_) (fun c192 => ?_)
                                  · skip
                                    refine lv_iload_n S.1 S.2.1 d_Mo_count_187 rfl (lv_at hl 3 rfl) ?_
                                    refine lv_iconst (v := (4 : Int32)) S.1 S.2.1 d_Mo_count_188 (by decide) ?_
                                    refine lv_icmp_ne (tgt := 209) S.1 S.2.1 d_Mo_count_189 (by decide) (fun c193 => ?_) (fun c193 => ?_)
                                    · skip
                                      exact absurd c133 c193
                                    · skip
                                      refine lv_aload_n S.1 S.2.1 d_Mo_count_192 rfl (lv_at hl 2 rfl) ?_
                                      refine u_get (v := .ref (G.2.1 11)) S hw 0 (by decide) rfl rfl in_Mo 15 (by decide) lf_Mo_40 rfl d_Mo_count_193 ?_
                                      refine lv_iload_n S.1 S.2.1 d_Mo_count_196 rfl (lv_at hl 4 rfl) ?_
                                      refine u_iaN S hw 11 0 (by decide) rfl rfl (j := i) rfl (by omega) (by decide) d_Mo_count_197 ?_
                                      refine lv_iload_n S.1 S.2.1 d_Mo_count_198 rfl (lv_at hl 0 rfl) ?_
                                      refine lv_icmp_le (tgt := 209) S.1 S.2.1 d_Mo_count_199 (by decide) (fun c194 => ?_) (fun c194 => ?_)
                                      · skip
                                        refine lv_iinc (v := (nI (i + 1))) (lv' := [(3, .int (nI (i + 1))), (2, .int (a + (1 : Int32))), (4, .int (0 : Int32)), (0, .ref (G.2.1 0)), (1, .int a0)]) S.1 S.2.1 d_Mo_count_209 hl (k := 4) rfl (nI_1 _) (by decide) rfl (fun ls hl => ?_)
                                        refine lv_goto (tgt := 83) S.1 S.2.1 d_Mo_count_212 (by decide) ?_
                                        exact ih83 (i + 1, (a + (1 : Int32))) _ H locs ls (by omega) hw ⟨hi2, (by show (a + (1 : Int32)) = stC mem n t a0 (fC mem n t a0 i) i; rw [← ha]; unfold stC; simp only [if_pos c133, if_neg c134, if_pos c164, if_neg c170, if_pos c178, if_neg c186, if_neg c192, if_pos c194]), rfl, lv_sub hl [3, 4, 1, 0] rfl⟩
                                      · skip
                                        refine lv_aload_n S.1 S.2.1 d_Mo_count_202 rfl (lv_at hl 2 rfl) ?_
                                        refine u_get (v := .ref (G.2.1 11)) S hw 0 (by decide) rfl rfl in_Mo 15 (by decide) lf_Mo_40 rfl d_Mo_count_203 ?_
                                        refine lv_iload_n S.1 S.2.1 d_Mo_count_206 rfl (lv_at hl 4 rfl) ?_
                                        refine u_iaN S hw 11 0 (by decide) rfl rfl (j := i) rfl (by omega) (by decide) d_Mo_count_207 ?_
                                        refine lv_istore_n (lv' := [(2, .int (mem 11 i)), (4, .int (0 : Int32)), (0, .ref (G.2.1 0)), (1, .int a0), (3, .int (nI i))]) S.1 S.2.1 d_Mo_count_208 rfl hl (by decide) rfl (fun ls hl => ?_)
                                        refine lv_iinc (v := (nI (i + 1))) (lv' := [(3, .int (nI (i + 1))), (2, .int (mem 11 i)), (4, .int (0 : Int32)), (0, .ref (G.2.1 0)), (1, .int a0)]) S.1 S.2.1 d_Mo_count_209 hl (k := 4) rfl (nI_1 _) (by decide) rfl (fun ls hl => ?_)
                                        refine lv_goto (tgt := 83) S.1 S.2.1 d_Mo_count_212 (by decide) ?_
                                        exact ih83 (i + 1, (mem 11 i)) _ H locs ls (by omega) hw ⟨hi2, (by show (mem 11 i) = stC mem n t a0 (fC mem n t a0 i) i; rw [← ha]; unfold stC; simp only [if_pos c133, if_neg c134, if_pos c164, if_neg c170, if_pos c178, if_neg c186, if_neg c192, if_neg c194]), rfl, lv_sub hl [3, 4, 1, 0] rfl⟩
                                  · skip
                                    refine lv_iload_n S.1 S.2.1 d_Mo_count_182 rfl (lv_at hl 0 rfl) ?_
                                    refine lv_iload S.1 S.2.1 d_Mo_count_183 (lv_at hl 1 rfl) ?_
                                    refine lv_iadd S.1 S.2.1 d_Mo_count_185 ?_
                                    refine lv_istore_n (lv' := [(2, .int ((a + (1 : Int32)) + (0 : Int32))), (4, .int (0 : Int32)), (0, .ref (G.2.1 0)), (1, .int a0), (3, .int (nI i))]) S.1 S.2.1 d_Mo_count_186 rfl hl (by decide) rfl (fun ls hl => ?_)
                                    refine lv_iload_n S.1 S.2.1 d_Mo_count_187 rfl (lv_at hl 3 rfl) ?_
                                    refine lv_iconst (v := (4 : Int32)) S.1 S.2.1 d_Mo_count_188 (by decide) ?_
                                    refine lv_icmp_ne (tgt := 209) S.1 S.2.1 d_Mo_count_189 (by decide) (fun c195 => ?_) (fun c195 => ?_)
                                    · skip
                                      exact absurd c133 c195
                                    · skip
                                      refine lv_aload_n S.1 S.2.1 d_Mo_count_192 rfl (lv_at hl 2 rfl) ?_
                                      refine u_get (v := .ref (G.2.1 11)) S hw 0 (by decide) rfl rfl in_Mo 15 (by decide) lf_Mo_40 rfl d_Mo_count_193 ?_
                                      refine lv_iload_n S.1 S.2.1 d_Mo_count_196 rfl (lv_at hl 4 rfl) ?_
                                      refine u_iaN S hw 11 0 (by decide) rfl rfl (j := i) rfl (by omega) (by decide) d_Mo_count_197 ?_
                                      refine lv_iload_n S.1 S.2.1 d_Mo_count_198 rfl (lv_at hl 0 rfl) ?_
                                      refine lv_icmp_le (tgt := 209) S.1 S.2.1 d_Mo_count_199 (by decide) (fun c196 => ?_) (fun c196 => ?_)
                                      · skip
                                        refine lv_iinc (v := (nI (i + 1))) (lv' := [(3, .int (nI (i + 1))), (2, .int ((a + (1 : Int32)) + (0 : Int32))), (4, .int (0 : Int32)), (0, .ref (G.2.1 0)), (1, .int a0)]) S.1 S.2.1 d_Mo_count_209 hl (k := 4) rfl (nI_1 _) (by decide) rfl (fun ls hl => ?_)
                                        refine lv_goto (tgt := 83) S.1 S.2.1 d_Mo_count_212 (by decide) ?_
                                        exact ih83 (i + 1, ((a + (1 : Int32)) + (0 : Int32))) _ H locs ls (by omega) hw ⟨hi2, (by show ((a + (1 : Int32)) + (0 : Int32)) = stC mem n t a0 (fC mem n t a0 i) i; rw [← ha]; unfold stC; simp only [if_pos c133, if_neg c134, if_pos c164, if_neg c170, if_pos c178, if_neg c186, if_pos c192, if_pos c196]), rfl, lv_sub hl [3, 4, 1, 0] rfl⟩
                                      · skip
                                        refine lv_aload_n S.1 S.2.1 d_Mo_count_202 rfl (lv_at hl 2 rfl) ?_
                                        refine u_get (v := .ref (G.2.1 11)) S hw 0 (by decide) rfl rfl in_Mo 15 (by decide) lf_Mo_40 rfl d_Mo_count_203 ?_
                                        refine lv_iload_n S.1 S.2.1 d_Mo_count_206 rfl (lv_at hl 4 rfl) ?_
                                        refine u_iaN S hw 11 0 (by decide) rfl rfl (j := i) rfl (by omega) (by decide) d_Mo_count_207 ?_
                                        refine lv_istore_n (lv' := [(2, .int (mem 11 i)), (4, .int (0 : Int32)), (0, .ref (G.2.1 0)), (1, .int a0), (3, .int (nI i))]) S.1 S.2.1 d_Mo_count_208 rfl hl (by decide) rfl (fun ls hl => ?_)
                                        refine lv_iinc (v := (nI (i + 1))) (lv' := [(3, .int (nI (i + 1))), (2, .int (mem 11 i)), (4, .int (0 : Int32)), (0, .ref (G.2.1 0)), (1, .int a0)]) S.1 S.2.1 d_Mo_count_209 hl (k := 4) rfl (nI_1 _) (by decide) rfl (fun ls hl => ?_)
                                        refine lv_goto (tgt := 83) S.1 S.2.1 d_Mo_count_212 (by decide) ?_
                                        exact ih83 (i + 1, (mem 11 i)) _ H locs ls (by omega) hw ⟨hi2, (by show (mem 11 i) = stC mem n t a0 (fC mem n t a0 i) i; rw [← ha]; unfold stC; simp only [if_pos c133, if_neg c134, if_pos c164, if_neg c170, if_pos c178, if_neg c186, if_pos c192, if_neg c196]), rfl, lv_sub hl [3, 4, 1, 0] rfl⟩
                  · skip
                    refine lv_iload_n S.1 S.2.1 d_Mo_count_96 rfl (lv_at hl 1 rfl) ?_
                    refine lv_bipush (v := (10 : Int32)) S.1 S.2.1 d_Mo_count_97 (by decide) ?_
                    refine lv_icmp_lt (tgt := 106) S.1 S.2.1 d_Mo_count_99 (by decide) (fun c197 => ?_) (fun c197 => ?_)
                    · skip
                      refine lv_aload_n S.1 S.2.1 d_Mo_count_106 rfl (lv_at hl 0 rfl) ?_
                      refine lv_aload_n S.1 S.2.1 d_Mo_count_107 rfl (lv_at hl 0 rfl) ?_
                      refine u_get (v := .ref (G.2.1 8)) S hw 0 (by decide) rfl rfl in_Mo 12 (by decide) lf_Mo_31 rfl d_Mo_count_108 ?_
                      refine lv_iload_n S.1 S.2.1 d_Mo_count_111 rfl (lv_at hl 3 rfl) ?_
                      refine u_iaN S hw 8 0 (by decide) rfl rfl (j := i) rfl (by omega) (by decide) d_Mo_count_112 ?_
                      refine u_calli hw (va_runV (As := [.int (mem 8 i)]) (rest := []) S (c_Mo_openIn l G mem (mem 8 i) n hn hnn) ⟨u_cB S.2.2.2.2 t_Mo_openIn ln_Mo lm_Mo_118 hd_Mo_openIn rfl rfl ⟨Nat.le_of_ble_eq_true rfl, Nat.le_of_ble_eq_true rfl⟩, S.2.2.2.2 _ li_Mo_openIn, S.2.2.2.2 _ ls_Mo_openIn⟩ (u_preV hw 0 (by decide) rfl rfl) rfl rfl hl.1 rfl (lv_room (Nat.le_of_ble_eq_true rfl)) d_Mo_count_113 ⟨Nat.zero_le _, Nat.zero_le _⟩) (fun r199 mem198 H locs hp hw => ?_)
                      obtain ⟨hp, rfl⟩ := hp
                      refine u_top (y := (nI (mOC mem n (mem 8 i)))) hp ?_
                      refine lv_istore (lv' := [(4, .int (nI (mOC mem n (mem 8 i)))), (0, .ref (G.2.1 0)), (1, .int a0), (2, .int a), (3, .int (nI i))]) S.1 S.2.1 d_Mo_count_116 hl (by decide) rfl (fun ls hl => ?_)
                      refine lv_iload_n S.1 S.2.1 d_Mo_count_118 rfl (lv_at hl 2 rfl) ?_
                      refine lv_bipush (v := (10 : Int32)) S.1 S.2.1 d_Mo_count_119 (by decide) ?_
                      refine lv_icmp_lt (tgt := 141) S.1 S.2.1 d_Mo_count_121 (by decide) (fun c200 => ?_) (fun c200 => ?_)
                      · skip
                        refine lv_iload_n S.1 S.2.1 d_Mo_count_141 rfl (lv_at hl 2 rfl) ?_
                        refine lv_iconst (v := (5 : Int32)) S.1 S.2.1 d_Mo_count_142 (by decide) ?_
                        refine lv_icmp_eq (tgt := 152) S.1 S.2.1 d_Mo_count_143 (by decide) (fun c201 => ?_) (fun c201 => ?_)
                        · skip
                          refine lv_iload S.1 S.2.1 d_Mo_count_152 (lv_at hl 0 rfl) ?_
                          refine lv_if_ne (tgt := 177) S.1 S.2.1 d_Mo_count_154 (by decide) (fun c202 => ?_) (fun c202 => ?_)
                          · skip
                            refine lv_iload_n S.1 S.2.1 d_Mo_count_177 rfl (lv_at hl 2 rfl) ?_
                            refine lv_iconst (v := (3 : Int32)) S.1 S.2.1 d_Mo_count_178 (by decide) ?_
                            refine lv_icmp_ne (tgt := 187) S.1 S.2.1 d_Mo_count_179 (by decide) (fun c203 => ?_) (fun c203 => ?_)
                            · skip
                              refine lv_iload_n S.1 S.2.1 d_Mo_count_187 rfl (lv_at hl 2 rfl) ?_
                              refine lv_iconst (v := (4 : Int32)) S.1 S.2.1 d_Mo_count_188 (by decide) ?_
                              refine lv_icmp_ne (tgt := 209) S.1 S.2.1 d_Mo_count_189 (by decide) (fun c204 => ?_) (fun c204 => ?_)
                              · skip
                                refine lv_iinc (v := (nI (i + 1))) (lv' := [(3, .int (nI (i + 1))), (4, .int (nI (mOC mem n (mem 8 i)))), (0, .ref (G.2.1 0)), (1, .int a0), (2, .int a)]) S.1 S.2.1 d_Mo_count_209 hl (k := 4) rfl (nI_1 _) (by decide) rfl (fun ls hl => ?_)
                                refine lv_goto (tgt := 83) S.1 S.2.1 d_Mo_count_212 (by decide) ?_
                                exact ih83 (i + 1, a) _ H locs ls (by omega) hw ⟨hi2, (by show a = stC mem n t a0 (fC mem n t a0 i) i; rw [← ha]; unfold stC; simp only [if_neg c133, if_pos c197, if_pos c201, if_neg c202, if_neg c203]), rfl, lv_sub hl [2, 3, 4, 0] rfl⟩
                              · skip
                                exact absurd c204 c133
                            · skip
                              refine lv_iload_n S.1 S.2.1 d_Mo_count_182 rfl (lv_at hl 3 rfl) ?_
                              refine lv_iload S.1 S.2.1 d_Mo_count_183 (lv_at hl 0 rfl) ?_
                              refine lv_iadd S.1 S.2.1 d_Mo_count_185 ?_
                              refine lv_istore_n (lv' := [(2, .int (a + (nI (mOC mem n (mem 8 i))))), (4, .int (nI (mOC mem n (mem 8 i)))), (0, .ref (G.2.1 0)), (1, .int a0), (3, .int (nI i))]) S.1 S.2.1 d_Mo_count_186 rfl hl (by decide) rfl (fun ls hl => ?_)
                              refine lv_iload_n S.1 S.2.1 d_Mo_count_187 rfl (lv_at hl 3 rfl) ?_
                              refine lv_iconst (v := (4 : Int32)) S.1 S.2.1 d_Mo_count_188 (by decide) ?_
                              refine lv_icmp_ne (tgt := 209) S.1 S.2.1 d_Mo_count_189 (by decide) (fun c205 => ?_) (fun c205 => ?_)
                              · skip
                                refine lv_iinc (v := (nI (i + 1))) (lv' := [(3, .int (nI (i + 1))), (2, .int (a + (nI (mOC mem n (mem 8 i))))), (4, .int (nI (mOC mem n (mem 8 i)))), (0, .ref (G.2.1 0)), (1, .int a0)]) S.1 S.2.1 d_Mo_count_209 hl (k := 4) rfl (nI_1 _) (by decide) rfl (fun ls hl => ?_)
                                refine lv_goto (tgt := 83) S.1 S.2.1 d_Mo_count_212 (by decide) ?_
                                exact ih83 (i + 1, (a + (nI (mOC mem n (mem 8 i))))) _ H locs ls (by omega) hw ⟨hi2, (by show (a + (nI (mOC mem n (mem 8 i)))) = stC mem n t a0 (fC mem n t a0 i) i; rw [← ha]; unfold stC; simp only [if_neg c133, if_pos c197, if_pos c201, if_neg c202, if_pos c203]), rfl, lv_sub hl [3, 4, 1, 0] rfl⟩
                              · skip
                                exact absurd c205 c133
                          · skip
                            refine lv_iload_n S.1 S.2.1 d_Mo_count_157 rfl (lv_at hl 2 rfl) ?_
                            refine lv_iconst (v := (5 : Int32)) S.1 S.2.1 d_Mo_count_158 (by decide) ?_
                            refine lv_icmp_eq (tgt := 174) S.1 S.2.1 d_Mo_count_159 (by decide) (fun c206 => ?_) (fun c206 => ?_)
                            · skip
                              refine lv_iinc (v := (a + (1 : Int32))) (lv' := [(2, .int (a + (1 : Int32))), (4, .int (nI (mOC mem n (mem 8 i)))), (0, .ref (G.2.1 0)), (1, .int a0), (3, .int (nI i))]) S.1 S.2.1 d_Mo_count_174 hl (k := 3) rfl rfl (by decide) rfl (fun ls hl => ?_)
                              refine lv_iload_n S.1 S.2.1 d_Mo_count_177 rfl (lv_at hl 3 rfl) ?_
                              refine lv_iconst (v := (3 : Int32)) S.1 S.2.1 d_Mo_count_178 (by decide) ?_
                              refine lv_icmp_ne (tgt := 187) S.1 S.2.1 d_Mo_count_179 (by decide) (fun c207 => ?_) (fun c207 => ?_)
                              · skip
                                refine lv_iload_n S.1 S.2.1 d_Mo_count_187 rfl (lv_at hl 3 rfl) ?_
                                refine lv_iconst (v := (4 : Int32)) S.1 S.2.1 d_Mo_count_188 (by decide) ?_
                                refine lv_icmp_ne (tgt := 209) S.1 S.2.1 d_Mo_count_189 (by decide) (fun c208 => ?_) (fun c208 => ?_)
                                · skip
                                  refine lv_iinc (v := (nI (i + 1))) (lv' := [(3, .int (nI (i + 1))), (2, .int (a + (1 : Int32))), (4, .int (nI (mOC mem n (mem 8 i)))), (0, .ref (G.2.1 0)), (1, .int a0)]) S.1 S.2.1 d_Mo_count_209 hl (k := 4) rfl (nI_1 _) (by decide) rfl (fun ls hl => ?_)
                                  refine lv_goto (tgt := 83) S.1 S.2.1 d_Mo_count_212 (by decide) ?_
                                  exact ih83 (i + 1, (a + (1 : Int32))) _ H locs ls (by omega) hw ⟨hi2, (by show (a + (1 : Int32)) = stC mem n t a0 (fC mem n t a0 i) i; rw [← ha]; unfold stC; simp only [if_neg c133, if_pos c197, if_pos c201, if_pos c202, if_neg c207]), rfl, lv_sub hl [3, 4, 1, 0] rfl⟩
                                · skip
                                  exact absurd c208 c133
                              · skip
                                refine lv_iload_n S.1 S.2.1 d_Mo_count_182 rfl (lv_at hl 0 rfl) ?_
                                refine lv_iload S.1 S.2.1 d_Mo_count_183 (lv_at hl 1 rfl) ?_
                                refine lv_iadd S.1 S.2.1 d_Mo_count_185 ?_
                                refine lv_istore_n (lv' := [(2, .int ((a + (1 : Int32)) + (nI (mOC mem n (mem 8 i))))), (4, .int (nI (mOC mem n (mem 8 i)))), (0, .ref (G.2.1 0)), (1, .int a0), (3, .int (nI i))]) S.1 S.2.1 d_Mo_count_186 rfl hl (by decide) rfl (fun ls hl => ?_)
                                refine lv_iload_n S.1 S.2.1 d_Mo_count_187 rfl (lv_at hl 3 rfl) ?_
                                refine lv_iconst (v := (4 : Int32)) S.1 S.2.1 d_Mo_count_188 (by decide) ?_
                                refine lv_icmp_ne (tgt := 209) S.1 S.2.1 d_Mo_count_189 (by decide) (fun c209 => ?_) (fun c209 => ?_)
                                · skip
                                  refine lv_iinc (v := (nI (i + 1))) (lv' := [(3, .int (nI (i + 1))), (2, .int ((a + (1 : Int32)) + (nI (mOC mem n (mem 8 i))))), (4, .int (nI (mOC mem n (mem 8 i)))), (0, .ref (G.2.1 0)), (1, .int a0)]) S.1 S.2.1 d_Mo_count_209 hl (k := 4) rfl (nI_1 _) (by decide) rfl (fun ls hl => ?_)
                                  refine lv_goto (tgt := 83) S.1 S.2.1 d_Mo_count_212 (by decide) ?_
                                  exact ih83 (i + 1, ((a + (1 : Int32)) + (nI (mOC mem n (mem 8 i))))) _ H locs ls (by omega) hw ⟨hi2, (by show ((a + (1 : Int32)) + (nI (mOC mem n (mem 8 i)))) = stC mem n t a0 (fC mem n t a0 i) i; rw [← ha]; unfold stC; simp only [if_neg c133, if_pos c197, if_pos c201, if_pos c202, if_pos c207]), rfl, lv_sub hl [3, 4, 1, 0] rfl⟩
                                · skip
                                  exact absurd c209 c133
                            · skip
                              exact absurd c201 c206
                        · skip
                          refine lv_iload_n S.1 S.2.1 d_Mo_count_146 rfl (lv_at hl 2 rfl) ?_
                          refine lv_bipush (v := (6 : Int32)) S.1 S.2.1 d_Mo_count_147 (by decide) ?_
                          refine lv_icmp_ne (tgt := 177) S.1 S.2.1 d_Mo_count_149 (by decide) (fun c210 => ?_) (fun c210 => ?_)
                          · skip
                            refine lv_iload_n S.1 S.2.1 d_Mo_count_177 rfl (lv_at hl 2 rfl) ?_
                            refine lv_iconst (v := (3 : Int32)) S.1 S.2.1 d_Mo_count_178 (by decide) ?_
                            refine lv_icmp_ne (tgt := 187) S.1 S.2.1 d_Mo_count_179 (by decide) (fun c211 => ?_) (fun c211 => ?_)
                            · skip
                              refine lv_iload_n S.1 S.2.1 d_Mo_count_187 rfl (lv_at hl 2 rfl) ?_
                              refine lv_iconst (v := (4 : Int32)) S.1 S.2.1 d_Mo_count_188 (by decide) ?_
                              refine lv_icmp_ne (tgt := 209) S.1 S.2.1 d_Mo_count_189 (by decide) (fun c212 => ?_) (fun c212 => ?_)
                              · skip
                                refine lv_iinc (v := (nI (i + 1))) (lv' := [(3, .int (nI (i + 1))), (4, .int (nI (mOC mem n (mem 8 i)))), (0, .ref (G.2.1 0)), (1, .int a0), (2, .int a)]) S.1 S.2.1 d_Mo_count_209 hl (k := 4) rfl (nI_1 _) (by decide) rfl (fun ls hl => ?_)
                                refine lv_goto (tgt := 83) S.1 S.2.1 d_Mo_count_212 (by decide) ?_
                                exact ih83 (i + 1, a) _ H locs ls (by omega) hw ⟨hi2, (by show a = stC mem n t a0 (fC mem n t a0 i) i; rw [← ha]; unfold stC; simp only [if_neg c133, if_pos c197, if_neg c201, if_neg c210, if_neg c211]), rfl, lv_sub hl [2, 3, 4, 0] rfl⟩
                              · skip
                                exact absurd c212 c133
                            · skip
                              refine lv_iload_n S.1 S.2.1 d_Mo_count_182 rfl (lv_at hl 3 rfl) ?_
                              refine lv_iload S.1 S.2.1 d_Mo_count_183 (lv_at hl 0 rfl) ?_
                              refine lv_iadd S.1 S.2.1 d_Mo_count_185 ?_
                              refine lv_istore_n (lv' := [(2, .int (a + (nI (mOC mem n (mem 8 i))))), (4, .int (nI (mOC mem n (mem 8 i)))), (0, .ref (G.2.1 0)), (1, .int a0), (3, .int (nI i))]) S.1 S.2.1 d_Mo_count_186 rfl hl (by decide) rfl (fun ls hl => ?_)
                              refine lv_iload_n S.1 S.2.1 d_Mo_count_187 rfl (lv_at hl 3 rfl) ?_
                              refine lv_iconst (v := (4 : Int32)) S.1 S.2.1 d_Mo_count_188 (by decide) ?_
                              refine lv_icmp_ne (tgt := 209) S.1 S.2.1 d_Mo_count_189 (by decide) (fun c213 => ?_) (fun c213 => ?_)
                              · skip
                                refine lv_iinc (v := (nI (i + 1))) (lv' := [(3, .int (nI (i + 1))), (2, .int (a + (nI (mOC mem n (mem 8 i))))), (4, .int (nI (mOC mem n (mem 8 i)))), (0, .ref (G.2.1 0)), (1, .int a0)]) S.1 S.2.1 d_Mo_count_209 hl (k := 4) rfl (nI_1 _) (by decide) rfl (fun ls hl => ?_)
                                refine lv_goto (tgt := 83) S.1 S.2.1 d_Mo_count_212 (by decide) ?_
                                exact ih83 (i + 1, (a + (nI (mOC mem n (mem 8 i))))) _ H locs ls (by omega) hw ⟨hi2, (by show (a + (nI (mOC mem n (mem 8 i)))) = stC mem n t a0 (fC mem n t a0 i) i; rw [← ha]; unfold stC; simp only [if_neg c133, if_pos c197, if_neg c201, if_neg c210, if_pos c211]), rfl, lv_sub hl [3, 4, 1, 0] rfl⟩
                              · skip
                                exact absurd c213 c133
                          · skip
                            refine lv_iload S.1 S.2.1 d_Mo_count_152 (lv_at hl 0 rfl) ?_
                            refine lv_if_ne (tgt := 177) S.1 S.2.1 d_Mo_count_154 (by decide) (fun c214 => ?_) (fun c214 => ?_)
                            · skip
                              refine lv_iload_n S.1 S.2.1 d_Mo_count_177 rfl (lv_at hl 2 rfl) ?_
                              refine lv_iconst (v := (3 : Int32)) S.1 S.2.1 d_Mo_count_178 (by decide) ?_
                              refine lv_icmp_ne (tgt := 187) S.1 S.2.1 d_Mo_count_179 (by decide) (fun c215 => ?_) (fun c215 => ?_)
                              · skip
                                refine lv_iload_n S.1 S.2.1 d_Mo_count_187 rfl (lv_at hl 2 rfl) ?_
                                refine lv_iconst (v := (4 : Int32)) S.1 S.2.1 d_Mo_count_188 (by decide) ?_
                                refine lv_icmp_ne (tgt := 209) S.1 S.2.1 d_Mo_count_189 (by decide) (fun c216 => ?_) (fun c216 => ?_)
                                · skip
                                  refine lv_iinc (v := (nI (i + 1))) (lv' := [(3, .int (nI (i + 1))), (4, .int (nI (mOC mem n (mem 8 i)))), (0, .ref (G.2.1 0)), (1, .int a0), (2, .int a)]) S.1 S.2.1 d_Mo_count_209 hl (k := 4) rfl (nI_1 _) (by decide) rfl (fun ls hl => ?_)
                                  refine lv_goto (tgt := 83) S.1 S.2.1 d_Mo_count_212 (by decide) ?_
                                  exact ih83 (i + 1, a) _ H locs ls (by omega) hw ⟨hi2, (by show a = stC mem n t a0 (fC mem n t a0 i) i; rw [← ha]; unfold stC; simp only [if_neg c133, if_pos c197, if_neg c201, if_pos c210, if_neg c214, if_neg c215]), rfl, lv_sub hl [2, 3, 4, 0] rfl⟩
                                · skip
                                  exact absurd c216 c133
                              · skip
                                refine lv_iload_n S.1 S.2.1 d_Mo_count_182 rfl (lv_at hl 3 rfl) ?_
                                refine lv_iload S.1 S.2.1 d_Mo_count_183 (lv_at hl 0 rfl) ?_
                                refine lv_iadd S.1 S.2.1 d_Mo_count_185 ?_
                                refine lv_istore_n (lv' := [(2, .int (a + (nI (mOC mem n (mem 8 i))))), (4, .int (nI (mOC mem n (mem 8 i)))), (0, .ref (G.2.1 0)), (1, .int a0), (3, .int (nI i))]) S.1 S.2.1 d_Mo_count_186 rfl hl (by decide) rfl (fun ls hl => ?_)
                                refine lv_iload_n S.1 S.2.1 d_Mo_count_187 rfl (lv_at hl 3 rfl) ?_
                                refine lv_iconst (v := (4 : Int32)) S.1 S.2.1 d_Mo_count_188 (by decide) ?_
                                refine lv_icmp_ne (tgt := 209) S.1 S.2.1 d_Mo_count_189 (by decide) (fun c217 => ?_) (fun c217 => ?_)
                                · skip
                                  refine lv_iinc (v := (nI (i + 1))) (lv' := [(3, .int (nI (i + 1))), (2, .int (a + (nI (mOC mem n (mem 8 i))))), (4, .int (nI (mOC mem n (mem 8 i)))), (0, .ref (G.2.1 0)), (1, .int a0)]) S.1 S.2.1 d_Mo_count_209 hl (k := 4) rfl (nI_1 _) (by decide) rfl (fun ls hl => ?_)
                                  refine lv_goto (tgt := 83) S.1 S.2.1 d_Mo_count_212 (by decide) ?_
                                  exact ih83 (i + 1, (a + (nI (mOC mem n (mem 8 i))))) _ H locs ls (by omega) hw ⟨hi2, (by show (a + (nI (mOC mem n (mem 8 i)))) = stC mem n t a0 (fC mem n t a0 i) i; rw [← ha]; unfold stC; simp only [if_neg c133, if_pos c197, if_neg c201, if_pos c210, if_neg c214, if_pos c215]), rfl, lv_sub hl [3, 4, 1, 0] rfl⟩
                                · skip
                                  exact absurd c217 c133
                            · skip
                              refine lv_iload_n S.1 S.2.1 d_Mo_count_157 rfl (lv_at hl 2 rfl) ?_
                              refine lv_iconst (v := (5 : Int32)) S.1 S.2.1 d_Mo_count_158 (by decide) ?_
                              refine lv_icmp_eq (tgt := 174) S.1 S.2.1 d_Mo_count_159 (by decide) (fun c218 => ?_) (fun c218 => ?_)
                              · skip
                                exact absurd c218 c201
                              · skip
                                refine lv_aload_n S.1 S.2.1 d_Mo_count_162 rfl (lv_at hl 1 rfl) ?_
                                refine u_get (v := .ref (G.2.1 8)) S hw 0 (by decide) rfl rfl in_Mo 12 (by decide) lf_Mo_31 rfl d_Mo_count_163 ?_
                                refine lv_iload_n S.1 S.2.1 d_Mo_count_166 rfl (lv_at hl 4 rfl) ?_
                                refine u_iaN S hw 8 0 (by decide) rfl rfl (j := i) rfl (by omega) (by decide) d_Mo_count_167 ?_
                                refine u_callp hw (va_runS (As := [.int (mem 8 i)]) (rest := []) S (c_Mo_isDone l (mem 8 i)) ⟨u_cB S.2.2.2.2 t_Mo_isDone ln_Mo lm_Mo_121 hd_Mo_isDone rfl rfl ⟨Nat.le_of_ble_eq_true rfl, Nat.le_of_ble_eq_true rfl⟩, S.2.2.2.2 _ lt_Mo_isDone⟩ (u_preP hw.1.2) rfl rfl hl.1 rfl (lv_room (Nat.le_of_ble_eq_true rfl)) d_Mo_count_168 ⟨Nat.zero_le _, Nat.zero_le _⟩) (fun r H locs hp hw => ?_)
                                refine u_top (y := (s_Mo_isDone (mem 8 i))) hp ?_
                                refine lv_if_eq (tgt := 177) S.1 S.2.1 d_Mo_count_171 (by decide) (fun c219 => ?_) (fun c219 => ?_)
                                · skip
                                  refine lv_iload_n S.1 S.2.1 d_Mo_count_177 rfl (lv_at hl 2 rfl) ?_
                                  refine lv_iconst (v := (3 : Int32)) S.1 S.2.1 d_Mo_count_178 (by decide) ?_
                                  refine lv_icmp_ne (tgt := 187) S.1 S.2.1 d_Mo_count_179 (by decide) (fun c220 => ?_) (fun c220 => ?_)
                                  · skip
                                    refine lv_iload_n S.1 S.2.1 d_Mo_count_187 rfl (lv_at hl 2 rfl) ?_
                                    refine lv_iconst (v := (4 : Int32)) S.1 S.2.1 d_Mo_count_188 (by decide) ?_
                                    refine lv_icmp_ne (tgt := 209) S.1 S.2.1 d_Mo_count_189 (by decide) (fun c221 => ?_) (fun c221 => ?_)
                                    · skip
                                      refine lv_iinc (v := (nI (i + 1))) (lv' := [(3, .int (nI (i + 1))), (4, .int (nI (mOC mem n (mem 8 i)))), (0, .ref (G.2.1 0)), (1, .int a0), (2, .int a)]) S.1 S.2.1 d_Mo_count_209 hl (k := 4) rfl (nI_1 _) (by decide) rfl (fun ls hl => ?_)
                                      refine lv_goto (tgt := 83) S.1 S.2.1 d_Mo_count_212 (by decide) ?_
                                      exact ih83 (i + 1, a) _ H locs ls (by omega) hw ⟨hi2, (by show a = stC mem n t a0 (fC mem n t a0 i) i; rw [← ha]; unfold stC; simp only [if_neg c133, if_pos c197, if_neg c201, if_pos c210, if_pos c214, if_pos c219, if_neg c220]), rfl, lv_sub hl [2, 3, 4, 0] rfl⟩
                                    · skip
                                      exact absurd c221 c133
                                  · skip
                                    refine lv_iload_n S.1 S.2.1 d_Mo_count_182 rfl (lv_at hl 3 rfl) ?_
                                    refine lv_iload S.1 S.2.1 d_Mo_count_183 (lv_at hl 0 rfl) ?_
                                    refine lv_iadd S.1 S.2.1 d_Mo_count_185 ?_
                                    refine lv_istore_n (lv' := [(2, .int (a + (nI (mOC mem n (mem 8 i))))), (4, .int (nI (mOC mem n (mem 8 i)))), (0, .ref (G.2.1 0)), (1, .int a0), (3, .int (nI i))]) S.1 S.2.1 d_Mo_count_186 rfl hl (by decide) rfl (fun ls hl => ?_)
                                    refine lv_iload_n S.1 S.2.1 d_Mo_count_187 rfl (lv_at hl 3 rfl) ?_
                                    refine lv_iconst (v := (4 : Int32)) S.1 S.2.1 d_Mo_count_188 (by decide) ?_
                                    refine lv_icmp_ne (tgt := 209) S.1 S.2.1 d_Mo_count_189 (by decide) (fun c222 => ?_) (fun c222 => ?_)
                                    · skip
                                      refine lv_iinc (v := (nI (i + 1))) (lv' := [(3, .int (nI (i + 1))), (2, .int (a + (nI (mOC mem n (mem 8 i))))), (4, .int (nI (mOC mem n (mem 8 i)))), (0, .ref (G.2.1 0)), (1, .int a0)]) S.1 S.2.1 d_Mo_count_209 hl (k := 4) rfl (nI_1 _) (by decide) rfl (fun ls hl => ?_)
                                      refine lv_goto (tgt := 83) S.1 S.2.1 d_Mo_count_212 (by decide) ?_
                                      exact ih83 (i + 1, (a + (nI (mOC mem n (mem 8 i))))) _ H locs ls (by omega) hw ⟨hi2, (by show (a + (nI (mOC mem n (mem 8 i)))) = stC mem n t a0 (fC mem n t a0 i) i; rw [← ha]; unfold stC; simp only [if_neg c133, if_pos c197, if_neg c201, if_pos c210, if_pos c214, if_pos c219, if_pos c220]), rfl, lv_sub hl [3, 4, 1, 0] rfl⟩
                                    · skip
                                      exact absurd c222 c133
                                · skip
                                  refine lv_iinc (v := (a + (1 : Int32))) (lv' := [(2, .int (a + (1 : Int32))), (4, .int (nI (mOC mem n (mem 8 i)))), (0, .ref (G.2.1 0)), (1, .int a0), (3, .int (nI i))]) S.1 S.2.1 d_Mo_count_174 hl (k := 3) rfl rfl (by decide) rfl (fun ls hl => ?_)
                                  refine lv_iload_n S.1 S.2.1 d_Mo_count_177 rfl (lv_at hl 3 rfl) ?_
                                  refine lv_iconst (v := (3 : Int32)) S.1 S.2.1 d_Mo_count_178 (by decide) ?_
                                  refine lv_icmp_ne (tgt := 187) S.1 S.2.1 d_Mo_count_179 (by decide) (fun c223 => ?_) (fun c223 => ?_)
                                  · skip
                                    refine lv_iload_n S.1 S.2.1 d_Mo_count_187 rfl (lv_at hl 3 rfl) ?_
                                    refine lv_iconst (v := (4 : Int32)) S.1 S.2.1 d_Mo_count_188 (by decide) ?_
                                    refine lv_icmp_ne (tgt := 209) S.1 S.2.1 d_Mo_count_189 (by decide) (fun c224 => ?_) (fun c224 => ?_)
                                    · skip
                                      refine lv_iinc (v := (nI (i + 1))) (lv' := [(3, .int (nI (i + 1))), (2, .int (a + (1 : Int32))), (4, .int (nI (mOC mem n (mem 8 i)))), (0, .ref (G.2.1 0)), (1, .int a0)]) S.1 S.2.1 d_Mo_count_209 hl (k := 4) rfl (nI_1 _) (by decide) rfl (fun ls hl => ?_)
                                      refine lv_goto (tgt := 83) S.1 S.2.1 d_Mo_count_212 (by decide) ?_
                                      exact ih83 (i + 1, (a + (1 : Int32))) _ H locs ls (by omega) hw ⟨hi2, (by show (a + (1 : Int32)) = stC mem n t a0 (fC mem n t a0 i) i; rw [← ha]; unfold stC; simp only [if_neg c133, if_pos c197, if_neg c201, if_pos c210, if_pos c214, if_neg c219, if_neg c223]), rfl, lv_sub hl [3, 4, 1, 0] rfl⟩
                                    · skip
                                      exact absurd c224 c133
                                  · skip
                                    refine lv_iload_n S.1 S.2.1 d_Mo_count_182 rfl (lv_at hl 0 rfl) ?_
                                    refine lv_iload S.1 S.2.1 d_Mo_count_183 (lv_at hl 1 rfl) ?_
                                    refine lv_iadd S.1 S.2.1 d_Mo_count_185 ?_
                                    refine lv_istore_n (lv' := [(2, .int ((a + (1 : Int32)) + (nI (mOC mem n (mem 8 i))))), (4, .int (nI (mOC mem n (mem 8 i)))), (0, .ref (G.2.1 0)), (1, .int a0), (3, .int (nI i))]) S.1 S.2.1 d_Mo_count_186 rfl hl (by decide) rfl (fun ls hl => ?_)
                                    refine lv_iload_n S.1 S.2.1 d_Mo_count_187 rfl (lv_at hl 3 rfl) ?_
                                    refine lv_iconst (v := (4 : Int32)) S.1 S.2.1 d_Mo_count_188 (by decide) ?_
                                    refine lv_icmp_ne (tgt := 209) S.1 S.2.1 d_Mo_count_189 (by decide) (fun c225 => ?_) (fun c225 => ?_)
                                    · skip
                                      refine lv_iinc (v := (nI (i + 1))) (lv' := [(3, .int (nI (i + 1))), (2, .int ((a + (1 : Int32)) + (nI (mOC mem n (mem 8 i))))), (4, .int (nI (mOC mem n (mem 8 i)))), (0, .ref (G.2.1 0)), (1, .int a0)]) S.1 S.2.1 d_Mo_count_209 hl (k := 4) rfl (nI_1 _) (by decide) rfl (fun ls hl => ?_)
                                      refine lv_goto (tgt := 83) S.1 S.2.1 d_Mo_count_212 (by decide) ?_
                                      exact ih83 (i + 1, ((a + (1 : Int32)) + (nI (mOC mem n (mem 8 i))))) _ H locs ls (by omega) hw ⟨hi2, (by show ((a + (1 : Int32)) + (nI (mOC mem n (mem 8 i)))) = stC mem n t a0 (fC mem n t a0 i) i; rw [← ha]; unfold stC; simp only [if_neg c133, if_pos c197, if_neg c201, if_pos c210, if_pos c214, if_neg c219, if_pos c223]), rfl, lv_sub hl [3, 4, 1, 0] rfl⟩
                                    · skip
                                      exact absurd c225 c133
                      · skip
                        exact absurd c197 c200
                    · skip
                      refine lv_iconst (v := (0 : Int32)) S.1 S.2.1 d_Mo_count_102 (by decide) ?_
                      refine lv_goto (tgt := 116) S.1 S.2.1 d_Mo_count_103 (by decide) ?_
                      refine lv_istore (lv' := [(4, .int (0 : Int32)), (0, .ref (G.2.1 0)), (1, .int a0), (2, .int a), (3, .int (nI i))]) S.1 S.2.1 d_Mo_count_116 hl (by decide) rfl (fun ls hl => ?_)
                      refine lv_iload_n S.1 S.2.1 d_Mo_count_118 rfl (lv_at hl 2 rfl) ?_
                      refine lv_bipush (v := (10 : Int32)) S.1 S.2.1 d_Mo_count_119 (by decide) ?_
                      refine lv_icmp_lt (tgt := 141) S.1 S.2.1 d_Mo_count_121 (by decide) (fun c226 => ?_) (fun c226 => ?_)
                      · skip
                        exact absurd c226 c197
                      · skip
                        obtain ⟨j9, hj9, hzt⟩ := cnt_t10 hrng c226 hlt; obtain rfl := htt j9 hj9 hzt
                        refine lv_aload_n S.1 S.2.1 d_Mo_count_124 rfl (lv_at hl 1 rfl) ?_
                        refine lv_aload_n S.1 S.2.1 d_Mo_count_125 rfl (lv_at hl 1 rfl) ?_
                        refine u_get (v := .ref (G.2.1 8)) S hw 0 (by decide) rfl rfl in_Mo 12 (by decide) lf_Mo_31 rfl d_Mo_count_126 ?_
                        refine lv_iload_n S.1 S.2.1 d_Mo_count_129 rfl (lv_at hl 4 rfl) ?_
                        refine u_iaN S hw 8 0 (by decide) rfl rfl (j := i) rfl (by omega) (by decide) d_Mo_count_130 ?_
                        refine lv_iload_n S.1 S.2.1 d_Mo_count_131 rfl (lv_at hl 2 rfl) ?_
                        refine lv_bipush (v := (10 : Int32)) S.1 S.2.1 d_Mo_count_132 (by decide) ?_
                        refine lv_isub S.1 S.2.1 d_Mo_count_134 ?_
                        refine u_top (y := (nI t)) hzt ?_
                        refine u_calli hw (va_runV (As := [.int (mem 8 i), .int (nI t)]) (rest := []) S (c_Mo_isOpen l G mem (mem 8 i) t (by omega)) ⟨u_cB S.2.2.2.2 t_Mo_isOpen ln_Mo lm_Mo_80 hd_Mo_isOpen rfl rfl ⟨Nat.le_of_ble_eq_true rfl, Nat.le_of_ble_eq_true rfl⟩, S.2.2.2.2 _ li_Mo_isOpen, S.2.2.2.2 _ ls_Mo_isOpen⟩ (u_preV hw 0 (by decide) rfl rfl) rfl rfl hl.1 rfl (lv_room (Nat.le_of_ble_eq_true rfl)) d_Mo_count_135 ⟨Nat.zero_le _, Nat.zero_le _⟩) (fun r228 mem227 H locs hp hw => ?_)
                        obtain ⟨hp, rfl⟩ := hp
                        refine u_top (y := (s_Mo_isOpen (mem 1 t) (mem 2 t) (mem 4 t) (mem 8 i))) hp ?_
                        refine lv_if_ne (tgt := 174) S.1 S.2.1 d_Mo_count_138 (by decide) (fun c229 => ?_) (fun c229 => ?_)
                        · skip
                          refine lv_iinc (v := (a + (1 : Int32))) (lv' := [(2, .int (a + (1 : Int32))), (4, .int (0 : Int32)), (0, .ref (G.2.1 0)), (1, .int a0), (3, .int (nI i))]) S.1 S.2.1 d_Mo_count_174 hl (k := 3) rfl rfl (by decide) rfl (fun ls hl => ?_)
                          refine lv_iload_n S.1 S.2.1 d_Mo_count_177 rfl (lv_at hl 3 rfl) ?_
                          refine lv_iconst (v := (3 : Int32)) S.1 S.2.1 d_Mo_count_178 (by decide) ?_
                          refine lv_icmp_ne (tgt := 187) S.1 S.2.1 d_Mo_count_179 (by decide) (fun c230 => ?_) (fun c230 => ?_)
                          · skip
                            refine lv_iload_n S.1 S.2.1 d_Mo_count_187 rfl (lv_at hl 3 rfl) ?_
                            refine lv_iconst (v := (4 : Int32)) S.1 S.2.1 d_Mo_count_188 (by decide) ?_
                            refine lv_icmp_ne (tgt := 209) S.1 S.2.1 d_Mo_count_189 (by decide) (fun c231 => ?_) (fun c231 => ?_)
                            · skip
                              refine lv_iinc (v := (nI (i + 1))) (lv' := [(3, .int (nI (i + 1))), (2, .int (a + (1 : Int32))), (4, .int (0 : Int32)), (0, .ref (G.2.1 0)), (1, .int a0)]) S.1 S.2.1 d_Mo_count_209 hl (k := 4) rfl (nI_1 _) (by decide) rfl (fun ls hl => ?_)
                              refine lv_goto (tgt := 83) S.1 S.2.1 d_Mo_count_212 (by decide) ?_
                              exact ih83 (i + 1, (a + (1 : Int32))) _ H locs ls (by omega) hw ⟨hi2, (by show (a + (1 : Int32)) = stC mem n t a0 (fC mem n t a0 i) i; rw [← ha]; unfold stC; simp only [if_neg c133, if_neg c197, if_neg c229, if_neg c230]), rfl, lv_sub hl [3, 4, 1, 0] rfl⟩
                            · skip
                              exact absurd c231 c133
                          · skip
                            refine lv_iload_n S.1 S.2.1 d_Mo_count_182 rfl (lv_at hl 0 rfl) ?_
                            refine lv_iload S.1 S.2.1 d_Mo_count_183 (lv_at hl 1 rfl) ?_
                            refine lv_iadd S.1 S.2.1 d_Mo_count_185 ?_
                            refine lv_istore_n (lv' := [(2, .int ((a + (1 : Int32)) + (0 : Int32))), (4, .int (0 : Int32)), (0, .ref (G.2.1 0)), (1, .int a0), (3, .int (nI i))]) S.1 S.2.1 d_Mo_count_186 rfl hl (by decide) rfl (fun ls hl => ?_)
                            refine lv_iload_n S.1 S.2.1 d_Mo_count_187 rfl (lv_at hl 3 rfl) ?_
                            refine lv_iconst (v := (4 : Int32)) S.1 S.2.1 d_Mo_count_188 (by decide) ?_
                            refine lv_icmp_ne (tgt := 209) S.1 S.2.1 d_Mo_count_189 (by decide) (fun c232 => ?_) (fun c232 => ?_)
                            · skip
                              refine lv_iinc (v := (nI (i + 1))) (lv' := [(3, .int (nI (i + 1))), (2, .int ((a + (1 : Int32)) + (0 : Int32))), (4, .int (0 : Int32)), (0, .ref (G.2.1 0)), (1, .int a0)]) S.1 S.2.1 d_Mo_count_209 hl (k := 4) rfl (nI_1 _) (by decide) rfl (fun ls hl => ?_)
                              refine lv_goto (tgt := 83) S.1 S.2.1 d_Mo_count_212 (by decide) ?_
                              exact ih83 (i + 1, ((a + (1 : Int32)) + (0 : Int32))) _ H locs ls (by omega) hw ⟨hi2, (by show ((a + (1 : Int32)) + (0 : Int32)) = stC mem n t a0 (fC mem n t a0 i) i; rw [← ha]; unfold stC; simp only [if_neg c133, if_neg c197, if_neg c229, if_pos c230]), rfl, lv_sub hl [3, 4, 1, 0] rfl⟩
                            · skip
                              exact absurd c232 c133
                        · skip
                          refine lv_iload_n S.1 S.2.1 d_Mo_count_141 rfl (lv_at hl 2 rfl) ?_
                          refine lv_iconst (v := (5 : Int32)) S.1 S.2.1 d_Mo_count_142 (by decide) ?_
                          refine lv_icmp_eq (tgt := 152) S.1 S.2.1 d_Mo_count_143 (by decide) (fun c233 => ?_) (fun c233 => ?_)
                          · skip
                            refine lv_iload S.1 S.2.1 d_Mo_count_152 (lv_at hl 0 rfl) ?_
                            refine lv_if_ne (tgt := 177) S.1 S.2.1 d_Mo_count_154 (by decide) (fun c234 => ?_) (fun c234 => ?_)
                            · skip
                              exact absurd (by decide) c234
                            · skip
                              refine lv_iload_n S.1 S.2.1 d_Mo_count_157 rfl (lv_at hl 2 rfl) ?_
                              refine lv_iconst (v := (5 : Int32)) S.1 S.2.1 d_Mo_count_158 (by decide) ?_
                              refine lv_icmp_eq (tgt := 174) S.1 S.2.1 d_Mo_count_159 (by decide) (fun c235 => ?_) (fun c235 => ?_)
                              · skip
                                refine lv_iinc (v := (a + (1 : Int32))) (lv' := [(2, .int (a + (1 : Int32))), (4, .int (0 : Int32)), (0, .ref (G.2.1 0)), (1, .int a0), (3, .int (nI i))]) S.1 S.2.1 d_Mo_count_174 hl (k := 3) rfl rfl (by decide) rfl (fun ls hl => ?_)
                                refine lv_iload_n S.1 S.2.1 d_Mo_count_177 rfl (lv_at hl 3 rfl) ?_
                                refine lv_iconst (v := (3 : Int32)) S.1 S.2.1 d_Mo_count_178 (by decide) ?_
                                refine lv_icmp_ne (tgt := 187) S.1 S.2.1 d_Mo_count_179 (by decide) (fun c236 => ?_) (fun c236 => ?_)
                                · skip
                                  refine lv_iload_n S.1 S.2.1 d_Mo_count_187 rfl (lv_at hl 3 rfl) ?_
                                  refine lv_iconst (v := (4 : Int32)) S.1 S.2.1 d_Mo_count_188 (by decide) ?_
                                  refine lv_icmp_ne (tgt := 209) S.1 S.2.1 d_Mo_count_189 (by decide) (fun c237 => ?_) (fun c237 => ?_)
                                  · skip
                                    refine lv_iinc (v := (nI (i + 1))) (lv' := [(3, .int (nI (i + 1))), (2, .int (a + (1 : Int32))), (4, .int (0 : Int32)), (0, .ref (G.2.1 0)), (1, .int a0)]) S.1 S.2.1 d_Mo_count_209 hl (k := 4) rfl (nI_1 _) (by decide) rfl (fun ls hl => ?_)
                                    refine lv_goto (tgt := 83) S.1 S.2.1 d_Mo_count_212 (by decide) ?_
                                    exact ih83 (i + 1, (a + (1 : Int32))) _ H locs ls (by omega) hw ⟨hi2, (by show (a + (1 : Int32)) = stC mem n t a0 (fC mem n t a0 i) i; rw [← ha]; unfold stC; simp only [if_neg c133, if_neg c197, if_pos c229, if_pos c233, if_neg c236]), rfl, lv_sub hl [3, 4, 1, 0] rfl⟩
                                  · skip
                                    exact absurd c237 c133
                                · skip
                                  refine lv_iload_n S.1 S.2.1 d_Mo_count_182 rfl (lv_at hl 0 rfl) ?_
                                  refine lv_iload S.1 S.2.1 d_Mo_count_183 (lv_at hl 1 rfl) ?_
                                  refine lv_iadd S.1 S.2.1 d_Mo_count_185 ?_
                                  refine lv_istore_n (lv' := [(2, .int ((a + (1 : Int32)) + (0 : Int32))), (4, .int (0 : Int32)), (0, .ref (G.2.1 0)), (1, .int a0), (3, .int (nI i))]) S.1 S.2.1 d_Mo_count_186 rfl hl (by decide) rfl (fun ls hl => ?_)
                                  refine lv_iload_n S.1 S.2.1 d_Mo_count_187 rfl (lv_at hl 3 rfl) ?_
                                  refine lv_iconst (v := (4 : Int32)) S.1 S.2.1 d_Mo_count_188 (by decide) ?_
                                  refine lv_icmp_ne (tgt := 209) S.1 S.2.1 d_Mo_count_189 (by decide) (fun c238 => ?_) (fun c238 => ?_)
                                  · skip
                                    refine lv_iinc (v := (nI (i + 1))) (lv' := [(3, .int (nI (i + 1))), (2, .int ((a + (1 : Int32)) + (0 : Int32))), (4, .int (0 : Int32)), (0, .ref (G.2.1 0)), (1, .int a0)]) S.1 S.2.1 d_Mo_count_209 hl (k := 4) rfl (nI_1 _) (by decide) rfl (fun ls hl => ?_)
                                    refine lv_goto (tgt := 83) S.1 S.2.1 d_Mo_count_212 (by decide) ?_
                                    exact ih83 (i + 1, ((a + (1 : Int32)) + (0 : Int32))) _ H locs ls (by omega) hw ⟨hi2, (by show ((a + (1 : Int32)) + (0 : Int32)) = stC mem n t a0 (fC mem n t a0 i) i; rw [← ha]; unfold stC; simp only [if_neg c133, if_neg c197, if_pos c229, if_pos c233, if_pos c236]), rfl, lv_sub hl [3, 4, 1, 0] rfl⟩
                                  · skip
                                    exact absurd c238 c133
                              · skip
                                exact absurd c233 c235
                          · skip
                            refine lv_iload_n S.1 S.2.1 d_Mo_count_146 rfl (lv_at hl 2 rfl) ?_
                            refine lv_bipush (v := (6 : Int32)) S.1 S.2.1 d_Mo_count_147 (by decide) ?_
                            refine lv_icmp_ne (tgt := 177) S.1 S.2.1 d_Mo_count_149 (by decide) (fun c239 => ?_) (fun c239 => ?_)
                            · skip
                              refine lv_iload_n S.1 S.2.1 d_Mo_count_177 rfl (lv_at hl 2 rfl) ?_
                              refine lv_iconst (v := (3 : Int32)) S.1 S.2.1 d_Mo_count_178 (by decide) ?_
                              refine lv_icmp_ne (tgt := 187) S.1 S.2.1 d_Mo_count_179 (by decide) (fun c240 => ?_) (fun c240 => ?_)
                              · skip
                                refine lv_iload_n S.1 S.2.1 d_Mo_count_187 rfl (lv_at hl 2 rfl) ?_
                                refine lv_iconst (v := (4 : Int32)) S.1 S.2.1 d_Mo_count_188 (by decide) ?_
                                refine lv_icmp_ne (tgt := 209) S.1 S.2.1 d_Mo_count_189 (by decide) (fun c241 => ?_) (fun c241 => ?_)
                                · skip
                                  refine lv_iinc (v := (nI (i + 1))) (lv' := [(3, .int (nI (i + 1))), (4, .int (0 : Int32)), (0, .ref (G.2.1 0)), (1, .int a0), (2, .int a)]) S.1 S.2.1 d_Mo_count_209 hl (k := 4) rfl (nI_1 _) (by decide) rfl (fun ls hl => ?_)
                                  refine lv_goto (tgt := 83) S.1 S.2.1 d_Mo_count_212 (by decide) ?_
                                  exact ih83 (i + 1, a) _ H locs ls (by omega) hw ⟨hi2, (by show a = stC mem n t a0 (fC mem n t a0 i) i; rw [← ha]; unfold stC; simp only [if_neg c133, if_neg c197, if_pos c229, if_neg c233, if_neg c239, if_neg c240]), rfl, lv_sub hl [2, 3, 4, 0] rfl⟩
                                · skip
                                  exact absurd c241 c133
                              · skip
                                refine lv_iload_n S.1 S.2.1 d_Mo_count_182 rfl (lv_at hl 3 rfl) ?_
                                refine lv_iload S.1 S.2.1 d_Mo_count_183 (lv_at hl 0 rfl) ?_
                                refine lv_iadd S.1 S.2.1 d_Mo_count_185 ?_
                                refine lv_istore_n (lv' := [(2, .int (a + (0 : Int32))), (4, .int (0 : Int32)), (0, .ref (G.2.1 0)), (1, .int a0), (3, .int (nI i))]) S.1 S.2.1 d_Mo_count_186 rfl hl (by decide) rfl (fun ls hl => ?_)
                                refine lv_iload_n S.1 S.2.1 d_Mo_count_187 rfl (lv_at hl 3 rfl) ?_
                                refine lv_iconst (v := (4 : Int32)) S.1 S.2.1 d_Mo_count_188 (by decide) ?_
                                refine lv_icmp_ne (tgt := 209) S.1 S.2.1 d_Mo_count_189 (by decide) (fun c242 => ?_) (fun c242 => ?_)
                                · skip
                                  refine lv_iinc (v := (nI (i + 1))) (lv' := [(3, .int (nI (i + 1))), (2, .int (a + (0 : Int32))), (4, .int (0 : Int32)), (0, .ref (G.2.1 0)), (1, .int a0)]) S.1 S.2.1 d_Mo_count_209 hl (k := 4) rfl (nI_1 _) (by decide) rfl (fun ls hl => ?_)
                                  refine lv_goto (tgt := 83) S.1 S.2.1 d_Mo_count_212 (by decide) ?_
                                  exact ih83 (i + 1, (a + (0 : Int32))) _ H locs ls (by omega) hw ⟨hi2, (by show (a + (0 : Int32)) = stC mem n t a0 (fC mem n t a0 i) i; rw [← ha]; unfold stC; simp only [if_neg c133, if_neg c197, if_pos c229, if_neg c233, if_neg c239, if_pos c240]), rfl, lv_sub hl [3, 4, 1, 0] rfl⟩
                                · skip
                                  exact absurd c242 c133
                            · skip
                              refine lv_iload S.1 S.2.1 d_Mo_count_152 (lv_at hl 0 rfl) ?_
                              refine lv_if_ne (tgt := 177) S.1 S.2.1 d_Mo_count_154 (by decide) (fun c243 => ?_) (fun c243 => ?_)
                              · skip
                                exact absurd (by decide) c243
                              · skip
                                refine lv_iload_n S.1 S.2.1 d_Mo_count_157 rfl (lv_at hl 2 rfl) ?_
                                refine lv_iconst (v := (5 : Int32)) S.1 S.2.1 d_Mo_count_158 (by decide) ?_
                                refine lv_icmp_eq (tgt := 174) S.1 S.2.1 d_Mo_count_159 (by decide) (fun c244 => ?_) (fun c244 => ?_)
                                · skip
                                  exact absurd c244 c233
                                · skip
                                  refine lv_aload_n S.1 S.2.1 d_Mo_count_162 rfl (lv_at hl 1 rfl) ?_
                                  refine u_get (v := .ref (G.2.1 8)) S hw 0 (by decide) rfl rfl in_Mo 12 (by decide) lf_Mo_31 rfl d_Mo_count_163 ?_
                                  refine lv_iload_n S.1 S.2.1 d_Mo_count_166 rfl (lv_at hl 4 rfl) ?_
                                  refine u_iaN S hw 8 0 (by decide) rfl rfl (j := i) rfl (by omega) (by decide) d_Mo_count_167 ?_
                                  refine u_callp hw (va_runS (As := [.int (mem 8 i)]) (rest := []) S (c_Mo_isDone l (mem 8 i)) ⟨u_cB S.2.2.2.2 t_Mo_isDone ln_Mo lm_Mo_121 hd_Mo_isDone rfl rfl ⟨Nat.le_of_ble_eq_true rfl, Nat.le_of_ble_eq_true rfl⟩, S.2.2.2.2 _ lt_Mo_isDone⟩ (u_preP hw.1.2) rfl rfl hl.1 rfl (lv_room (Nat.le_of_ble_eq_true rfl)) d_Mo_count_168 ⟨Nat.zero_le _, Nat.zero_le _⟩) (fun r H locs hp hw => ?_)
                                  refine u_top (y := (s_Mo_isDone (mem 8 i))) hp ?_
                                  refine lv_if_eq (tgt := 177) S.1 S.2.1 d_Mo_count_171 (by decide) (fun c245 => ?_) (fun c245 => ?_)
                                  · skip
                                    refine lv_iload_n S.1 S.2.1 d_Mo_count_177 rfl (lv_at hl 2 rfl) ?_
                                    refine lv_iconst (v := (3 : Int32)) S.1 S.2.1 d_Mo_count_178 (by decide) ?_
                                    refine lv_icmp_ne (tgt := 187) S.1 S.2.1 d_Mo_count_179 (by decide) (fun c246 => ?_) (fun c246 => ?_)
                                    · skip
                                      refine lv_iload_n S.1 S.2.1 d_Mo_count_187 rfl (lv_at hl 2 rfl) ?_
                                      refine lv_iconst (v := (4 : Int32)) S.1 S.2.1 d_Mo_count_188 (by decide) ?_
                                      refine lv_icmp_ne (tgt := 209) S.1 S.2.1 d_Mo_count_189 (by decide) (fun c247 => ?_) (fun c247 => ?_)
                                      · skip
                                        refine lv_iinc (v := (nI (i + 1))) (lv' := [(3, .int (nI (i + 1))), (4, .int (0 : Int32)), (0, .ref (G.2.1 0)), (1, .int a0), (2, .int a)]) S.1 S.2.1 d_Mo_count_209 hl (k := 4) rfl (nI_1 _) (by decide) rfl (fun ls hl => ?_)
                                        refine lv_goto (tgt := 83) S.1 S.2.1 d_Mo_count_212 (by decide) ?_
                                        exact ih83 (i + 1, a) _ H locs ls (by omega) hw ⟨hi2, (by show a = stC mem n t a0 (fC mem n t a0 i) i; rw [← ha]; unfold stC; simp only [if_neg c133, if_neg c197, if_pos c229, if_neg c233, if_pos c239, if_pos c245, if_neg c246]), rfl, lv_sub hl [2, 3, 4, 0] rfl⟩
                                      · skip
                                        exact absurd c247 c133
                                    · skip
                                      refine lv_iload_n S.1 S.2.1 d_Mo_count_182 rfl (lv_at hl 3 rfl) ?_
                                      refine lv_iload S.1 S.2.1 d_Mo_count_183 (lv_at hl 0 rfl) ?_
                                      refine lv_iadd S.1 S.2.1 d_Mo_count_185 ?_
                                      refine lv_istore_n (lv' := [(2, .int (a + (0 : Int32))), (4, .int (0 : Int32)), (0, .ref (G.2.1 0)), (1, .int a0), (3, .int (nI i))]) S.1 S.2.1 d_Mo_count_186 rfl hl (by decide) rfl (fun ls hl => ?_)
                                      refine lv_iload_n S.1 S.2.1 d_Mo_count_187 rfl (lv_at hl 3 rfl) ?_
                                      refine lv_iconst (v := (4 : Int32)) S.1 S.2.1 d_Mo_count_188 (by decide) ?_
                                      refine lv_icmp_ne (tgt := 209) S.1 S.2.1 d_Mo_count_189 (by decide) (fun c248 => ?_) (fun c248 => ?_)
                                      · skip
                                        refine lv_iinc (v := (nI (i + 1))) (lv' := [(3, .int (nI (i + 1))), (2, .int (a + (0 : Int32))), (4, .int (0 : Int32)), (0, .ref (G.2.1 0)), (1, .int a0)]) S.1 S.2.1 d_Mo_count_209 hl (k := 4) rfl (nI_1 _) (by decide) rfl (fun ls hl => ?_)
                                        refine lv_goto (tgt := 83) S.1 S.2.1 d_Mo_count_212 (by decide) ?_
                                        exact ih83 (i + 1, (a + (0 : Int32))) _ H locs ls (by omega) hw ⟨hi2, (by show (a + (0 : Int32)) = stC mem n t a0 (fC mem n t a0 i) i; rw [← ha]; unfold stC; simp only [if_neg c133, if_neg c197, if_pos c229, if_neg c233, if_pos c239, if_pos c245, if_pos c246]), rfl, lv_sub hl [3, 4, 1, 0] rfl⟩
                                      · skip
                                        exact absurd c248 c133
                                  · skip
                                    refine lv_iinc (v := (a + (1 : Int32))) (lv' := [(2, .int (a + (1 : Int32))), (4, .int (0 : Int32)), (0, .ref (G.2.1 0)), (1, .int a0), (3, .int (nI i))]) S.1 S.2.1 d_Mo_count_174 hl (k := 3) rfl rfl (by decide) rfl (fun ls hl => ?_)
                                    refine lv_iload_n S.1 S.2.1 d_Mo_count_177 rfl (lv_at hl 3 rfl) ?_
                                    refine lv_iconst (v := (3 : Int32)) S.1 S.2.1 d_Mo_count_178 (by decide) ?_
                                    refine lv_icmp_ne (tgt := 187) S.1 S.2.1 d_Mo_count_179 (by decide) (fun c249 => ?_) (fun c249 => ?_)
                                    · skip
                                      refine lv_iload_n S.1 S.2.1 d_Mo_count_187 rfl (lv_at hl 3 rfl) ?_
                                      refine lv_iconst (v := (4 : Int32)) S.1 S.2.1 d_Mo_count_188 (by decide) ?_
                                      refine lv_icmp_ne (tgt := 209) S.1 S.2.1 d_Mo_count_189 (by decide) (fun c250 => ?_) (fun c250 => ?_)
                                      · skip
                                        refine lv_iinc (v := (nI (i + 1))) (lv' := [(3, .int (nI (i + 1))), (2, .int (a + (1 : Int32))), (4, .int (0 : Int32)), (0, .ref (G.2.1 0)), (1, .int a0)]) S.1 S.2.1 d_Mo_count_209 hl (k := 4) rfl (nI_1 _) (by decide) rfl (fun ls hl => ?_)
                                        refine lv_goto (tgt := 83) S.1 S.2.1 d_Mo_count_212 (by decide) ?_
                                        exact ih83 (i + 1, (a + (1 : Int32))) _ H locs ls (by omega) hw ⟨hi2, (by show (a + (1 : Int32)) = stC mem n t a0 (fC mem n t a0 i) i; rw [← ha]; unfold stC; simp only [if_neg c133, if_neg c197, if_pos c229, if_neg c233, if_pos c239, if_neg c245, if_neg c249]), rfl, lv_sub hl [3, 4, 1, 0] rfl⟩
                                      · skip
                                        exact absurd c250 c133
                                    · skip
                                      refine lv_iload_n S.1 S.2.1 d_Mo_count_182 rfl (lv_at hl 0 rfl) ?_
                                      refine lv_iload S.1 S.2.1 d_Mo_count_183 (lv_at hl 1 rfl) ?_
                                      refine lv_iadd S.1 S.2.1 d_Mo_count_185 ?_
                                      refine lv_istore_n (lv' := [(2, .int ((a + (1 : Int32)) + (0 : Int32))), (4, .int (0 : Int32)), (0, .ref (G.2.1 0)), (1, .int a0), (3, .int (nI i))]) S.1 S.2.1 d_Mo_count_186 rfl hl (by decide) rfl (fun ls hl => ?_)
                                      refine lv_iload_n S.1 S.2.1 d_Mo_count_187 rfl (lv_at hl 3 rfl) ?_
                                      refine lv_iconst (v := (4 : Int32)) S.1 S.2.1 d_Mo_count_188 (by decide) ?_
                                      refine lv_icmp_ne (tgt := 209) S.1 S.2.1 d_Mo_count_189 (by decide) (fun c251 => ?_) (fun c251 => ?_)
                                      · skip
                                        refine lv_iinc (v := (nI (i + 1))) (lv' := [(3, .int (nI (i + 1))), (2, .int ((a + (1 : Int32)) + (0 : Int32))), (4, .int (0 : Int32)), (0, .ref (G.2.1 0)), (1, .int a0)]) S.1 S.2.1 d_Mo_count_209 hl (k := 4) rfl (nI_1 _) (by decide) rfl (fun ls hl => ?_)
                                        refine lv_goto (tgt := 83) S.1 S.2.1 d_Mo_count_212 (by decide) ?_
                                        exact ih83 (i + 1, ((a + (1 : Int32)) + (0 : Int32))) _ H locs ls (by omega) hw ⟨hi2, (by show ((a + (1 : Int32)) + (0 : Int32)) = stC mem n t a0 (fC mem n t a0 i) i; rw [← ha]; unfold stC; simp only [if_neg c133, if_neg c197, if_pos c229, if_neg c233, if_pos c239, if_neg c245, if_pos c249]), rfl, lv_sub hl [3, 4, 1, 0] rfl⟩
                                      · skip
                                        exact absurd c251 c133
              · skip
                have x2 := c131
                refine lv_aload_n S.1 S.2.1 d_Mo_count_74 rfl (lv_at hl 0 rfl) ?_
                refine u_get (v := .int (mem 0 17)) S hw 0 (by decide) rfl rfl in_Mo 17 (by decide) lf_Mo_106 rfl d_Mo_count_75 ?_
                refine u_top (y := (nI k)) hkk ?_
                exact u_iret S hr hlk hw ⟨fun h => absurd h x0, fun h => absurd h x1, fun _ _ => ⟨fun h => absurd h hrng, fun _ => ⟨fun h => h.elim (fun y => absurd y h18) (fun y => absurd hlt y), fun _ _ => ⟨fun _ => rfl, fun h => absurd x2 h⟩⟩⟩, rfl⟩ d_Mo_count_78
            · skip
              have hlt := c130
              refine lv_bipush (v := (-2 : Int32)) S.1 S.2.1 d_Mo_count_66 (by decide) ?_
              exact u_iret S hr hlk hw ⟨fun h => absurd h x0, fun h => absurd h x1, fun _ _ => ⟨fun h => absurd h hrng, fun _ => ⟨fun _ => rfl, fun _ h => absurd h hlt⟩⟩, rfl⟩ d_Mo_count_68
        · skip
          have hbad : s_Mo_in a0 2 6 = 0 ∧ s_Mo_in a0 10 33 = 0 := ⟨y1, c128⟩
          refine lv_iconst (v := (-1 : Int32)) S.1 S.2.1 d_Mo_count_46 (by decide) ?_
          exact u_iret S hr hlk hw ⟨fun h => absurd h x0, fun h => absurd h x1, fun _ _ => ⟨fun _ => rfl, fun h => absurd hbad h⟩, rfl⟩ d_Mo_count_47
    · skip
      have x1 := c3
      refine lv_iload_n S.1 S.2.1 d_Mo_count_9 rfl (lv_at hl 1 rfl) ?_
      refine lv_if_ne (tgt := 20) S.1 S.2.1 d_Mo_count_10 (by decide) (fun c252 => ?_) (fun c252 => ?_)
      · skip
        refine lv_aload_n S.1 S.2.1 d_Mo_count_20 rfl (lv_at hl 0 rfl) ?_
        refine u_get (v := .int (mem 0 8)) S hw 0 (by decide) rfl rfl in_Mo 8 (by decide) lf_Mo_103 rfl d_Mo_count_21 ?_
        refine u_top (y := (nI c)) hcc ?_
        exact u_iret S hr hlk hw ⟨fun h => absurd h x0, fun _ => rfl, fun _ h => absurd x1 h, rfl⟩ d_Mo_count_24
      · skip
        exact absurd c252 c1
