def moM (M : um_M) (x : Int32) (t : Nat) : Int32 := s_Mo_isOpen (M 1 t) (M 2 t) (M 4 t) x
def mlM (M : um_M) (x : Int32) (t : Nat) : Int32 := s_Mo_leads (M 4 t) (M 1 t) (M 3 t) x
def nwM (M : um_M) (x : Int32) (t : Nat) : Bool := decide (¬ moM M x t = 0) && decide (lst (fun u => decide (¬ moM M x u = 0 ∧ mlM M x u = mlM M x t)) t = t)
def ftM (M : um_M) (n k : Nat) (x : Int32) : Int32 := if lst (fun t => decide (¬ moM M x t = 0)) n < n then mFind (M 8) k (mlM M x (lst (fun t => decide (¬ moM M x t = 0)) n)) else -2
def ftL (M : um_M) (n k : Nat) (x : Int32) (i : Nat) (L : Int32) : Prop := (L = -2 ∧ ∀ t, i ≤ t → t < n → moM M x t = 0) ∨ ∃ t0, i ≤ t0 ∧ t0 < n ∧ ¬ moM M x t0 = 0 ∧ (∀ t, i ≤ t → t < t0 → moM M x t = 0) ∧ L = mFind (M 8) k (mlM M x t0)
theorem ftL_0 {M : um_M} {n k : Nat} {x L : Int32} (h : ftL M n k x 0 L) : L = ftM M n k x := by
  unfold ftM
  rcases h with ⟨e, h⟩ | ⟨t0, _, h2, h3, h4, e⟩
  · rw [lst_all (fun j hj => df (fun z => z (h j (Nat.zero_le _) hj))), if_neg (Nat.lt_irrefl _)]; exact e
  · rw [lst_at (p := fun t => decide (¬ moM M x t = 0)) h2 (dt h3) (fun j hj => df (fun z => z (h4 j (Nat.zero_le _) hj))), if_pos h2]; exact e
theorem ftL_t {M : um_M} {n k i : Nat} {x : Int32} (hi : i < n) (h : ¬ moM M x i = 0) : ftL M n k x i (mFind (M 8) k (mlM M x i)) := Or.inr ⟨i, Nat.le_refl _, hi, h, fun t a b => by omega, rfl⟩
theorem ftL_f {M : um_M} {n k i : Nat} {x L : Int32} (h : moM M x i = 0) (hL : ftL M n k x (i + 1) L) : ftL M n k x i L := by
  rcases hL with ⟨e, h'⟩ | ⟨t0, h1, h2, h3, h4, e⟩
  · refine Or.inl ⟨e, fun t a b => ?_⟩
    by_cases z : t = i
    · rw [z]; exact h
    · exact h' t (by omega) b
  · refine Or.inr ⟨t0, by omega, h2, h3, fun t a b => ?_, e⟩
    by_cases z : t = i
    · rw [z]; exact h
    · exact h4 t (by omega) b
theorem nwM_f {M : um_M} {x : Int32} {t : Nat} (h : moM M x t = 0) : nwM M x t = false := by unfold nwM; rw [df (fun z => z h)]; rfl
theorem nwM_o {M : um_M} {x : Int32} {t : Nat} {f : Int32} (ho : ¬ moM M x t = 0) (h : (f = 0 ∧ ∀ w, w < t → ¬ (¬ moM M x w = 0 ∧ mlM M x w = mlM M x t)) ∨ (f = 1 ∧ ∃ w, w < t ∧ ¬ moM M x w = 0 ∧ mlM M x w = mlM M x t)) : (f = 0 → nwM M x t = true) ∧ (¬ f = 0 → nwM M x t = false) := by
  unfold nwM
  rw [dt ho]
  refine ⟨fun e => ?_, fun e => ?_⟩
  · rcases h with ⟨_, h⟩ | ⟨e1, _⟩
    · rw [lst_all (fun j hj => df (h j hj)), dt rfl]; rfl
    · rw [e] at e1; exact absurd e1 (by decide)
  · rcases h with ⟨e0, _⟩ | ⟨_, w, hw, h1, h2⟩
    · exact absurd e0 e
    · rw [df (fun z => ?_)]; rfl
      have := lst_no (fun u => decide (¬ moM M x u = 0 ∧ mlM M x u = mlM M x t)) t w (by omega)
      exact absurd (dt (P := ¬ moM M x w = 0 ∧ mlM M x w = mlM M x t) ⟨h1, h2⟩) (by rw [this]; decide)
set_option maxHeartbeats 4000000 in
set_option maxRecDepth 100000 in
theorem c_Mo_state (l : Launch) (G : UG) (mem : um_M) (a0 a1 : Int32) (n : Nat) (hn : n ≤ 24) (hnn : mem 0 7 = nI n) (k : Nat) (hk : k ≤ 300) (hkk : mem 0 17 = nI k) : MetM l G y_Mo_state b_Mo_state 8 (some .int) ({ frames := 3, cells := 0, slots := 0, locals := 69 }) [.ref (G.2.1 0), .int a0, .int a1] mem (fun r mem' => (s_Mo_in a1 0 12 = 0 → r = -1) ∧ (¬ s_Mo_in a1 0 12 = 0 → mem 0 18 = 0 → r = -2) ∧ (¬ s_Mo_in a1 0 12 = 0 → ¬ mem 0 18 = 0 → (∀ s, s < k → a0 ≠ nI s) → r = -2) ∧ (¬ s_Mo_in a1 0 12 = 0 → ¬ mem 0 18 = 0 → ∀ s, s < k → a0 = nI s → (a1 < 10 → r = s_Mo_told (mem 8 s) a1) ∧ (a1 = 10 → r = nI (mOC mem n (mem 8 s))) ∧ (a1 = 11 → r = nI (cnt (nwM mem (mem 8 s)) n)) ∧ (¬ a1 < 10 → ¬ a1 = 10 → ¬ a1 = 11 → r = ftM mem n k (mem 8 s))) ∧ mem = mem') := by
  refine u_start [.ref (G.2.1 0), .int a0, .int a1] (by decide) (Nat.le_of_ble_eq_true rfl) ?_
  intro p_ e_ s_ m_ bl_ me_ c_ ls S hr hlk hin hl hB
  have hw := uH_start hB
  have hl : lv_has ls 8 [(0, .ref (G.2.1 0)), (1, .int a0), (2, .int a1)] := hl
  refine lv_iload_n S.1 S.2.1 d_Mo_state_0 rfl (lv_at hl 2 rfl) ?_
  refine lv_iconst (v := (0 : Int32)) S.1 S.2.1 d_Mo_state_1 (by decide) ?_
  refine lv_bipush (v := (12 : Int32)) S.1 S.2.1 d_Mo_state_2 (by decide) ?_
  refine u_callp hw (va_runS (As := [.int a1, .int (0 : Int32), .int (12 : Int32)]) (rest := []) S (c_Mo_in l a1 (0 : Int32) (12 : Int32)) ⟨u_cB S.2.2.2.2 t_Mo_in ln_Mo lm_Mo_84 hd_Mo_in rfl rfl ⟨Nat.le_of_ble_eq_true rfl, Nat.le_of_ble_eq_true rfl⟩, S.2.2.2.2 _ lt_Mo_in⟩ (u_preP hw.1.2) rfl rfl hl.1 rfl (lv_room (Nat.le_of_ble_eq_true rfl)) d_Mo_state_4 ⟨Nat.zero_le _, Nat.zero_le _⟩) (fun r H locs hp hw => ?_)
  refine u_top (y := (s_Mo_in a1 (0 : Int32) (12 : Int32))) hp ?_
  refine lv_if_ne (tgt := 12) S.1 S.2.1 d_Mo_state_7 (by decide) (fun c1 => ?_) (fun c1 => ?_)
  · skip
    have h12 := c1
    refine lv_aload_n S.1 S.2.1 d_Mo_state_12 rfl (lv_at hl 0 rfl) ?_
    refine lv_iload_n S.1 S.2.1 d_Mo_state_13 rfl (lv_at hl 1 rfl) ?_
    refine u_calli hw (va_runV (As := [.int a0]) (rest := []) S (c_Mo_isState l G mem a0) ⟨u_cB S.2.2.2.2 t_Mo_isState ln_Mo lm_Mo_128 hd_Mo_isState rfl rfl ⟨Nat.le_of_ble_eq_true rfl, Nat.le_of_ble_eq_true rfl⟩, S.2.2.2.2 _ li_Mo_isState, S.2.2.2.2 _ ls_Mo_isState⟩ (u_preV hw 0 (by decide) rfl rfl) rfl rfl hl.1 rfl (lv_room (Nat.le_of_ble_eq_true rfl)) d_Mo_state_14 ⟨Nat.zero_le _, Nat.zero_le _⟩) (fun r3 mem2 H locs hp hw => ?_)
    obtain ⟨hp, rfl⟩ := hp
    refine u_top (y := (s_Mo_isState (mem 0 18) (mem 0 17) a0)) hp ?_
    refine u_top (y := (s_Mo_isState (mem 0 18) (nI k) a0)) (by rw [hkk]) ?_
    refine lv_if_ne (tgt := 23) S.1 S.2.1 d_Mo_state_17 (by decide) (fun c4 => ?_) (fun c4 => ?_)
    · skip
      obtain ⟨h18, z, hz, rfl⟩ := isst_t hk c4
      refine lv_iload_n S.1 S.2.1 d_Mo_state_23 rfl (lv_at hl 2 rfl) ?_
      refine lv_bipush (v := (10 : Int32)) S.1 S.2.1 d_Mo_state_24 (by decide) ?_
      refine lv_icmp_ge (tgt := 41) S.1 S.2.1 d_Mo_state_26 (by decide) (fun c5 => ?_) (fun c5 => ?_)
      · skip
        have x10 : ¬ a1 < 10 := Int32.not_lt.mpr c5
        refine lv_iload_n S.1 S.2.1 d_Mo_state_41 rfl (lv_at hl 2 rfl) ?_
        refine lv_bipush (v := (10 : Int32)) S.1 S.2.1 d_Mo_state_42 (by decide) ?_
        refine lv_icmp_ne (tgt := 58) S.1 S.2.1 d_Mo_state_44 (by decide) (fun c6 => ?_) (fun c6 => ?_)
        · skip
          have x1 := c6
          refine lv_iconst (v := (0 : Int32)) S.1 S.2.1 d_Mo_state_58 (by decide) ?_
          refine lv_istore_n (lv' := [(3, .int (0 : Int32)), (0, .ref (G.2.1 0)), (1, .int (nI z)), (2, .int a1)]) S.1 S.2.1 d_Mo_state_59 rfl hl (by decide) rfl (fun ls hl => ?_)
          refine lv_bipush (v := (-2 : Int32)) S.1 S.2.1 d_Mo_state_60 (by decide) ?_
          refine lv_istore (lv' := [(4, .int (-2 : Int32)), (3, .int (0 : Int32)), (0, .ref (G.2.1 0)), (1, .int (nI z)), (2, .int a1)]) S.1 S.2.1 d_Mo_state_62 hl (by decide) rfl (fun ls hl => ?_)
          refine lv_aload_n S.1 S.2.1 d_Mo_state_64 rfl (lv_at hl 2 rfl) ?_
          refine u_get (v := .int (mem 0 7)) S hw 0 (by decide) rfl rfl in_Mo 7 (by decide) lf_Mo_77 rfl d_Mo_state_65 ?_
          refine u_top (y := (nI n)) hnn ?_
          refine lv_iconst (v := (1 : Int32)) S.1 S.2.1 d_Mo_state_68 (by decide) ?_
          refine lv_isub S.1 S.2.1 d_Mo_state_69 ?_
          refine lv_istore (lv' := [(5, .int ((nI n) - (1 : Int32))), (4, .int (-2 : Int32)), (3, .int (0 : Int32)), (0, .ref (G.2.1 0)), (1, .int (nI z)), (2, .int a1)]) S.1 S.2.1 d_Mo_state_70 hl (by decide) rfl (fun ls hl => ?_)
          refine u_loop (σ := Nat × Nat × Int32) (fun (x : Nat × Nat × Int32) (mem_ : um_M) (ls : Array Slot) => match x with | (i, a, L) => (i ≤ n) ∧ (a + cnt (nwM mem (mem 8 z)) i = cnt (nwM mem (mem 8 z)) n) ∧ (ftL mem n k (mem 8 z) i L) ∧ mem = mem_ ∧ lv_has ls 8 [(0, .ref (G.2.1 0)), (1, .int (nI z)), (2, .int a1), (3, .int (nI a)), (4, .int L), (5, .int (nI i - (1 : Int32)))]) (fun x => match x with | (i, a, L) => i) ?_ (n, 0, -2) hw ⟨Nat.le_refl _, Nat.zero_add _, Or.inl ⟨rfl, fun t a b => absurd b (by omega)⟩, rfl, lv_sub hl [3, 4, 5, 2, 1, 0] rfl⟩
          intro x memq H locs ls hw hI ih72
          obtain ⟨i, a, L⟩ := x
          obtain ⟨hik, ha, hL, rfl, hl⟩ := hI
          dsimp only at ih72
          refine lv_iload S.1 S.2.1 d_Mo_state_72 (lv_at hl 5 rfl) ?_
          refine lv_if_lt (tgt := 195) S.1 S.2.1 d_Mo_state_74 (by decide) (fun c7 => ?_) (fun c7 => ?_)
          · skip
            have hi0 : i = 0 := down0 (by omega) c7
            refine lv_iload_n S.1 S.2.1 d_Mo_state_195 rfl (lv_at hl 2 rfl) ?_
            refine lv_bipush (v := (11 : Int32)) S.1 S.2.1 d_Mo_state_196 (by decide) ?_
            refine lv_icmp_ne (tgt := 205) S.1 S.2.1 d_Mo_state_198 (by decide) (fun c8 => ?_) (fun c8 => ?_)
            · skip
              have x11 := c8
              refine lv_iload S.1 S.2.1 d_Mo_state_205 (lv_at hl 4 rfl) ?_
              exact u_iret S hr hlk hw ⟨fun h => absurd h h12, fun _ h => absurd h h18, fun _ _ h => absurd rfl (h z hz), fun _ _ i2 hi2 h => by have e := (nI_eq (by omega) (by omega)).mp h; subst e; exact ⟨fun y => absurd y x10, fun y => absurd y x1, fun y => absurd y x11, fun _ _ _ => by rw [hi0] at hL; exact ftL_0 hL⟩, rfl⟩ d_Mo_state_207
            · skip
              have x11 := c8
              refine lv_iload_n S.1 S.2.1 d_Mo_state_201 rfl (lv_at hl 3 rfl) ?_
              refine lv_goto (tgt := 207) S.1 S.2.1 d_Mo_state_202 (by decide) ?_
              exact u_iret S hr hlk hw ⟨fun h => absurd h h12, fun _ h => absurd h h18, fun _ _ h => absurd rfl (h z hz), fun _ _ i2 hi2 h => by have e := (nI_eq (by omega) (by omega)).mp h; subst e; exact ⟨fun y => absurd y x10, fun y => absurd y x1, fun _ => by rw [hi0] at ha; rw [← ha]; rfl, fun _ _ y => absurd x11 y⟩, rfl⟩ d_Mo_state_207
          · skip
            have hi0 : 0 < i := downn c7
            refine lv_aload_n S.1 S.2.1 d_Mo_state_77 rfl (lv_at hl 0 rfl) ?_
            refine lv_aload_n S.1 S.2.1 d_Mo_state_78 rfl (lv_at hl 0 rfl) ?_
            refine u_get (v := .ref (G.2.1 8)) S hw 0 (by decide) rfl rfl in_Mo 12 (by decide) lf_Mo_31 rfl d_Mo_state_79 ?_
            refine lv_iload_n S.1 S.2.1 d_Mo_state_82 rfl (lv_at hl 1 rfl) ?_
            refine u_iaN S hw 8 0 (by decide) rfl rfl (j := z) rfl (by omega) (by decide) d_Mo_state_83 ?_
            refine lv_iload S.1 S.2.1 d_Mo_state_84 (lv_at hl 5 rfl) ?_
            refine u_top (y := (nI (i - 1))) (down1 hi0) ?_
            refine u_calli hw (va_runV (As := [.int (mem 8 z), .int (nI (i - 1))]) (rest := []) S (c_Mo_isOpen l G mem (mem 8 z) (i - 1) (by omega)) ⟨u_cB S.2.2.2.2 t_Mo_isOpen ln_Mo lm_Mo_80 hd_Mo_isOpen rfl rfl ⟨Nat.le_of_ble_eq_true rfl, Nat.le_of_ble_eq_true rfl⟩, S.2.2.2.2 _ li_Mo_isOpen, S.2.2.2.2 _ ls_Mo_isOpen⟩ (u_preV hw 0 (by decide) rfl rfl) rfl rfl hl.1 rfl (lv_room (Nat.le_of_ble_eq_true rfl)) d_Mo_state_86 ⟨Nat.zero_le _, Nat.zero_le _⟩) (fun r10 mem9 H locs hp hw => ?_)
            obtain ⟨hp, rfl⟩ := hp
            refine u_top (y := (s_Mo_isOpen (mem 1 (i - 1)) (mem 2 (i - 1)) (mem 4 (i - 1)) (mem 8 z))) hp ?_
            refine lv_if_ne (tgt := 95) S.1 S.2.1 d_Mo_state_89 (by decide) (fun c11 => ?_) (fun c11 => ?_)
            · skip
              have hop : ¬ moM mem (mem 8 z) (i - 1) = 0 := c11
              refine lv_iconst (v := (0 : Int32)) S.1 S.2.1 d_Mo_state_95 (by decide) ?_
              refine lv_istore (lv' := [(6, .int (0 : Int32)), (0, .ref (G.2.1 0)), (1, .int (nI z)), (2, .int a1), (3, .int (nI a)), (4, .int L), (5, .int (nI i - (1 : Int32)))]) S.1 S.2.1 d_Mo_state_96 hl (by decide) rfl (fun ls hl => ?_)
              refine lv_iconst (v := (0 : Int32)) S.1 S.2.1 d_Mo_state_98 (by decide) ?_
              refine lv_istore (lv' := [(7, .int (0 : Int32)), (6, .int (0 : Int32)), (0, .ref (G.2.1 0)), (1, .int (nI z)), (2, .int a1), (3, .int (nI a)), (4, .int L), (5, .int (nI i - (1 : Int32)))]) S.1 S.2.1 d_Mo_state_99 hl (by decide) rfl (fun ls hl => ?_)
              refine u_loop (σ := Nat × Int32) (fun (x : Nat × Int32) (mem_ : um_M) (ls : Array Slot) => match x with | (u, f) => (u ≤ i - 1) ∧ ((f = 0 ∧ ∀ w, w < u → ¬ (¬ moM mem (mem 8 z) w = 0 ∧ mlM mem (mem 8 z) w = mlM mem (mem 8 z) (i - 1))) ∨ (f = 1 ∧ ∃ w, w < u ∧ ¬ moM mem (mem 8 z) w = 0 ∧ mlM mem (mem 8 z) w = mlM mem (mem 8 z) (i - 1))) ∧ mem = mem_ ∧ lv_has ls 8 [(0, .ref (G.2.1 0)), (1, .int (nI z)), (2, .int a1), (3, .int (nI a)), (4, .int L), (5, .int (nI i - (1 : Int32))), (6, .int f), (7, .int (nI u))]) (fun x => match x with | (u, f) => 300 - u) ?_ (0, 0) hw ⟨Nat.zero_le _, Or.inl ⟨rfl, lt_zero⟩, rfl, lv_sub hl [2, 3, 4, 5, 6, 7, 1, 0] rfl⟩
              intro x memq H locs ls hw hI ih101
              obtain ⟨u, f⟩ := x
              obtain ⟨huk, hf1, rfl, hl⟩ := hI
              dsimp only at ih101
              refine lv_iload S.1 S.2.1 d_Mo_state_101 (lv_at hl 7 rfl) ?_
              refine lv_iload S.1 S.2.1 d_Mo_state_103 (lv_at hl 5 rfl) ?_
              refine u_top (y := (nI (i - 1))) (down1 hi0) ?_
              refine lv_icmp_ge (tgt := 159) S.1 S.2.1 d_Mo_state_105 (by decide) (fun c12 => ?_) (fun c12 => ?_)
              · skip
                have hu2 : u = i - 1 := by have y := nle c12 (by omega) (by omega); omega
                have hq9 := hf1
                rw [hu2] at hq9
                refine lv_iload S.1 S.2.1 d_Mo_state_159 (lv_at hl 6 rfl) ?_
                refine lv_if_ne (tgt := 167) S.1 S.2.1 d_Mo_state_161 (by decide) (fun c13 => ?_) (fun c13 => ?_)
                · skip
                  have hf0 := c13
                  refine lv_aload_n S.1 S.2.1 d_Mo_state_167 rfl (lv_at hl 0 rfl) ?_
                  refine lv_aload_n S.1 S.2.1 d_Mo_state_168 rfl (lv_at hl 0 rfl) ?_
                  refine u_get (v := .ref (G.2.1 8)) S hw 0 (by decide) rfl rfl in_Mo 12 (by decide) lf_Mo_31 rfl d_Mo_state_169 ?_
                  refine lv_iload_n S.1 S.2.1 d_Mo_state_172 rfl (lv_at hl 1 rfl) ?_
                  refine u_iaN S hw 8 0 (by decide) rfl rfl (j := z) rfl (by omega) (by decide) d_Mo_state_173 ?_
                  refine lv_iload S.1 S.2.1 d_Mo_state_174 (lv_at hl 5 rfl) ?_
                  refine u_top (y := (nI (i - 1))) (down1 hi0) ?_
                  refine u_calli hw (va_runV (As := [.int (mem 8 z), .int (nI (i - 1))]) (rest := []) S (c_Mo_leads l G mem (mem 8 z) (i - 1) (by omega)) ⟨u_cB S.2.2.2.2 t_Mo_leads ln_Mo lm_Mo_109 hd_Mo_leads rfl rfl ⟨Nat.le_of_ble_eq_true rfl, Nat.le_of_ble_eq_true rfl⟩, S.2.2.2.2 _ li_Mo_leads, S.2.2.2.2 _ ls_Mo_leads⟩ (u_preV hw 0 (by decide) rfl rfl) rfl rfl hl.1 rfl (lv_room (Nat.le_of_ble_eq_true rfl)) d_Mo_state_176 ⟨Nat.zero_le _, Nat.zero_le _⟩) (fun r15 mem14 H locs hp hw => ?_)
                  obtain ⟨hp, rfl⟩ := hp
                  refine u_top (y := (s_Mo_leads (mem 4 (i - 1)) (mem 1 (i - 1)) (mem 3 (i - 1)) (mem 8 z))) hp ?_
                  refine lv_istore (lv' := [(7, .int (s_Mo_leads (mem 4 (i - 1)) (mem 1 (i - 1)) (mem 3 (i - 1)) (mem 8 z))), (0, .ref (G.2.1 0)), (1, .int (nI z)), (2, .int a1), (3, .int (nI a)), (4, .int L), (5, .int (nI i - (1 : Int32))), (6, .int f)]) S.1 S.2.1 d_Mo_state_179 hl (by decide) rfl (fun ls hl => ?_)
                  refine lv_aload_n S.1 S.2.1 d_Mo_state_181 rfl (lv_at hl 1 rfl) ?_
                  refine lv_iload S.1 S.2.1 d_Mo_state_182 (lv_at hl 0 rfl) ?_
                  refine u_calli hw (va_runV (As := [.int (s_Mo_leads (mem 4 (i - 1)) (mem 1 (i - 1)) (mem 3 (i - 1)) (mem 8 z))]) (rest := []) S (c_Mo_find l G mem (s_Mo_leads (mem 4 (i - 1)) (mem 1 (i - 1)) (mem 3 (i - 1)) (mem 8 z)) k hk hkk) ⟨u_cB S.2.2.2.2 t_Mo_find ln_Mo lm_Mo_112 hd_Mo_find rfl rfl ⟨Nat.le_of_ble_eq_true rfl, Nat.le_of_ble_eq_true rfl⟩, S.2.2.2.2 _ li_Mo_find, S.2.2.2.2 _ ls_Mo_find⟩ (u_preV hw 0 (by decide) rfl rfl) rfl rfl hl.1 rfl (lv_room (Nat.le_of_ble_eq_true rfl)) d_Mo_state_184 ⟨Nat.zero_le _, Nat.zero_le _⟩) (fun r17 mem16 H locs hp hw => ?_)
                  obtain ⟨hp, rfl⟩ := hp
                  refine u_top (y := (mFind (mem 8) k (s_Mo_leads (mem 4 (i - 1)) (mem 1 (i - 1)) (mem 3 (i - 1)) (mem 8 z)))) hp ?_
                  refine lv_istore (lv' := [(4, .int (mFind (mem 8) k (s_Mo_leads (mem 4 (i - 1)) (mem 1 (i - 1)) (mem 3 (i - 1)) (mem 8 z)))), (7, .int (s_Mo_leads (mem 4 (i - 1)) (mem 1 (i - 1)) (mem 3 (i - 1)) (mem 8 z))), (0, .ref (G.2.1 0)), (1, .int (nI z)), (2, .int a1), (3, .int (nI a)), (5, .int (nI i - (1 : Int32))), (6, .int f)]) S.1 S.2.1 d_Mo_state_187 hl (by decide) rfl (fun ls hl => ?_)
                  refine lv_iinc (v := (nI (i - 1) - (1 : Int32))) (lv' := [(5, .int (nI (i - 1) - (1 : Int32))), (4, .int (mFind (mem 8) k (s_Mo_leads (mem 4 (i - 1)) (mem 1 (i - 1)) (mem 3 (i - 1)) (mem 8 z)))), (7, .int (s_Mo_leads (mem 4 (i - 1)) (mem 1 (i - 1)) (mem 3 (i - 1)) (mem 8 z))), (0, .ref (G.2.1 0)), (1, .int (nI z)), (2, .int a1), (3, .int (nI a)), (6, .int f)]) S.1 S.2.1 d_Mo_state_189 hl (k := 6) rfl (down2 hi0) (by decide) rfl (fun ls hl => ?_)
                  refine lv_goto (tgt := 72) S.1 S.2.1 d_Mo_state_192 (by decide) ?_
                  exact ih72 (i - 1, a, _) _ H locs ls (by omega) hw ⟨(by show i - 1 ≤ n; omega), (by show a + cnt (nwM mem (mem 8 z)) (i - 1) = cnt (nwM mem (mem 8 z)) n; have y := cnt_f ((nwM_o hop hq9).2 hf0); rw [show i - 1 + 1 = i by omega] at y; omega), (ftL_t (i := i - 1) (by omega) hop), rfl, lv_sub hl [3, 4, 5, 6, 1, 0] rfl⟩
                · skip
                  have hf0 := c13
                  refine lv_iinc (v := (nI (a + 1))) (lv' := [(3, .int (nI (a + 1))), (0, .ref (G.2.1 0)), (1, .int (nI z)), (2, .int a1), (4, .int L), (5, .int (nI i - (1 : Int32))), (6, .int f), (7, .int (nI u))]) S.1 S.2.1 d_Mo_state_164 hl (k := 3) rfl (nI_1 _) (by decide) rfl (fun ls hl => ?_)
                  refine lv_aload_n S.1 S.2.1 d_Mo_state_167 rfl (lv_at hl 1 rfl) ?_
                  refine lv_aload_n S.1 S.2.1 d_Mo_state_168 rfl (lv_at hl 1 rfl) ?_
                  refine u_get (v := .ref (G.2.1 8)) S hw 0 (by decide) rfl rfl in_Mo 12 (by decide) lf_Mo_31 rfl d_Mo_state_169 ?_
                  refine lv_iload_n S.1 S.2.1 d_Mo_state_172 rfl (lv_at hl 2 rfl) ?_
                  refine u_iaN S hw 8 0 (by decide) rfl rfl (j := z) rfl (by omega) (by decide) d_Mo_state_173 ?_
                  refine lv_iload S.1 S.2.1 d_Mo_state_174 (lv_at hl 5 rfl) ?_
                  refine u_top (y := (nI (i - 1))) (down1 hi0) ?_
                  refine u_calli hw (va_runV (As := [.int (mem 8 z), .int (nI (i - 1))]) (rest := []) S (c_Mo_leads l G mem (mem 8 z) (i - 1) (by omega)) ⟨u_cB S.2.2.2.2 t_Mo_leads ln_Mo lm_Mo_109 hd_Mo_leads rfl rfl ⟨Nat.le_of_ble_eq_true rfl, Nat.le_of_ble_eq_true rfl⟩, S.2.2.2.2 _ li_Mo_leads, S.2.2.2.2 _ ls_Mo_leads⟩ (u_preV hw 0 (by decide) rfl rfl) rfl rfl hl.1 rfl (lv_room (Nat.le_of_ble_eq_true rfl)) d_Mo_state_176 ⟨Nat.zero_le _, Nat.zero_le _⟩) (fun r19 mem18 H locs hp hw => ?_)
                  obtain ⟨hp, rfl⟩ := hp
                  refine u_top (y := (s_Mo_leads (mem 4 (i - 1)) (mem 1 (i - 1)) (mem 3 (i - 1)) (mem 8 z))) hp ?_
                  refine lv_istore (lv' := [(7, .int (s_Mo_leads (mem 4 (i - 1)) (mem 1 (i - 1)) (mem 3 (i - 1)) (mem 8 z))), (3, .int (nI (a + 1))), (0, .ref (G.2.1 0)), (1, .int (nI z)), (2, .int a1), (4, .int L), (5, .int (nI i - (1 : Int32))), (6, .int f)]) S.1 S.2.1 d_Mo_state_179 hl (by decide) rfl (fun ls hl => ?_)
                  refine lv_aload_n S.1 S.2.1 d_Mo_state_181 rfl (lv_at hl 2 rfl) ?_
                  refine lv_iload S.1 S.2.1 d_Mo_state_182 (lv_at hl 0 rfl) ?_
                  refine u_calli hw (va_runV (As := [.int (s_Mo_leads (mem 4 (i - 1)) (mem 1 (i - 1)) (mem 3 (i - 1)) (mem 8 z))]) (rest := []) S (c_Mo_find l G mem (s_Mo_leads (mem 4 (i - 1)) (mem 1 (i - 1)) (mem 3 (i - 1)) (mem 8 z)) k hk hkk) ⟨u_cB S.2.2.2.2 t_Mo_find ln_Mo lm_Mo_112 hd_Mo_find rfl rfl ⟨Nat.le_of_ble_eq_true rfl, Nat.le_of_ble_eq_true rfl⟩, S.2.2.2.2 _ li_Mo_find, S.2.2.2.2 _ ls_Mo_find⟩ (u_preV hw 0 (by decide) rfl rfl) rfl rfl hl.1 rfl (lv_room (Nat.le_of_ble_eq_true rfl)) d_Mo_state_184 ⟨Nat.zero_le _, Nat.zero_le _⟩) (fun r21 mem20 H locs hp hw => ?_)
                  obtain ⟨hp, rfl⟩ := hp
                  refine u_top (y := (mFind (mem 8) k (s_Mo_leads (mem 4 (i - 1)) (mem 1 (i - 1)) (mem 3 (i - 1)) (mem 8 z)))) hp ?_
                  refine lv_istore (lv' := [(4, .int (mFind (mem 8) k (s_Mo_leads (mem 4 (i - 1)) (mem 1 (i - 1)) (mem 3 (i - 1)) (mem 8 z)))), (7, .int (s_Mo_leads (mem 4 (i - 1)) (mem 1 (i - 1)) (mem 3 (i - 1)) (mem 8 z))), (3, .int (nI (a + 1))), (0, .ref (G.2.1 0)), (1, .int (nI z)), (2, .int a1), (5, .int (nI i - (1 : Int32))), (6, .int f)]) S.1 S.2.1 d_Mo_state_187 hl (by decide) rfl (fun ls hl => ?_)
                  refine lv_iinc (v := (nI (i - 1) - (1 : Int32))) (lv' := [(5, .int (nI (i - 1) - (1 : Int32))), (4, .int (mFind (mem 8) k (s_Mo_leads (mem 4 (i - 1)) (mem 1 (i - 1)) (mem 3 (i - 1)) (mem 8 z)))), (7, .int (s_Mo_leads (mem 4 (i - 1)) (mem 1 (i - 1)) (mem 3 (i - 1)) (mem 8 z))), (3, .int (nI (a + 1))), (0, .ref (G.2.1 0)), (1, .int (nI z)), (2, .int a1), (6, .int f)]) S.1 S.2.1 d_Mo_state_189 hl (k := 6) rfl (down2 hi0) (by decide) rfl (fun ls hl => ?_)
                  refine lv_goto (tgt := 72) S.1 S.2.1 d_Mo_state_192 (by decide) ?_
                  exact ih72 (i - 1, a + 1, _) _ H locs ls (by omega) hw ⟨(by show i - 1 ≤ n; omega), (by show a + 1 + cnt (nwM mem (mem 8 z)) (i - 1) = cnt (nwM mem (mem 8 z)) n; have y := cnt_t ((nwM_o hop hq9).1 hf0); rw [show i - 1 + 1 = i by omega] at y; omega), (ftL_t (i := i - 1) (by omega) hop), rfl, lv_sub hl [4, 5, 6, 3, 1, 0] rfl⟩
              · skip
                have hu2 : u < i - 1 := nlt c12 (by omega) (by omega)
                refine lv_aload_n S.1 S.2.1 d_Mo_state_108 rfl (lv_at hl 0 rfl) ?_
                refine lv_aload_n S.1 S.2.1 d_Mo_state_109 rfl (lv_at hl 0 rfl) ?_
                refine u_get (v := .ref (G.2.1 8)) S hw 0 (by decide) rfl rfl in_Mo 12 (by decide) lf_Mo_31 rfl d_Mo_state_110 ?_
                refine lv_iload_n S.1 S.2.1 d_Mo_state_113 rfl (lv_at hl 1 rfl) ?_
                refine u_iaN S hw 8 0 (by decide) rfl rfl (j := z) rfl (by omega) (by decide) d_Mo_state_114 ?_
                refine lv_iload S.1 S.2.1 d_Mo_state_115 (lv_at hl 7 rfl) ?_
                refine u_calli hw (va_runV (As := [.int (mem 8 z), .int (nI u)]) (rest := []) S (c_Mo_isOpen l G mem (mem 8 z) u (by omega)) ⟨u_cB S.2.2.2.2 t_Mo_isOpen ln_Mo lm_Mo_80 hd_Mo_isOpen rfl rfl ⟨Nat.le_of_ble_eq_true rfl, Nat.le_of_ble_eq_true rfl⟩, S.2.2.2.2 _ li_Mo_isOpen, S.2.2.2.2 _ ls_Mo_isOpen⟩ (u_preV hw 0 (by decide) rfl rfl) rfl rfl hl.1 rfl (lv_room (Nat.le_of_ble_eq_true rfl)) d_Mo_state_117 ⟨Nat.zero_le _, Nat.zero_le _⟩) (fun r23 mem22 H locs hp hw => ?_)
                obtain ⟨hp, rfl⟩ := hp
                refine u_top (y := (s_Mo_isOpen (mem 1 u) (mem 2 u) (mem 4 u) (mem 8 z))) hp ?_
                refine lv_if_eq (tgt := 153) S.1 S.2.1 d_Mo_state_120 (by decide) (fun c24 => ?_) (fun c24 => ?_)
                · skip
                  have hnu : ¬ (¬ moM mem (mem 8 z) u = 0 ∧ mlM mem (mem 8 z) u = mlM mem (mem 8 z) (i - 1)) := fun y => y.1 c24
                  refine lv_iinc (v := (nI (u + 1))) (lv' := [(7, .int (nI (u + 1))), (0, .ref (G.2.1 0)), (1, .int (nI z)), (2, .int a1), (3, .int (nI a)), (4, .int L), (5, .int (nI i - (1 : Int32))), (6, .int f)]) S.1 S.2.1 d_Mo_state_153 hl (k := 7) rfl (nI_1 _) (by decide) rfl (fun ls hl => ?_)
                  refine lv_goto (tgt := 101) S.1 S.2.1 d_Mo_state_156 (by decide) ?_
                  exact ih101 (u + 1, f) _ H locs ls (by omega) hw ⟨(by show u + 1 ≤ i - 1; omega), (hf1.elim (fun y => Or.inl ⟨y.1, lt_step y.2 hnu⟩) (fun y => Or.inr ⟨y.1, by obtain ⟨w, a1, b1⟩ := y.2; exact ⟨w, by omega, b1⟩⟩)), rfl, lv_sub hl [1, 2, 3, 4, 5, 6, 7, 0] rfl⟩
                · skip
                  have hou : ¬ moM mem (mem 8 z) u = 0 := c24
                  refine lv_aload_n S.1 S.2.1 d_Mo_state_123 rfl (lv_at hl 0 rfl) ?_
                  refine lv_aload_n S.1 S.2.1 d_Mo_state_124 rfl (lv_at hl 0 rfl) ?_
                  refine u_get (v := .ref (G.2.1 8)) S hw 0 (by decide) rfl rfl in_Mo 12 (by decide) lf_Mo_31 rfl d_Mo_state_125 ?_
                  refine lv_iload_n S.1 S.2.1 d_Mo_state_128 rfl (lv_at hl 1 rfl) ?_
                  refine u_iaN S hw 8 0 (by decide) rfl rfl (j := z) rfl (by omega) (by decide) d_Mo_state_129 ?_
                  refine lv_iload S.1 S.2.1 d_Mo_state_130 (lv_at hl 7 rfl) ?_
                  refine u_calli hw (va_runV (As := [.int (mem 8 z), .int (nI u)]) (rest := []) S (c_Mo_leads l G mem (mem 8 z) u (by omega)) ⟨u_cB S.2.2.2.2 t_Mo_leads ln_Mo lm_Mo_109 hd_Mo_leads rfl rfl ⟨Nat.le_of_ble_eq_true rfl, Nat.le_of_ble_eq_true rfl⟩, S.2.2.2.2 _ li_Mo_leads, S.2.2.2.2 _ ls_Mo_leads⟩ (u_preV hw 0 (by decide) rfl rfl) rfl rfl hl.1 rfl (lv_room (Nat.le_of_ble_eq_true rfl)) d_Mo_state_132 ⟨Nat.zero_le _, Nat.zero_le _⟩) (fun r26 mem25 H locs hp hw => ?_)
                  obtain ⟨hp, rfl⟩ := hp
                  refine u_top (y := (s_Mo_leads (mem 4 u) (mem 1 u) (mem 3 u) (mem 8 z))) hp ?_
                  refine lv_aload_n S.1 S.2.1 d_Mo_state_135 rfl (lv_at hl 0 rfl) ?_
                  refine lv_aload_n S.1 S.2.1 d_Mo_state_136 rfl (lv_at hl 0 rfl) ?_
                  refine u_get (v := .ref (G.2.1 8)) S hw 0 (by decide) rfl rfl in_Mo 12 (by decide) lf_Mo_31 rfl d_Mo_state_137 ?_
                  refine lv_iload_n S.1 S.2.1 d_Mo_state_140 rfl (lv_at hl 1 rfl) ?_
                  refine u_iaN S hw 8 0 (by decide) rfl rfl (j := z) rfl (by omega) (by decide) d_Mo_state_141 ?_
                  refine lv_iload S.1 S.2.1 d_Mo_state_142 (lv_at hl 5 rfl) ?_
                  refine u_top (y := (nI (i - 1))) (down1 hi0) ?_
                  refine u_calli hw (va_runV (As := [.int (mem 8 z), .int (nI (i - 1))]) (rest := [.int (s_Mo_leads (mem 4 u) (mem 1 u) (mem 3 u) (mem 8 z))]) S (c_Mo_leads l G mem (mem 8 z) (i - 1) (by omega)) ⟨u_cB S.2.2.2.2 t_Mo_leads ln_Mo lm_Mo_109 hd_Mo_leads rfl rfl ⟨Nat.le_of_ble_eq_true rfl, Nat.le_of_ble_eq_true rfl⟩, S.2.2.2.2 _ li_Mo_leads, S.2.2.2.2 _ ls_Mo_leads⟩ (u_preV hw 0 (by decide) rfl rfl) rfl rfl hl.1 rfl (lv_room (Nat.le_of_ble_eq_true rfl)) d_Mo_state_144 ⟨Nat.zero_le _, Nat.zero_le _⟩) (fun r28 mem27 H locs hp hw => ?_)
                  obtain ⟨hp, rfl⟩ := hp
                  refine u_top (y := (s_Mo_leads (mem 4 (i - 1)) (mem 1 (i - 1)) (mem 3 (i - 1)) (mem 8 z))) hp ?_
                  refine lv_icmp_ne (tgt := 153) S.1 S.2.1 d_Mo_state_147 (by decide) (fun c29 => ?_) (fun c29 => ?_)
                  · skip
                    have hnu : ¬ (¬ moM mem (mem 8 z) u = 0 ∧ mlM mem (mem 8 z) u = mlM mem (mem 8 z) (i - 1)) := fun y => c29 y.2
                    refine lv_iinc (v := (nI (u + 1))) (lv' := [(7, .int (nI (u + 1))), (0, .ref (G.2.1 0)), (1, .int (nI z)), (2, .int a1), (3, .int (nI a)), (4, .int L), (5, .int (nI i - (1 : Int32))), (6, .int f)]) S.1 S.2.1 d_Mo_state_153 hl (k := 7) rfl (nI_1 _) (by decide) rfl (fun ls hl => ?_)
                    refine lv_goto (tgt := 101) S.1 S.2.1 d_Mo_state_156 (by decide) ?_
                    exact ih101 (u + 1, f) _ H locs ls (by omega) hw ⟨(by show u + 1 ≤ i - 1; omega), (hf1.elim (fun y => Or.inl ⟨y.1, lt_step y.2 hnu⟩) (fun y => Or.inr ⟨y.1, by obtain ⟨w, a1, b1⟩ := y.2; exact ⟨w, by omega, b1⟩⟩)), rfl, lv_sub hl [1, 2, 3, 4, 5, 6, 7, 0] rfl⟩
                  · skip
                    have hlu : mlM mem (mem 8 z) u = mlM mem (mem 8 z) (i - 1) := c29
                    refine lv_iconst (v := (1 : Int32)) S.1 S.2.1 d_Mo_state_150 (by decide) ?_
                    refine lv_istore (lv' := [(6, .int (1 : Int32)), (0, .ref (G.2.1 0)), (1, .int (nI z)), (2, .int a1), (3, .int (nI a)), (4, .int L), (5, .int (nI i - (1 : Int32))), (7, .int (nI u))]) S.1 S.2.1 d_Mo_state_151 hl (by decide) rfl (fun ls hl => ?_)
                    refine lv_iinc (v := (nI (u + 1))) (lv' := [(7, .int (nI (u + 1))), (6, .int (1 : Int32)), (0, .ref (G.2.1 0)), (1, .int (nI z)), (2, .int a1), (3, .int (nI a)), (4, .int L), (5, .int (nI i - (1 : Int32)))]) S.1 S.2.1 d_Mo_state_153 hl (k := 7) rfl (nI_1 _) (by decide) rfl (fun ls hl => ?_)
                    refine lv_goto (tgt := 101) S.1 S.2.1 d_Mo_state_156 (by decide) ?_
                    exact ih101 (u + 1, 1) _ H locs ls (by omega) hw ⟨(by show u + 1 ≤ i - 1; omega), (Or.inr ⟨rfl, u, by omega, hou, hlu⟩), rfl, lv_sub hl [2, 3, 4, 5, 6, 7, 1, 0] rfl⟩
            · skip
              have hcl : moM mem (mem 8 z) (i - 1) = 0 := c11
              refine lv_goto (tgt := 189) S.1 S.2.1 d_Mo_state_92 (by decide) ?_
              refine lv_iinc (v := (nI (i - 1) - (1 : Int32))) (lv' := [(5, .int (nI (i - 1) - (1 : Int32))), (0, .ref (G.2.1 0)), (1, .int (nI z)), (2, .int a1), (3, .int (nI a)), (4, .int L)]) S.1 S.2.1 d_Mo_state_189 hl (k := 5) rfl (down2 hi0) (by decide) rfl (fun ls hl => ?_)
              refine lv_goto (tgt := 72) S.1 S.2.1 d_Mo_state_192 (by decide) ?_
              exact ih72 (i - 1, a, L) _ H locs ls (by omega) hw ⟨(by show i - 1 ≤ n; omega), (by show a + cnt (nwM mem (mem 8 z)) (i - 1) = cnt (nwM mem (mem 8 z)) n; have y := cnt_f (nwM_f hcl); rw [show i - 1 + 1 = i by omega] at y; omega), (ftL_f hcl (by rw [show i - 1 + 1 = i by omega]; exact hL)), rfl, lv_sub hl [1, 2, 3, 4, 5, 0] rfl⟩
        · skip
          have x1 := c6
          refine lv_aload_n S.1 S.2.1 d_Mo_state_47 rfl (lv_at hl 0 rfl) ?_
          refine lv_aload_n S.1 S.2.1 d_Mo_state_48 rfl (lv_at hl 0 rfl) ?_
          refine u_get (v := .ref (G.2.1 8)) S hw 0 (by decide) rfl rfl in_Mo 12 (by decide) lf_Mo_31 rfl d_Mo_state_49 ?_
          refine lv_iload_n S.1 S.2.1 d_Mo_state_52 rfl (lv_at hl 1 rfl) ?_
          refine u_iaN S hw 8 0 (by decide) rfl rfl (j := z) rfl (by omega) (by decide) d_Mo_state_53 ?_
          refine u_calli hw (va_runV (As := [.int (mem 8 z)]) (rest := []) S (c_Mo_openIn l G mem (mem 8 z) n hn hnn) ⟨u_cB S.2.2.2.2 t_Mo_openIn ln_Mo lm_Mo_118 hd_Mo_openIn rfl rfl ⟨Nat.le_of_ble_eq_true rfl, Nat.le_of_ble_eq_true rfl⟩, S.2.2.2.2 _ li_Mo_openIn, S.2.2.2.2 _ ls_Mo_openIn⟩ (u_preV hw 0 (by decide) rfl rfl) rfl rfl hl.1 rfl (lv_room (Nat.le_of_ble_eq_true rfl)) d_Mo_state_54 ⟨Nat.zero_le _, Nat.zero_le _⟩) (fun r31 mem30 H locs hp hw => ?_)
          obtain ⟨hp, rfl⟩ := hp
          refine u_top (y := (nI (mOC mem n (mem 8 z)))) hp ?_
          exact u_iret S hr hlk hw ⟨fun h => absurd h h12, fun _ h => absurd h h18, fun _ _ h => absurd rfl (h z hz), fun _ _ i hi h => by have e := (nI_eq (by omega) (by omega)).mp h; subst e; exact ⟨fun y => absurd y x10, fun _ => rfl, fun y => absurd (x1.symm.trans y) (by decide), fun _ y => absurd x1 y⟩, rfl⟩ d_Mo_state_57
      · skip
        have x10 : a1 < 10 := Int32.not_le.mp c5
        refine lv_aload_n S.1 S.2.1 d_Mo_state_29 rfl (lv_at hl 0 rfl) ?_
        refine lv_aload_n S.1 S.2.1 d_Mo_state_30 rfl (lv_at hl 0 rfl) ?_
        refine u_get (v := .ref (G.2.1 8)) S hw 0 (by decide) rfl rfl in_Mo 12 (by decide) lf_Mo_31 rfl d_Mo_state_31 ?_
        refine lv_iload_n S.1 S.2.1 d_Mo_state_34 rfl (lv_at hl 1 rfl) ?_
        refine u_iaN S hw 8 0 (by decide) rfl rfl (j := z) rfl (by omega) (by decide) d_Mo_state_35 ?_
        refine lv_iload_n S.1 S.2.1 d_Mo_state_36 rfl (lv_at hl 2 rfl) ?_
        refine u_calli hw (va_runV (As := [.int (mem 8 z), .int a1]) (rest := []) S (c_Mo_told l G mem (mem 8 z) a1) ⟨u_cB S.2.2.2.2 t_Mo_told ln_Mo lm_Mo_131 hd_Mo_told rfl rfl ⟨Nat.le_of_ble_eq_true rfl, Nat.le_of_ble_eq_true rfl⟩, S.2.2.2.2 _ li_Mo_told, S.2.2.2.2 _ ls_Mo_told⟩ (u_preV hw 0 (by decide) rfl rfl) rfl rfl hl.1 rfl (lv_room (Nat.le_of_ble_eq_true rfl)) d_Mo_state_37 ⟨Nat.zero_le _, Nat.zero_le _⟩) (fun r33 mem32 H locs hp hw => ?_)
        obtain ⟨hp, rfl⟩ := hp
        refine u_top (y := (s_Mo_told (mem 8 z) a1)) hp ?_
        exact u_iret S hr hlk hw ⟨fun h => absurd h h12, fun _ h => absurd h h18, fun _ _ h => absurd rfl (h z hz), fun _ _ i hi h => by have e := (nI_eq (by omega) (by omega)).mp h; subst e; exact ⟨fun _ => rfl, fun y => absurd x10 (by rw [y]; decide), fun y => absurd x10 (by rw [y]; decide), fun y => absurd x10 y⟩, rfl⟩ d_Mo_state_40
    · skip
      have hno := isst_f hk c4
      refine lv_bipush (v := (-2 : Int32)) S.1 S.2.1 d_Mo_state_20 (by decide) ?_
      exact u_iret S hr hlk hw ⟨fun h => absurd h h12, fun _ _ => rfl, fun _ _ _ => rfl, fun _ h8 i hi h => absurd h (hno h8 i hi), rfl⟩ d_Mo_state_22
  · skip
    have h12 := c1
    refine lv_iconst (v := (-1 : Int32)) S.1 S.2.1 d_Mo_state_10 (by decide) ?_
    exact u_iret S hr hlk hw ⟨fun _ => rfl, fun h => absurd h12 h, fun h => absurd h12 h, fun h => absurd h12 h, rfl⟩ d_Mo_state_11
