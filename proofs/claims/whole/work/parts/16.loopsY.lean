/-! the hash table's places -/
def hs0 (x : Int32) : Nat := (x * (-1640531535)).toBitVec.toNat / 2 ^ 22
def slx (x : Int32) (d : Nat) : Nat := (hs0 x + d) % 1024
theorem slx_lt (x : Int32) (d : Nat) : slx x d < 1024 := Nat.mod_lt _ (by decide)
theorem i32_of {x : Int32} {n : Nat} (hn : n < 2 ^ 32) (h : x.toBitVec.toNat = n) : x = nI n := by
  apply Int32.toBitVec_inj.mp
  apply BitVec.eq_of_toNat_eq
  rw [h, pk_tn hn]
theorem hs0_lt (x : Int32) : hs0 x < 1024 := by
  unfold hs0
  have h := (x * (-1640531535)).toBitVec.isLt
  omega
theorem slx_eq (x : Int32) {d : Nat} (hd : d < 1024) : s_Sp_slotFor x (nI d) = nI (slx x d) := by
  have h0 := hs0_lt x
  have h1 : ((x * (-1640531535 : Int32)).toUInt32 >>> ((22 : Int32).toUInt32 &&& Int32.toUInt32 31)).toInt32 = nI (hs0 x) :=
    i32_of (by omega) (pk_ushr _ _ 22 (by decide))
  unfold s_Sp_slotFor
  rw [h1, nI_add]
  exact pk_rem (d := 1024) (by omega) (by decide) (by decide)
def n_fillTo (mem : um_M) (v : Int32) (i : Nat) : um_M := va_up mem 12 (fun j => if j < i then v else mem 12 j)
theorem fill_0 (mem : um_M) (v : Int32) : mem = n_fillTo mem v 0 := by
  funext k j
  unfold n_fillTo va_up
  by_cases h : k = 12
  · subst h; simp
  · simp [h]
theorem fill_s (mem : um_M) (v : Int32) (i : Nat) : um_set (n_fillTo mem v i) 12 i v = n_fillTo mem v (i + 1) := by
  funext k j
  rw [um_ap]
  unfold n_fillTo va_up
  by_cases h : k = 12
  · subst h
    by_cases h2 : j = i
    · subst h2; simp
    · simp only [h2, and_false, if_false]
      simp only [if_true]
      by_cases h3 : j < i
      · rw [if_pos h3, if_pos (by omega)]
      · rw [if_neg h3, if_neg (by omega)]
  · simp [h]
set_option maxHeartbeats 4000000 in
set_option maxRecDepth 100000 in
theorem c_Ar_fill (l : Launch) (G : UG) (mem : um_M) (a1 : Int32) : MetXv l G y_Ar_fill b_Ar_fill 4 ({ frames := 0, cells := 0, slots := 0, locals := 0 }) [.ref (G.2.1 12), .int a1] mem (fun mem' => n_fillTo mem a1 1024 = mem') := by
  refine u_start [.ref (G.2.1 12), .int a1] (by decide) (Nat.le_of_ble_eq_true rfl) ?_
  intro p_ e_ s_ m_ bl_ me_ c_ ls S hr hlk hin hl hB
  have hw := uH_start hB
  have hl : lv_has ls 4 [(0, .ref (G.2.1 12)), (1, .int a1)] := hl
  refine lv_iconst (v := (0 : Int32)) S.1 S.2.1 d_Ar_fill_0 (by decide) ?_
  refine lv_istore_n (lv' := [(2, .int (0 : Int32)), (0, .ref (G.2.1 12)), (1, .int a1)]) S.1 S.2.1 d_Ar_fill_1 rfl hl (by decide) rfl (fun ls hl => ?_)
  refine lv_aload_n S.1 S.2.1 d_Ar_fill_2 rfl (lv_at hl 1 rfl) ?_
  refine u_alen S hw 12 0 (by decide) rfl rfl (v := (1024 : Int32)) rfl d_Ar_fill_3 ?_
  refine lv_istore_n (lv' := [(3, .int (1024 : Int32)), (2, .int (0 : Int32)), (0, .ref (G.2.1 12)), (1, .int a1)]) S.1 S.2.1 d_Ar_fill_4 rfl hl (by decide) rfl (fun ls hl => ?_)
  refine u_loop (σ := Nat) (fun (x : Nat) (mem_ : um_M) (ls : Array Slot) => match x with | (i) => (i ≤ 1024) ∧ (mem_ = n_fillTo mem a1 i) ∧ lv_has ls 4 [(0, .ref (G.2.1 12)), (1, .int a1), (2, .int (nI i)), (3, .int (1024 : Int32))]) (fun x => match x with | (i) => 1024 - i) ?_ (0) hw ⟨Nat.zero_le _, fill_0 _ _, lv_sub hl [2, 3, 1, 0] rfl⟩
  intro i memi H locs ls hw hI ih5
  obtain ⟨hik, hm, hl⟩ := hI
  dsimp only at ih5
  refine lv_iload_n S.1 S.2.1 d_Ar_fill_5 rfl (lv_at hl 2 rfl) ?_
  refine lv_iload_n S.1 S.2.1 d_Ar_fill_6 rfl (lv_at hl 3 rfl) ?_
  refine lv_icmp_ge (tgt := 20) S.1 S.2.1 d_Ar_fill_7 (by decide) (fun c1 => ?_) (fun c1 => ?_)
  · skip
    have hi2 : i = 1024 := by have q := nle (a := 1024) c1 (by omega) (by omega); omega
    exact u_vret S hr hlk hw (by rw [hm, hi2]) d_Ar_fill_20
  · skip
    have hi2 : i < 1024 := nlt (a := 1024) c1 (by omega) (by omega)
    refine lv_aload_n S.1 S.2.1 d_Ar_fill_10 rfl (lv_at hl 0 rfl) ?_
    refine lv_iload_n S.1 S.2.1 d_Ar_fill_11 rfl (lv_at hl 2 rfl) ?_
    refine lv_iload_n S.1 S.2.1 d_Ar_fill_12 rfl (lv_at hl 1 rfl) ?_
    refine u_isN S hw 12 0 (by decide) (fun _ => rfl) rfl (j := i) rfl (by omega) (by decide) d_Ar_fill_13 (fun H locs hw => ?_)
    refine lv_iinc (v := (nI (i + 1))) (lv' := [(2, .int (nI (i + 1))), (0, .ref (G.2.1 12)), (1, .int a1), (3, .int (1024 : Int32))]) S.1 S.2.1 d_Ar_fill_14 hl (k := 2) rfl (nI_1 _) (by decide) rfl (fun ls hl => ?_)
    refine lv_goto (tgt := 5) S.1 S.2.1 d_Ar_fill_17 (by decide) ?_
    exact ih5 (i + 1) _ H locs ls (by omega) hw ⟨hi2, (by rw [hm]; exact fill_s _ _ _), lv_sub hl [1, 2, 0, 3] rfl⟩
def n_Sp_putIntoSlot (mem : um_M) (a0 a1 : Int32) : um_M := if lst (fun i => decide (mem 12 (slx a0 i) = 0)) 1024 < 1024 then um_set mem 12 (slx a0 (lst (fun i => decide (mem 12 (slx a0 i) = 0)) 1024)) a1 else mem
set_option maxHeartbeats 4000000 in
set_option maxRecDepth 100000 in
theorem c_Sp_putIntoSlot (l : Launch) (G : UG) (mem : um_M) (a0 a1 : Int32) : MetXv l G y_Sp_putIntoSlot b_Sp_putIntoSlot 5 ({ frames := 1, cells := 0, slots := 0, locals := 21 }) [.ref (G.2.1 3), .int a0, .int a1] mem (fun mem' => n_Sp_putIntoSlot mem a0 a1 = mem') := by
  refine u_start [.ref (G.2.1 3), .int a0, .int a1] (by decide) (Nat.le_of_ble_eq_true rfl) ?_
  intro p_ e_ s_ m_ bl_ me_ c_ ls S hr hlk hin hl hB
  have hw := uH_start hB
  have hl : lv_has ls 5 [(0, .ref (G.2.1 3)), (1, .int a0), (2, .int a1)] := hl
  refine lv_iconst (v := (0 : Int32)) S.1 S.2.1 d_Sp_putIntoSlot_0 (by decide) ?_
  refine lv_istore_n (lv' := [(3, .int (0 : Int32)), (0, .ref (G.2.1 3)), (1, .int a0), (2, .int a1)]) S.1 S.2.1 d_Sp_putIntoSlot_1 rfl hl (by decide) rfl (fun ls hl => ?_)
  refine u_loop (σ := Nat) (fun (x : Nat) (mem_ : um_M) (ls : Array Slot) => match x with | (i) => (i ≤ 1024) ∧ (∀ j, j < i → (fun i => decide (mem 12 (slx a0 i) = 0)) j = false) ∧ mem = mem_ ∧ lv_has ls 5 [(0, .ref (G.2.1 3)), (1, .int a0), (2, .int a1), (3, .int (nI i))]) (fun x => match x with | (i) => 1024 - i) ?_ (0) hw ⟨Nat.zero_le _, lt_zero, rfl, lv_sub hl [1, 2, 3, 0] rfl⟩
  intro i memq H locs ls hw hI ih2
  obtain ⟨hik, hno, rfl, hl⟩ := hI
  dsimp only at ih2
  refine lv_iload_n S.1 S.2.1 d_Sp_putIntoSlot_2 rfl (lv_at hl 3 rfl) ?_
  refine lv_sipush (v := (1024 : Int32)) S.1 S.2.1 d_Sp_putIntoSlot_3 (by decide) ?_
  refine lv_icmp_ge (tgt := 41) S.1 S.2.1 d_Sp_putIntoSlot_6 (by decide) (fun c1 => ?_) (fun c1 => ?_)
  · skip
    have hi2 : i = 1024 := by have q := nle (a := 1024) c1 (by omega) (by omega); omega
    have hl0 : lst (fun i => decide (mem 12 (slx a0 i) = 0)) 1024 = 1024 := lst_all (fun j hj => hno j (by omega))
    exact u_vret S hr hlk hw (by unfold n_Sp_putIntoSlot; rw [hl0, if_neg (Nat.lt_irrefl _)]) d_Sp_putIntoSlot_41
  · skip
    have hi2 : i < 1024 := nlt (a := 1024) c1 (by omega) (by omega)
    refine lv_iload_n S.1 S.2.1 d_Sp_putIntoSlot_9 rfl (lv_at hl 1 rfl) ?_
    refine lv_iload_n S.1 S.2.1 d_Sp_putIntoSlot_10 rfl (lv_at hl 3 rfl) ?_
    refine u_callp hw (va_runS (As := [.int a0, .int (nI i)]) (rest := []) S (c_Sp_slotFor l a0 (nI i)) ⟨u_cB S.2.2.2.2 t_Sp_slotFor ln_Sp lm_Sp_89 hd_Sp_slotFor rfl rfl ⟨Nat.le_of_ble_eq_true rfl, Nat.le_of_ble_eq_true rfl⟩, S.2.2.2.2 _ lt_Sp_slotFor⟩ (u_preP hw.1.2) rfl rfl hl.1 rfl (lv_room (Nat.le_of_ble_eq_true rfl)) d_Sp_putIntoSlot_11 ⟨Nat.zero_le _, Nat.zero_le _⟩) (fun r H locs hp hw => ?_)
    refine u_top (y := (s_Sp_slotFor a0 (nI i))) hp ?_
    refine u_top (y := (nI (slx a0 i))) (slx_eq a0 hi2) ?_
    refine lv_istore (lv' := [(4, .int (nI (slx a0 i))), (0, .ref (G.2.1 3)), (1, .int a0), (2, .int a1), (3, .int (nI i))]) S.1 S.2.1 d_Sp_putIntoSlot_14 hl (by decide) rfl (fun ls hl => ?_)
    refine lv_aload_n S.1 S.2.1 d_Sp_putIntoSlot_16 rfl (lv_at hl 1 rfl) ?_
    refine u_get (v := .ref (G.2.1 12)) S hw 3 (by decide) rfl rfl in_Sp 8 (by decide) lf_Sp_36 rfl d_Sp_putIntoSlot_17 ?_
    refine lv_iload S.1 S.2.1 d_Sp_putIntoSlot_20 (lv_at hl 0 rfl) ?_
    refine u_iaN S hw 12 0 (by decide) rfl rfl (j := (slx a0 i)) rfl (slx_lt _ _) (by decide) d_Sp_putIntoSlot_22 ?_
    refine lv_if_ne (tgt := 35) S.1 S.2.1 d_Sp_putIntoSlot_23 (by decide) (fun c2 => ?_) (fun c2 => ?_)
    · skip
      have hpi : decide (mem 12 (slx a0 i) = 0) = false := df c2
      refine lv_iinc (v := (nI (i + 1))) (lv' := [(3, .int (nI (i + 1))), (4, .int (nI (slx a0 i))), (0, .ref (G.2.1 3)), (1, .int a0), (2, .int a1)]) S.1 S.2.1 d_Sp_putIntoSlot_35 hl (k := 4) rfl (nI_1 _) (by decide) rfl (fun ls hl => ?_)
      refine lv_goto (tgt := 2) S.1 S.2.1 d_Sp_putIntoSlot_38 (by decide) ?_
      exact ih2 (i + 1) _ H locs ls (by omega) hw ⟨hi2, lt_step hno hpi, rfl, lv_sub hl [2, 3, 4, 0] rfl⟩
    · skip
      have hl0 := lst_at (p := (fun i => decide (mem 12 (slx a0 i) = 0))) hi2 (dt c2) hno
      refine lv_aload_n S.1 S.2.1 d_Sp_putIntoSlot_26 rfl (lv_at hl 1 rfl) ?_
      refine u_get (v := .ref (G.2.1 12)) S hw 3 (by decide) rfl rfl in_Sp 8 (by decide) lf_Sp_36 rfl d_Sp_putIntoSlot_27 ?_
      refine lv_iload S.1 S.2.1 d_Sp_putIntoSlot_30 (lv_at hl 0 rfl) ?_
      refine lv_iload_n S.1 S.2.1 d_Sp_putIntoSlot_32 rfl (lv_at hl 3 rfl) ?_
      refine u_isN S hw 12 0 (by decide) (fun _ => rfl) rfl (j := (slx a0 i)) rfl (slx_lt _ _) (by decide) d_Sp_putIntoSlot_33 (fun H locs hw => ?_)
      exact u_vret S hr hlk hw (by unfold n_Sp_putIntoSlot; rw [hl0, if_pos hi2]) d_Sp_putIntoSlot_34
def s_Sp_numberOf (nn : Nat → Nat) (sz : Int32) (st : Nat → Int32) (a0 : Int32) : Int32 := if sz = 0 then (-2 : Int32) else if lst (fun i => decide (nn (slx a0 i) = 0 ∨ st (nn (slx a0 i) - 1) = a0)) 1024 < 1024 then (if nn (slx a0 (lst (fun i => decide (nn (slx a0 i) = 0 ∨ st (nn (slx a0 i) - 1) = a0)) 1024)) = 0 then (-2 : Int32) else nI (nn (slx a0 (lst (fun i => decide (nn (slx a0 i) = 0 ∨ st (nn (slx a0 i) - 1) = a0)) 1024)) - 1)) else (-2 : Int32)
set_option maxHeartbeats 4000000 in
set_option maxRecDepth 100000 in
theorem c_Sp_numberOf (l : Launch) (G : UG) (mem : um_M) (nn : Nat → Nat) (a0 : Int32) (hnn : ∀ j, j < 1024 → mem 12 j = nI (nn j) ∧ nn j ≤ 300) : MetX l G y_Sp_numberOf b_Sp_numberOf 4 (some .int) ({ frames := 1, cells := 0, slots := 0, locals := 21 }) [.ref (G.2.1 3), .int a0] mem (fun r mem' => r = s_Sp_numberOf nn (mem 3 9) (mem 4) a0 ∧ mem = mem') := by
  refine u_start [.ref (G.2.1 3), .int a0] (by decide) (Nat.le_of_ble_eq_true rfl) ?_
  intro p_ e_ s_ m_ bl_ me_ c_ ls S hr hlk hin hl hB
  have hw := uH_start hB
  have hl : lv_has ls 4 [(0, .ref (G.2.1 3)), (1, .int a0)] := hl
  refine lv_aload_n S.1 S.2.1 d_Sp_numberOf_0 rfl (lv_at hl 0 rfl) ?_
  refine u_get (v := .int (mem 3 9)) S hw 3 (by decide) rfl rfl in_Sp 9 (by decide) lf_Sp_39 rfl d_Sp_numberOf_1 ?_
  refine lv_if_ne (tgt := 10) S.1 S.2.1 d_Sp_numberOf_4 (by decide) (fun c1 => ?_) (fun c1 => ?_)
  · skip
    have hs0 := c1
    refine lv_iconst (v := (0 : Int32)) S.1 S.2.1 d_Sp_numberOf_10 (by decide) ?_
    refine lv_istore_n (lv' := [(2, .int (0 : Int32)), (0, .ref (G.2.1 3)), (1, .int a0)]) S.1 S.2.1 d_Sp_numberOf_11 rfl hl (by decide) rfl (fun ls hl => ?_)
    refine u_loop (σ := Nat) (fun (x : Nat) (mem_ : um_M) (ls : Array Slot) => match x with | (i) => (i ≤ 1024) ∧ (∀ j, j < i → (fun i => decide (nn (slx a0 i) = 0 ∨ mem 4 (nn (slx a0 i) - 1) = a0)) j = false) ∧ mem = mem_ ∧ lv_has ls 4 [(0, .ref (G.2.1 3)), (1, .int a0), (2, .int (nI i))]) (fun x => match x with | (i) => 1024 - i) ?_ (0) hw ⟨Nat.zero_le _, lt_zero, rfl, lv_sub hl [1, 2, 0] rfl⟩
    intro i memq H locs ls hw hI ih12
    obtain ⟨hik, hno, rfl, hl⟩ := hI
    dsimp only at ih12
    refine lv_iload_n S.1 S.2.1 d_Sp_numberOf_12 rfl (lv_at hl 2 rfl) ?_
    refine lv_sipush (v := (1024 : Int32)) S.1 S.2.1 d_Sp_numberOf_13 (by decide) ?_
    refine lv_icmp_ge (tgt := 57) S.1 S.2.1 d_Sp_numberOf_16 (by decide) (fun c2 => ?_) (fun c2 => ?_)
    · skip
      have hi2 : i = 1024 := by have q := nle (a := 1024) c2 (by omega) (by omega); omega
      have hl0 : lst (fun i => decide (nn (slx a0 i) = 0 ∨ mem 4 (nn (slx a0 i) - 1) = a0)) 1024 = 1024 := lst_all (fun j hj => hno j (by omega))
      refine lv_bipush (v := (-2 : Int32)) S.1 S.2.1 d_Sp_numberOf_57 (by decide) ?_
      exact u_iret S hr hlk hw ⟨by unfold s_Sp_numberOf; rw [if_neg hs0, hl0, if_neg (Nat.lt_irrefl _)], rfl⟩ d_Sp_numberOf_59
    · skip
      have hi2 : i < 1024 := nlt (a := 1024) c2 (by omega) (by omega)
      have hb := (hnn _ (slx_lt a0 i)).2
      refine lv_aload_n S.1 S.2.1 d_Sp_numberOf_19 rfl (lv_at hl 0 rfl) ?_
      refine u_get (v := .ref (G.2.1 12)) S hw 3 (by decide) rfl rfl in_Sp 8 (by decide) lf_Sp_36 rfl d_Sp_numberOf_20 ?_
      refine lv_iload_n S.1 S.2.1 d_Sp_numberOf_23 rfl (lv_at hl 1 rfl) ?_
      refine lv_iload_n S.1 S.2.1 d_Sp_numberOf_24 rfl (lv_at hl 2 rfl) ?_
      refine u_callp hw (va_runS (As := [.int a0, .int (nI i)]) (rest := [.ref (G.2.1 12)]) S (c_Sp_slotFor l a0 (nI i)) ⟨u_cB S.2.2.2.2 t_Sp_slotFor ln_Sp lm_Sp_89 hd_Sp_slotFor rfl rfl ⟨Nat.le_of_ble_eq_true rfl, Nat.le_of_ble_eq_true rfl⟩, S.2.2.2.2 _ lt_Sp_slotFor⟩ (u_preP hw.1.2) rfl rfl hl.1 rfl (lv_room (Nat.le_of_ble_eq_true rfl)) d_Sp_numberOf_25 ⟨Nat.zero_le _, Nat.zero_le _⟩) (fun r H locs hp hw => ?_)
      refine u_top (y := (s_Sp_slotFor a0 (nI i))) hp ?_
      refine u_top (y := (nI (slx a0 i))) (slx_eq a0 hi2) ?_
      refine u_iaN S hw 12 0 (by decide) rfl rfl (j := (slx a0 i)) rfl (slx_lt _ _) (by decide) d_Sp_numberOf_28 ?_
      refine u_top (y := (nI (nn (slx a0 i)))) (hnn _ (slx_lt _ _)).1 ?_
      refine lv_iconst (v := (1 : Int32)) S.1 S.2.1 d_Sp_numberOf_29 (by decide) ?_
      refine lv_isub S.1 S.2.1 d_Sp_numberOf_30 ?_
      refine lv_istore_n (lv' := [(3, .int ((nI (nn (slx a0 i))) - (1 : Int32))), (0, .ref (G.2.1 3)), (1, .int a0), (2, .int (nI i))]) S.1 S.2.1 d_Sp_numberOf_31 rfl hl (by decide) rfl (fun ls hl => ?_)
      refine lv_iload_n S.1 S.2.1 d_Sp_numberOf_32 rfl (lv_at hl 0 rfl) ?_
      refine lv_if_ge (tgt := 39) S.1 S.2.1 d_Sp_numberOf_33 (by decide) (fun c3 => ?_) (fun c3 => ?_)
      · skip
        have hz : ¬ nn (slx a0 i) = 0 := fun h => by rw [h] at c3; exact absurd c3 (by decide)
        have hq1 : nI (nn (slx a0 i)) - (1 : Int32) = nI (nn (slx a0 i) - 1) := pk_sub (b := 1) (by omega)
        refine lv_aload_n S.1 S.2.1 d_Sp_numberOf_39 rfl (lv_at hl 1 rfl) ?_
        refine u_get (v := .ref (G.2.1 4)) S hw 3 (by decide) rfl rfl in_Sp 0 (by decide) lf_Sp_9 rfl d_Sp_numberOf_40 ?_
        refine lv_iload_n S.1 S.2.1 d_Sp_numberOf_43 rfl (lv_at hl 0 rfl) ?_
        refine u_iaN S hw 4 0 (by decide) rfl rfl (j := (nn (slx a0 i) - 1)) hq1 (by have := (hnn _ (slx_lt a0 i)).2; omega) (by decide) d_Sp_numberOf_44 ?_
        refine lv_iload_n S.1 S.2.1 d_Sp_numberOf_45 rfl (lv_at hl 2 rfl) ?_
        refine lv_icmp_ne (tgt := 51) S.1 S.2.1 d_Sp_numberOf_46 (by decide) (fun c4 => ?_) (fun c4 => ?_)
        · skip
          have hpi : decide (nn (slx a0 i) = 0 ∨ mem 4 (nn (slx a0 i) - 1) = a0) = false := df (fun h => h.elim hz c4)
          refine lv_iinc (v := (nI (i + 1))) (lv' := [(2, .int (nI (i + 1))), (3, .int ((nI (nn (slx a0 i))) - (1 : Int32))), (0, .ref (G.2.1 3)), (1, .int a0)]) S.1 S.2.1 d_Sp_numberOf_51 hl (k := 3) rfl (nI_1 _) (by decide) rfl (fun ls hl => ?_)
          refine lv_goto (tgt := 12) S.1 S.2.1 d_Sp_numberOf_54 (by decide) ?_
          exact ih12 (i + 1) _ H locs ls (by omega) hw ⟨hi2, lt_step hno hpi, rfl, lv_sub hl [2, 3, 0] rfl⟩
        · skip
          have hl0 := lst_at (p := (fun i => decide (nn (slx a0 i) = 0 ∨ mem 4 (nn (slx a0 i) - 1) = a0))) hi2 (dt (Or.inr c4)) hno
          refine lv_iload_n S.1 S.2.1 d_Sp_numberOf_49 rfl (lv_at hl 0 rfl) ?_
          exact u_iret S hr hlk hw ⟨by unfold s_Sp_numberOf; rw [if_neg hs0, hl0, if_pos hi2, if_neg hz]; exact hq1, rfl⟩ d_Sp_numberOf_50
      · skip
        have hz : nn (slx a0 i) = 0 := by
            rcases Nat.eq_zero_or_pos (nn (slx a0 i)) with q | q
            · exact q
            · exact absurd (by rw [show nI (nn (slx a0 i)) - (1 : Int32) = nI (nn (slx a0 i) - 1) from pk_sub (b := 1) (by omega)]; exact nI_pos' (by omega)) c3
        have hl0 := lst_at (p := (fun i => decide (nn (slx a0 i) = 0 ∨ mem 4 (nn (slx a0 i) - 1) = a0))) hi2 (dt (Or.inl hz)) hno
        refine lv_bipush (v := (-2 : Int32)) S.1 S.2.1 d_Sp_numberOf_36 (by decide) ?_
        exact u_iret S hr hlk hw ⟨by unfold s_Sp_numberOf; rw [if_neg hs0, hl0, if_pos hi2, if_pos hz], rfl⟩ d_Sp_numberOf_38
  · skip
    have hs0 := c1
    refine lv_bipush (v := (-2 : Int32)) S.1 S.2.1 d_Sp_numberOf_7 (by decide) ?_
    exact u_iret S hr hlk hw ⟨by unfold s_Sp_numberOf; rw [if_pos hs0], rfl⟩ d_Sp_numberOf_9
set_option maxHeartbeats 4000000 in
set_option maxRecDepth 100000 in
theorem c_Sp_wayStep (l : Launch) (G : UG) (mem : um_M) (F : Nat → Nat) (d s : Nat) (a1 : Int32) (hs : s < 300) (hd : d < 1000) (hlen : mem 7 s = nI d) (hF : ∀ j, j < d → itr F j s < 300 ∧ mem 5 (itr F j s) = nI (F (itr F j s))) : MetX l G y_Sp_wayStep b_Sp_wayStep 5 (some .int) ({ frames := 1, cells := 0, slots := 0, locals := 21 }) [.ref (G.2.1 3), .int (nI s), .int a1] mem (fun r mem' => ((∀ i, i < d → a1 ≠ nI i) → r = (-2 : Int32)) ∧ (∀ i, i < d → a1 = nI i → r = mem 6 (itr F (d - 1 - i) s)) ∧ mem = mem') := by
  refine u_start [.ref (G.2.1 3), .int (nI s), .int a1] (by decide) (Nat.le_of_ble_eq_true rfl) ?_
  intro p_ e_ s_ m_ bl_ me_ c_ ls S hr hlk hin hl hB
  have hw := uH_start hB
  have hl : lv_has ls 5 [(0, .ref (G.2.1 3)), (1, .int (nI s)), (2, .int a1)] := hl
  refine lv_iload_n S.1 S.2.1 d_Sp_wayStep_0 rfl (lv_at hl 2 rfl) ?_
  refine lv_aload_n S.1 S.2.1 d_Sp_wayStep_1 rfl (lv_at hl 0 rfl) ?_
  refine u_get (v := .ref (G.2.1 7)) S hw 3 (by decide) rfl rfl in_Sp 3 (by decide) lf_Sp_21 rfl d_Sp_wayStep_2 ?_
  refine lv_iload_n S.1 S.2.1 d_Sp_wayStep_5 rfl (lv_at hl 1 rfl) ?_
  refine u_iaN S hw 7 0 (by decide) rfl rfl (j := s) rfl (by first | omega | exact (hF j (by omega)).1) (by decide) d_Sp_wayStep_6 ?_
  refine u_top (y := (nI d)) hlen ?_
  refine u_callp hw (va_runSN (As := [.int a1, .int (nI d)]) (rest := []) S (c_Ds_isBelow l a1 (nI d)) ⟨u_cN S.2.2.2.2 t_Ds_isBelow ln_Ds (uN_Sp hw.1.2) hd_Ds_isBelow rfl rfl ⟨Nat.le_of_ble_eq_true rfl, Nat.le_of_ble_eq_true rfl⟩, S.2.2.2.2 _ lt_Ds_isBelow, trivial⟩ (u_preP hw.1.2) rfl rfl hl.1 rfl (lv_room (Nat.le_of_ble_eq_true rfl)) d_Sp_wayStep_7 ⟨Nat.zero_le _, Nat.zero_le _⟩) (fun r H locs hp hw => ?_)
  refine u_top (y := (s_Ds_isBelow a1 (nI d))) hp ?_
  refine lv_if_ne (tgt := 16) S.1 S.2.1 d_Sp_wayStep_10 (by decide) (fun c1 => ?_) (fun c1 => ?_)
  · skip
    obtain ⟨kk, hkk, rfl⟩ := ib_t (by omega) c1
    refine lv_iload_n S.1 S.2.1 d_Sp_wayStep_16 rfl (lv_at hl 1 rfl) ?_
    refine lv_istore_n (lv' := [(3, .int (nI s)), (0, .ref (G.2.1 3)), (1, .int (nI s)), (2, .int (nI kk))]) S.1 S.2.1 d_Sp_wayStep_17 rfl hl (by decide) rfl (fun ls hl => ?_)
    refine lv_aload_n S.1 S.2.1 d_Sp_wayStep_18 rfl (lv_at hl 1 rfl) ?_
    refine u_get (v := .ref (G.2.1 7)) S hw 3 (by decide) rfl rfl in_Sp 3 (by decide) lf_Sp_21 rfl d_Sp_wayStep_19 ?_
    refine lv_iload_n S.1 S.2.1 d_Sp_wayStep_22 rfl (lv_at hl 2 rfl) ?_
    refine u_iaN S hw 7 0 (by decide) rfl rfl (j := s) rfl (by first | omega | exact (hF j (by omega)).1) (by decide) d_Sp_wayStep_23 ?_
    refine u_top (y := (nI d)) hlen ?_
    refine lv_iconst (v := (1 : Int32)) S.1 S.2.1 d_Sp_wayStep_24 (by decide) ?_
    refine lv_isub S.1 S.2.1 d_Sp_wayStep_25 ?_
    refine u_top (y := (nI (d - 1 - 0))) (pk_sub (b := 1) (by omega)) ?_
    refine lv_istore (lv' := [(4, .int (nI (d - 1 - 0))), (3, .int (nI s)), (0, .ref (G.2.1 3)), (1, .int (nI s)), (2, .int (nI kk))]) S.1 S.2.1 d_Sp_wayStep_26 hl (by decide) rfl (fun ls hl => ?_)
    refine u_loop (σ := Nat) (fun (x : Nat) (mem_ : um_M) (ls : Array Slot) => match x with | (j) => (j ≤ d - 1 - kk) ∧ mem = mem_ ∧ lv_has ls 5 [(0, .ref (G.2.1 3)), (1, .int (nI s)), (2, .int (nI kk)), (3, .int (nI (itr F j s))), (4, .int (nI (d - 1 - j)))]) (fun x => match x with | (j) => d - j) ?_ (0) hw ⟨Nat.zero_le _, rfl, lv_sub hl [2, 3, 4, 1, 0] rfl⟩
    intro j memq H locs ls hw hI ih28
    obtain ⟨hjk, rfl, hl⟩ := hI
    dsimp only at ih28
    refine lv_iload S.1 S.2.1 d_Sp_wayStep_28 (lv_at hl 4 rfl) ?_
    refine lv_iload_n S.1 S.2.1 d_Sp_wayStep_30 rfl (lv_at hl 2 rfl) ?_
    refine lv_icmp_le (tgt := 47) S.1 S.2.1 d_Sp_wayStep_31 (by decide) (fun c2 => ?_) (fun c2 => ?_)
    · skip
      have hj2 : d - 1 - j ≤ kk := nle c2 (by omega) (by omega)
      refine lv_aload_n S.1 S.2.1 d_Sp_wayStep_47 rfl (lv_at hl 0 rfl) ?_
      refine u_get (v := .ref (G.2.1 6)) S hw 3 (by decide) rfl rfl in_Sp 2 (by decide) lf_Sp_18 rfl d_Sp_wayStep_48 ?_
      refine lv_iload_n S.1 S.2.1 d_Sp_wayStep_51 rfl (lv_at hl 3 rfl) ?_
      refine u_iaN S hw 6 0 (by decide) rfl rfl (j := (itr F j s)) rfl (by first | omega | exact (hF j (by omega)).1) (by decide) d_Sp_wayStep_52 ?_
      exact u_iret S hr hlk hw ⟨fun h => absurd rfl (h kk hkk), fun i hi h => by rw [← (nI_eq (by omega) (by omega)).mp h, show d - 1 - kk = j by omega], rfl⟩ d_Sp_wayStep_53
    · skip
      have hj2 : kk < d - 1 - j := nlt c2 (by omega) (by omega)
      refine lv_aload_n S.1 S.2.1 d_Sp_wayStep_34 rfl (lv_at hl 0 rfl) ?_
      refine u_get (v := .ref (G.2.1 5)) S hw 3 (by decide) rfl rfl in_Sp 1 (by decide) lf_Sp_15 rfl d_Sp_wayStep_35 ?_
      refine lv_iload_n S.1 S.2.1 d_Sp_wayStep_38 rfl (lv_at hl 3 rfl) ?_
      refine u_iaN S hw 5 0 (by decide) rfl rfl (j := (itr F j s)) rfl (by first | omega | exact (hF j (by omega)).1) (by decide) d_Sp_wayStep_39 ?_
      refine u_top (y := (nI (itr F (j + 1) s))) (hF j (by omega)).2 ?_
      refine lv_istore_n (lv' := [(3, .int (nI (itr F (j + 1) s))), (0, .ref (G.2.1 3)), (1, .int (nI s)), (2, .int (nI kk)), (4, .int (nI (d - 1 - j)))]) S.1 S.2.1 d_Sp_wayStep_40 rfl hl (by decide) rfl (fun ls hl => ?_)
      refine lv_iinc (v := (nI (d - 1 - (j + 1)))) (lv' := [(4, .int (nI (d - 1 - (j + 1)))), (3, .int (nI (itr F (j + 1) s))), (0, .ref (G.2.1 3)), (1, .int (nI s)), (2, .int (nI kk))]) S.1 S.2.1 d_Sp_wayStep_41 hl (k := 4) rfl (by rw [show d - 1 - j = (d - 1 - (j + 1)) + 1 by omega]; exact pk_m1 _) (by decide) rfl (fun ls hl => ?_)
      refine lv_goto (tgt := 28) S.1 S.2.1 d_Sp_wayStep_44 (by decide) ?_
      exact ih28 (j + 1) _ H locs ls (by omega) hw ⟨(by omega), rfl, lv_sub hl [2, 3, 4, 1, 0] rfl⟩
  · skip
    have hno := ib_f (by omega) c1
    refine lv_bipush (v := (-2 : Int32)) S.1 S.2.1 d_Sp_wayStep_13 (by decide) ?_
    exact u_iret S hr hlk hw ⟨fun _ => rfl, fun i hi h => absurd h (hno i hi), rfl⟩ d_Sp_wayStep_15
