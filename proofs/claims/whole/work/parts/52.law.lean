/-! THE CLAIM OUT OF ONE WALK OF THE LAW'S BODY. Your part is whole_start (and what it stands on); all else here is the same for every law, but numbers. -/
def R_law : String := "ClaimDeskLaw"
def lw_P (b : Addr) (xs : List Int32) (args : Array Value) (s : State) : Prop := args = #[.ref b] ∧ s.IntsAt b xs ∧ xs.length ≤ 3072 ∧ (Jvm.Cond.and given_1 narrow_1).before args s = true
def lw_Q (_ : Array Value) (s : State) (o : Outcome) (t : State) : Prop := o = .returned (some (.int 1)) ∧ Framed s o t [] 600000 7302250
def lw_Z (below : List Frame) (a : Array Value) (s : State) : State → Prop := fun t => ∃ o, t.status = .running ∧ Ended t below o ∧ lw_Q a s o t
/-- the law's own end, with 1 on the stack, nothing written that was there before, its room as the claim has it -/
theorem lw_ret {p : Program} {l : Launch} {e : Env} {s : State} {m : MethodId} {below : List Frame} {meth : Method} {c : Code} {b : Nat} (hx : p.tables.exec = Jvm.exec) (hb : c.code = code) (hr : meth.sig.returnType = ret) (hlocks : meth.locks = false) {pc : Nat} {H : Heap} {ls : Array Slot} (hdg : decode code pc = .ok (.ireturn, 1)) : W p l e room_1 s m #[Value.ref b] below meth c H [] 600000 7302250 (lw_Z below #[Value.ref b] s) (F0 m pc ls [.int 1]) := by
  intro T hT X
  obtain ⟨fs, hret, hrun, hended, hW, hframe⟩ := X.leave (v := some (.int 1)) (hlocks := hlocks) (fun h => by rw [hr] at h; cases h)
  have hmeth' : T.vm.method? m = some meth := X.method'
  refine ⟨T.setFrames fs, ?_, .returned (some (.int 1)), hrun, hended, rfl, ⟨_, rfl⟩, hW, hframe⟩
  jvm_step X.here [X.here.top, hx, hb, hdg, hmeth', hr, ret, narrow_b1]
  (try refine ⟨rfl, ?_⟩); (try refine ⟨rfl, ?_⟩)
  first | (intro acts; rw [hret _ acts rfl rfl rfl]) | rw [hret _ _ rfl rfl rfl]
  exact Steps.refl _
/-- what holds at the law's entry: the machine, the code, the tables' words (any of lw_tbl by 'hts w (by decide +kernel)'), the script of L ints xs at the cell b, what the Statement gives of the start (any of its parts by flat_of_before) -/
def lw_At (p : Program) (s : State) (m : MethodId) (meth : Method) (c : Code) (b L : Nat) (xs : Nat → Int32) : Prop :=
  p.tables.exec = Jvm.exec ∧ c.code = code ∧ meth.sig.returnType = ret ∧ c.maxLocals = 4 ∧ s.vm.findClass R_law = some m.cls ∧ (∀ w ∈ lw_tbl, w.before #[Value.ref b] s = true) ∧ va_X b L xs s s.heap ∧ b < s.heap.size ∧ meth.locks = false ∧ (Jvm.Cond.and given_1 narrow_1).before #[Value.ref b] s = true
theorem P_l {D : va_G} {cl : List vw_C} {w1 w2 : va_W} {H : Heap} (h : va_P D cl (w1 ++ w2) H) : va_P D cl w1 H := fun k y hy => h k y (by rw [List.getElem?_append_left (List.getElem?_eq_some_iff.mp hy).1]; exact hy)
theorem P_r {D : va_G} {cl : List vw_C} {w1 w2 : va_W} {H : Heap} (h : va_P D cl (w1 ++ w2) H) : va_P D cl w2 H := fun k y hy => h (w1.length + k) y (by rw [List.getElem?_append_right (Nat.le_add_right _ _), Nat.add_sub_cancel_left]; exact hy)
theorem D_l {A : Nat → Prop} {w1 w2 : va_W} (h : va_D A (w1 ++ w2)) : va_D A w1 := by
  have g : ∀ (k : Nat) (y : Nat × va_E), w1[k]? = some y → (w1 ++ w2)[k]? = some y := fun k y hy => by rw [List.getElem?_append_left (List.getElem?_eq_some_iff.mp hy).1]; exact hy
  exact ⟨fun i j p q hi hj e => h.1 i j p q (g i p hi) (g j q hj) e, fun k q hk => h.2 k q (g k q hk)⟩
theorem D_r {A : Nat → Prop} {w1 w2 : va_W} (h : va_D A (w1 ++ w2)) : va_D A w2 := by
  have g : ∀ (k : Nat) (y : Nat × va_E), w2[k]? = some y → (w1 ++ w2)[w1.length + k]? = some y := fun k y hy => by rw [List.getElem?_append_right (Nat.le_add_right _ _), Nat.add_sub_cancel_left]; exact hy
  exact ⟨fun i j p q hi hj e => by have := h.1 _ _ p q (g i p hi) (g j q hj) e; omega, fun k q hk => h.2 _ q (g k q hk)⟩
theorem D_x {A : Nat → Prop} {w1 w2 : va_W} (h : va_D A (w1 ++ w2)) {i j : Nat} {y z : Nat × va_E} (hi : w1[i]? = some y) (hj : w2[j]? = some z) : y.1 ≠ z.1 := by
  intro e
  have l1 := (List.getElem?_eq_some_iff.mp hi).1
  have := h.1 i (w1.length + j) y z (by rw [List.getElem?_append_left l1]; exact hi) (by rw [List.getElem?_append_right (Nat.le_add_right _ _), Nat.add_sub_cancel_left]; exact hj) e
  omega
theorem lw_1 {w : Cond} (i : Nat) (h : tables_1_1[i]? = some w) : w ∈ lw_tbl := List.mem_append_right _ (List.mem_append_left _ (List.mem_of_getElem? h))
theorem lw_2 {w : Cond} (i : Nat) (h : tables_1_2[i]? = some w) : w ∈ lw_tbl := List.mem_append_right _ (List.mem_append_right _ (List.mem_append_left _ (List.mem_of_getElem? h)))
set_option maxHeartbeats 4000000 in
set_option maxRecDepth 100000 in
theorem law_loop {p : Program} {l : Launch} {e : Env} {s : State} {m : MethodId} {below : List Frame} {meth : Method} {c : Code} {G : UG} {am : Nat → Nat} {b L : Nat} {xs : Nat → Int32} (S : CallFix p m c code 4 s #[.ref b] tbl "ClaimDeskLaw") (hr : meth.sig.returnType = ret) (hlocks : meth.locks = false) (hX : va_X b L xs s s.heap) (hbl : b < s.heap.size) (hL : L ≤ 3072) : ∀ (N i : Nat) (X M : um_M) (H : Heap) (locs : List Loc) (ls : Array Slot), L - i < N → i ≤ L → lP G am s X M H locs → Rel X M → lv_has ls 4 [(3, .int (nI i)), (2, .ref (am 0)), (1, .ref (G.2.1 0)), (0, .ref b)] → W p l e room_1 s m #[.ref b] below meth c H locs 60 19976 (lw_Z below #[Value.ref b] s) (F0 m 18 ls []) := by
  intro N
  induction N with
  | zero => intro i X M H locs ls h; exact absurd h (Nat.not_lt_zero _)
  | succ N ih =>
    intro i X M H locs ls hN hiL hw hR hl
    refine lv_iload_n S.1 S.2.1 d_Lw_law_18 rfl (lv_at hl 0 rfl) ?_
    refine lv_aload_n S.1 S.2.1 d_Lw_law_19 rfl (lv_at hl 3 rfl) ?_
    refine va_slen S.1 S.2.1 hX hbl (A := fun q => s.heap.size ≤ q) (Nat.not_le.mpr hbl) hw.1.2.2.2 d_Lw_law_20 ?_
    refine lv_bipush (v := (6 : Int32)) S.1 S.2.1 d_Lw_law_21 (by decide) ?_
    refine lv_isub S.1 S.2.1 d_Lw_law_23 ?_
    refine lv_icmp_gt (tgt := 575) S.1 S.2.1 d_Lw_law_24 (by decide) (fun _ => ?_) (fun z => ?_)
    · refine lv_iconst (v := (1 : Int32)) S.1 S.2.1 d_Lw_law_575 (by decide) ?_
      refine va_forget (fun q hq => hw.1.2.2.2.2.2 q hq) ?_
      refine W.widen (k := 600000) (n := 7302250) (Nat.le_of_ble_eq_true rfl) (Nat.le_of_ble_eq_true rfl) ?_
      exact lw_ret S.1 S.2.1 hr hlocks d_Lw_law_576
    · have hi : i + 6 ≤ L := l_le (by omega) hL z
      refine lv_aload_n S.1 S.2.1 d_Lw_law_27 rfl (lv_at hl 3 rfl) ?_
      refine lv_iload_n S.1 S.2.1 d_Lw_law_28 rfl (lv_at hl 0 rfl) ?_
      refine va_sld S.1 S.2.1 hX hbl (A := fun q => s.heap.size ≤ q) (Nat.not_le.mpr hbl) hw.1.2.2.2 (vp_in_nI (by omega) (by omega)) d_Lw_law_29 ?_
      refine lv_bipush (v := (15 : Int32)) S.1 S.2.1 d_Lw_law_30 (by decide) ?_
      refine lv_iand S.1 S.2.1 d_Lw_law_32 ?_
      have back : ∀ (X2 M2 : um_M) (H2 : Heap) (locs2 : List Loc), lP G am s X2 M2 H2 locs2 → Rel X2 M2 → W p l e room_1 s m #[.ref b] below meth c H2 locs2 60 19976 (lw_Z below #[Value.ref b] s) (F0 m 569 ls []) := by
        intro X2 M2 H2 locs2 hw2 hR2
        refine lv_iinc (v := nI (i + 6)) (lv' := [(3, .int (nI (i + 6))), (2, .ref (am 0)), (1, .ref (G.2.1 0)), (0, .ref b)]) S.1 S.2.1 d_Lw_law_569 hl (k := 0) rfl (nI_add i 6) (by decide) rfl (fun ls hl => ?_)
        refine lv_goto (tgt := 18) S.1 S.2.1 d_Lw_law_572 (by decide) ?_
        exact ih (i + 6) X2 M2 H2 locs2 ls (by omega) (by omega) hw2 hR2 hl
      obtain ⟨t, ht, et⟩ := l_15 (xs (nI i).toNatClampNeg)
      rcases (show t = 0 ∨ t = 1 ∨ t = 2 ∨ t = 3 ∨ t = 4 ∨ t = 5 ∨ t = 6 ∨ t = 7 ∨ t = 8 ∨ t = 9 ∨ t = 10 ∨ t = 11 ∨ t = 12 ∨ t = 13 ∨ t = 14 ∨ t = 15 by omega) with y | y | y | y | y | y | y | y | y | y | y | y | y | y | y | y
      · subst y
        refine u_tab S (k := (0 : Int32)) (off := 75) (tgt := 108) et d_Lw_law_33 (by decide) (by decide) (by decide) (by decide) ?_
        exact k_begin S hX hbl hL hi hl hw hR back
      · subst y
        refine u_tab S (k := (1 : Int32)) (off := 98) (tgt := 131) et d_Lw_law_33 (by decide) (by decide) (by decide) (by decide) ?_
        exact k_add S hX hbl hL hi hl hw hR back
      · subst y
        refine u_tab S (k := (2 : Int32)) (off := 151) (tgt := 184) et d_Lw_law_33 (by decide) (by decide) (by decide) (by decide) ?_
        exact k_change S hX hbl hL hi hl hw hR back
      · subst y
        refine u_tab S (k := (3 : Int32)) (off := 214) (tgt := 247) et d_Lw_law_33 (by decide) (by decide) (by decide) (by decide) ?_
        exact k_clear S hX hbl hL hi hl hw hR back
      · subst y
        refine u_tab S (k := (4 : Int32)) (off := 227) (tgt := 260) et d_Lw_law_33 (by decide) (by decide) (by decide) (by decide) ?_
        exact k_claim S hX hbl hL hi hl hw hR back
      · subst y
        refine u_tab S (k := (5 : Int32)) (off := 270) (tgt := 303) et d_Lw_law_33 (by decide) (by decide) (by decide) (by decide) ?_
        exact k_explore S hX hbl hL hi hl hw hR back
      · subst y
        refine u_tab S (k := (6 : Int32)) (off := 283) (tgt := 316) et d_Lw_law_33 (by decide) (by decide) (by decide) (by decide) ?_
        exact k_fails S hX hbl hL hi hl hw hR back
      · subst y
        refine u_tab S (k := (7 : Int32)) (off := 306) (tgt := 339) et d_Lw_law_33 (by decide) (by decide) (by decide) (by decide) ?_
        exact k_stuck S hX hbl hL hi hl hw hR back
      · subst y
        refine u_tab S (k := (8 : Int32)) (off := 345) (tgt := 378) et d_Lw_law_33 (by decide) (by decide) (by decide) (by decide) ?_
        exact k_avoids S hX hbl hL hi hl hw hR back
      · subst y
        refine u_tab S (k := (9 : Int32)) (off := 378) (tgt := 411) et d_Lw_law_33 (by decide) (by decide) (by decide) (by decide) ?_
        exact k_way S hX hbl hL hi hl hw hR back
      · subst y
        refine u_tab S (k := (10 : Int32)) (off := 411) (tgt := 444) et d_Lw_law_33 (by decide) (by decide) (by decide) (by decide) ?_
        exact k_state S hX hbl hL hi hl hw hR back
      · subst y
        refine u_tab S (k := (11 : Int32)) (off := 444) (tgt := 477) et d_Lw_law_33 (by decide) (by decide) (by decide) (by decide) ?_
        exact k_walk S hX hbl hL hi hl hw hR back
      · subst y
        refine u_tab S (k := (12 : Int32)) (off := 467) (tgt := 500) et d_Lw_law_33 (by decide) (by decide) (by decide) (by decide) ?_
        exact k_go S hX hbl hL hi hl hw hR back
      · subst y
        refine u_tab S (k := (13 : Int32)) (off := 490) (tgt := 523) et d_Lw_law_33 (by decide) (by decide) (by decide) (by decide) ?_
        exact k_now S hX hbl hL hi hl hw hR back
      · subst y
        refine u_tab S (k := (14 : Int32)) (off := 513) (tgt := 546) et d_Lw_law_33 (by decide) (by decide) (by decide) (by decide) ?_
        exact k_count S hX hbl hL hi hl hw hR back
      · subst y
        refine u_top (y := (15 : Int32)) et ?_
        exact lv_tableOut (tgt := 569) S.1 S.2.1 d_Lw_law_33 (by decide) (by decide) (back X M H locs hw hR)
set_option maxHeartbeats 4000000 in
set_option maxRecDepth 100000 in
theorem whole_start {p : Program} {e : Env} {s : State} {m : MethodId} {below : List Frame} {meth : Method} {c : Code} (l : Launch) {b L : Nat} {xs : Nat → Int32} (hL : L ≤ 3072) (C0 : lw_At p s m meth c b L xs) : W p l e room_1 s m #[Value.ref b] below meth c s.heap [] 0 0 (lw_Z below #[Value.ref b] s) (entryFrame m ([Value.ref b] : List Value).toArray 4) := by
  obtain ⟨hx, hb, hr, hml, hown, hts, hX, hbl, hlocks, hgv⟩ := id C0
  have htb : ∀ w ∈ tbl, w.before #[Value.ref b] s = true := fun w h => hts w (tb_in w h)
  have S : CallFix p m c code 4 s #[.ref b] tbl "ClaimDeskLaw" := ⟨hx, hb, hml, hown, htb⟩
  obtain ⟨c0, i0, k0⟩ := u_known (C := "ClaimDesk") (T := T_Ds) (N := 9) (n := 9) htb in_Ds (htb _ lx_Ds)
  obtain ⟨c1, i1, k1⟩ := u_known (C := "ClaimDesk$Transition") (T := T_Tr) (N := 6) (n := 6) htb in_Tr (htb _ lx_Tr)
  obtain ⟨c2, i2, k2⟩ := u_known (C := "ClaimDesk$Claim") (T := T_Cm) (N := 3) (n := 3) htb in_Cm (htb _ lx_Cm)
  obtain ⟨c3, i3, k3⟩ := u_known (C := "ClaimDesk$Space") (T := T_Sp) (N := 10) (n := 10) htb in_Sp (htb _ lx_Sp)
  obtain ⟨c4, i4, k4⟩ := u_known (C := "ClaimDesk$Avoidance") (T := T_Av) (N := 4) (n := 4) htb in_Av (htb _ lx_Av)
  obtain ⟨c5, i5, k5⟩ := u_known (C := "ClaimDeskModel") (T := T_Mo) (N := 19) (n := 19) htb in_Mo (htb _ lx_Mo)
  obtain ⟨D, hKc⟩ : ∃ D : va_G, ∀ (k : Nat) (q : vw_C), clX[k]? = some q → u_Kn s q.1 q.2.1 q.2.2 (D.1 k) (D.2 k) := by
    refine ⟨(fun k => match k with | 0 => c0 | 1 => c1 | 2 => c2 | 3 => c3 | 4 => c4 | _ => c5, fun k => match k with | 0 => i0 | 1 => i1 | 2 => i2 | 3 => i3 | 4 => i4 | _ => i5), ?_⟩
    intro k q hq
    match k, hq with
    | 0, hq => cases hq; exact k0
    | 1, hq => cases hq; exact k1
    | 2, hq => cases hq; exact k2
    | 3, hq => cases hq; exact k3
    | 4, hq => cases hq; exact k4
    | 5, hq => cases hq; exact k5
    | k + 6, hq => exact absurd (List.getElem?_eq_some_iff.mp hq).1 (by show ¬ k + 6 < 6; omega)
  obtain ⟨cI, kI, pI, fI, gI, eI⟩ := Cond.arrayClass_spec (htb _ la_int)
  obtain ⟨cZ, kZ, pZ, fZ, gZ, eZ⟩ := Cond.arrayClass_spec (htb _ la_boolean)
  have oT : (Cond.arrayOver (.object "ClaimDesk$Transition")).before #[Value.ref b] s = true := hts _ (lw_1 19 rfl)
  have oC : (Cond.arrayOver (.object "ClaimDesk$Claim")).before #[Value.ref b] s = true := hts _ (lw_1 45 rfl)
  obtain ⟨pT, cT, kT, f1, f2, f3, f4, f5⟩ := Cond.arrayOver_spec oT
  obtain ⟨pC, cC, kC, g1, g2, g3, g4, g5⟩ := Cond.arrayOver_spec oC
  have hiN : iN s := ⟨⟨va_Nw.of rfl (hts _ (lw_1 21 rfl)), va_Nw.of rfl (hts _ (lw_1 47 rfl)), va_Nw.of rfl (hts _ (lw_1 63 rfl)), va_Nw.of rfl (hts _ (lw_1 101 rfl))⟩, va_AO.of oT, va_AO.of oC⟩
  have huN : uN s := by
    intro q hq
    rcases List.mem_cons.mp hq with y | hq
    · subst y; exact va_Nw.of rfl (hts _ (lw_1 172 rfl))
    · rcases List.mem_cons.mp hq with y | hq
      · subst y; exact va_Nw.of rfl (hts _ (lw_1 192 rfl))
      · rcases List.mem_cons.mp hq with y | hq
        · subst y; exact va_Nw.of rfl (hts _ (lw_2 125 rfl))
        · exact absurd hq List.not_mem_nil
  obtain ⟨G, hG⟩ : ∃ G : UG, G = (D, (fun _ => 0), cI, cZ, cT, cC) := ⟨_, rfl⟩
  have hK : va_K G.1 clX (tysX G) s := by
    rw [hG]
    refine ⟨hKc, fun k q hk => ?_⟩
    match k, hk with
    | 0, hk => cases hk; exact ⟨fun n z => ⟨fun k h => (by cases h), kI, gI, pI, eI⟩, fI⟩
    | 1, hk => cases hk; exact ⟨fun n z => ⟨fun k h => (by cases h), kZ, gZ, pZ, eZ⟩, fZ⟩
    | 2, hk => cases hk; exact ⟨fun n z => ⟨fun k h => (by cases h), kT, f3, pT, f4⟩, ⟨kT, pT, f3, f4, f1, f5⟩⟩
    | 3, hk => cases hk; exact ⟨fun n z => ⟨fun k h => (by cases h), kC, g3, pC, g4⟩, ⟨kC, pC, g3, g4, g1, g5⟩⟩
    | k + 4, hk => exact absurd (List.getElem?_eq_some_iff.mp hk).1 (by show ¬ k + 4 < 4; omega)
  clear hG
  obtain ⟨A, hAe⟩ : ∃ A : Nat → Prop, A = fun q : Nat => s.heap.size ≤ q := ⟨_, rfl⟩
  have hA : ∀ q : Nat, s.heap.size ≤ q → A q := fun q h => by rw [hAe]; exact h
  have hS : va_S A s.heap s.heap [] := va_S.rf
  have hP : va_P G.1 clX [] s.heap := fun k q h => by simp at h
  have hD : va_D A [] := ⟨fun i j p q h => by simp at h, fun k q h => by simp at h⟩
  have hl := lv_entry ([.ref b]) (n := 4) (Nat.le_of_ble_eq_true rfl)
  rw [lg_entry_eq]
  generalize (lg_sl ([.ref b]) ++ List.replicate (4 - (lg_sl ([.ref b])).length) Slot.unset).toArray = ls at hl ⊢
  have hl : lv_has ls 4 [(0, .ref b)] := hl
  refine va_new (ci := 0) (fs := [.null, .null, .null, .null, .int 0, .int 0, .int 0, .int 0, .int 0]) (C := "ClaimDesk") (T := T_Ds) (N := 9) S.1 S.2.1 S.2.2.2.2 in_Ds ty_Ds tk_Ds S.2.2.2.1 (S.2.2.2.2 _ lc_Lw_7) (S.2.2.2.2 _ lx_Ds) (S.2.2.2.2 _ ln_Ds) hK hP hD hS hA rfl (fun j hj => by rcases (show j = 0 ∨ j = 1 ∨ j = 2 ∨ j = 3 ∨ j = 4 ∨ j = 5 ∨ j = 6 ∨ j = 7 ∨ j = 8 by omega) with rfl | rfl | rfl | rfl | rfl | rfl | rfl | rfl | rfl <;> rfl) (Nat.le_of_ble_eq_true rfl) (Nat.le_of_ble_eq_true rfl) d_Lw_law_0 (fun q H hP hD hS => ?_)
  refine W.widen (k := 1) (n := 9) (Nat.le_of_ble_eq_true rfl) (Nat.le_of_ble_eq_true rfl) ?_
  have hP : va_P G.1 clX (([] : va_W) ++ [(q, .inr (0, [.null, .null, .null, .null, .int 0, .int 0, .int 0, .int 0, .int 0]))]) H := hP
  have hD : va_D A (([] : va_W) ++ [(q, .inr (0, [.null, .null, .null, .null, .int 0, .int 0, .int 0, .int 0, .int 0]))]) := hD
  have hPc := P_last hP
  have hFc := A_one (ec := .inr (0, [.null, .null, .null, .null, .int 0, .int 0, .int 0, .int 0, .int 0])) (D_last hD) hS hA
  refine lv_dup S.1 S.2.1 d_Lw_law_3 rfl ?_
  refine va_callv (va_runI (As := []) (rest := [.ref q]) S (c_Ds_init l G q H.size) ⟨u_cB S.2.2.2.2 t_Ds_init ln_Ds lm_Lw_9 hd_Ds_init rfl rfl ⟨(Nat.le_of_ble_eq_true rfl), (Nat.le_of_ble_eq_true rfl)⟩, rfl, S.2.2.2.2 _ li_Ds_init⟩ ⟨fun a U g mk q => by obtain ⟨q0, q1, qP, ⟨qK, qN⟩, qD⟩ := q; exact ⟨q0, q1, qP, ⟨va_K.moved (u := U) (U := U.calling g mk a) (Vm.Alike.refl U.vm) qK, qN.calling⟩, qD⟩, fun U hU hW => ⟨rfl, by rw [hU], by rw [hU]; exact hPc, ⟨va_K.moved hW.alike hK, hiN.warm hW⟩, D_one⟩⟩ rfl rfl hl.1 rfl (lv_room (Nat.le_of_ble_eq_true rfl)) d_Lw_law_4 ⟨(Nat.le_of_ble_eq_true rfl), (Nat.le_of_ble_eq_true rfl)⟩) hS (fun q _ h => hFc q h) hFc (fun u t H1 locs ht hvm hp hB hz1 hk1 hS => ?_)
  obtain ⟨hP1, hD1⟩ := hB
  rw [ht] at hP1
  obtain ⟨hP, hD⟩ := i_join hP hD hk1 hFc hP1 hD1
  generalize H1 = H at hP hS ⊢
  refine W.widen (k := 47) (n := 18339) (Nat.le_of_ble_eq_true rfl) (Nat.le_of_ble_eq_true rfl) ?_
  have hp : u 0 = q := hp
  rw [← hp]
  have hP : va_P G.1 clX (uw 47 u (shX (G.1, u, G.2.2)) (fun _ _ => 0)) H := hP
  have hD : va_D A (uw 47 u (shX (G.1, u, G.2.2)) (fun _ _ => 0)) := hD
  refine lv_astore_n (lv' := [(1, .ref (u 0)), (0, .ref b)]) S.1 S.2.1 d_Lw_law_7 rfl hl (by decide) rfl (fun ls hl => ?_)
  refine va_new (ci := 5) (fs := [.null, .null, .null, .null, .null, .null, .null, .int 0, .int 0, .int 0, .int 0, .int 0, .null, .null, .null, .null, .null, .int 0, .int 0]) (C := "ClaimDeskModel") (T := T_Mo) (N := 19) S.1 S.2.1 S.2.2.2.2 in_Mo ty_Mo tk_Mo S.2.2.2.1 (S.2.2.2.2 _ lc_Lw_10) (S.2.2.2.2 _ lx_Mo) (S.2.2.2.2 _ ln_Mo) hK hP hD hS hA rfl (fun j hj => by rcases (show j = 0 ∨ j = 1 ∨ j = 2 ∨ j = 3 ∨ j = 4 ∨ j = 5 ∨ j = 6 ∨ j = 7 ∨ j = 8 ∨ j = 9 ∨ j = 10 ∨ j = 11 ∨ j = 12 ∨ j = 13 ∨ j = 14 ∨ j = 15 ∨ j = 16 ∨ j = 17 ∨ j = 18 by omega) with rfl | rfl | rfl | rfl | rfl | rfl | rfl | rfl | rfl | rfl | rfl | rfl | rfl | rfl | rfl | rfl | rfl | rfl | rfl <;> rfl) (Nat.le_of_ble_eq_true rfl) (Nat.le_of_ble_eq_true rfl) d_Lw_law_8 (fun q2 H hP hD hS => ?_)
  refine W.widen (k := 48) (n := 18358) (Nat.le_of_ble_eq_true rfl) (Nat.le_of_ble_eq_true rfl) ?_
  have hP : va_P G.1 clX ((uw 47 u (shX (G.1, u, G.2.2)) (fun _ _ => 0)) ++ [(q2, .inr (5, [.null, .null, .null, .null, .null, .null, .null, .int 0, .int 0, .int 0, .int 0, .int 0, .null, .null, .null, .null, .null, .int 0, .int 0]))]) H := hP
  have hD : va_D A ((uw 47 u (shX (G.1, u, G.2.2)) (fun _ _ => 0)) ++ [(q2, .inr (5, [.null, .null, .null, .null, .null, .null, .null, .int 0, .int 0, .int 0, .int 0, .int 0, .null, .null, .null, .null, .null, .int 0, .int 0]))]) := hD
  have hPc := P_last hP
  have hFc := A_one (ec := .inr (5, [.null, .null, .null, .null, .null, .null, .null, .int 0, .int 0, .int 0, .int 0, .int 0, .null, .null, .null, .null, .null, .int 0, .int 0])) (D_last hD) hS hA
  refine lv_dup S.1 S.2.1 d_Lw_law_11 rfl ?_
  refine va_callv (va_runI (As := []) (rest := [.ref q2]) S (c_Mo_init l G q2 H.size) ⟨u_cB S.2.2.2.2 t_Mo_init ln_Mo lm_Lw_12 hd_Mo_init rfl rfl ⟨(Nat.le_of_ble_eq_true rfl), (Nat.le_of_ble_eq_true rfl)⟩, rfl, S.2.2.2.2 _ li_Mo_init⟩ ⟨fun a U g mk q => by obtain ⟨q0, q1, qP, ⟨qK, qN⟩, qD⟩ := q; exact ⟨q0, q1, qP, ⟨va_K.moved (u := U) (U := U.calling g mk a) (Vm.Alike.refl U.vm) qK, uN.same rfl qN⟩, qD⟩, fun U hU hW => ⟨rfl, by rw [hU], by rw [hU]; exact hPc, ⟨va_K.moved hW.alike hK, uN.warm hW huN⟩, D_one⟩⟩ rfl rfl hl.1 rfl (lv_room (Nat.le_of_ble_eq_true rfl)) d_Lw_law_12 ⟨(Nat.le_of_ble_eq_true rfl), (Nat.le_of_ble_eq_true rfl)⟩) hS (fun q _ h => hFc q h) hFc (fun u2 t H1 locs ht hvm hp hB hz1 hk1 hS => ?_)
  obtain ⟨hP1, hD1⟩ := hB
  rw [ht] at hP1
  obtain ⟨hP, hD⟩ := i_join hP hD hk1 hFc hP1 hD1
  generalize H1 = H at hP hS ⊢
  refine W.widen (k := 60) (n := 19976) (Nat.le_of_ble_eq_true rfl) (Nat.le_of_ble_eq_true rfl) ?_
  obtain ⟨am, M⟩ := u2
  obtain ⟨hp, hp0⟩ := hp
  have hp : am 0 = q2 := hp
  have hp0 : M = fun _ _ => 0 := hp0
  rw [← hp]
  subst hp0
  have hP : va_P G.1 clX (uw 47 u (shX (G.1, u, G.2.2)) (fun _ _ => 0) ++ uw 13 am (shM (G.1, am, G.2.2)) (fun _ _ => 0)) H := hP
  have hD : va_D A (uw 47 u (shX (G.1, u, G.2.2)) (fun _ _ => 0) ++ uw 13 am (shM (G.1, am, G.2.2)) (fun _ _ => 0)) := hD
  refine lv_astore_n (lv' := [(2, .ref (am 0)), (1, .ref (u 0)), (0, .ref b)]) S.1 S.2.1 d_Lw_law_15 rfl hl (by decide) rfl (fun ls hl => ?_)
  refine lv_iconst (v := nI 0) S.1 S.2.1 d_Lw_law_16 (by decide) ?_
  refine lv_istore_n (lv' := [(3, .int (nI 0)), (2, .ref (am 0)), (1, .ref (u 0)), (0, .ref b)]) S.1 S.2.1 d_Lw_law_17 rfl hl (by decide) rfl (fun ls hl => ?_)
  subst hAe
  have hDx := D_l hD
  have hDm := D_r hD
  have hw : lP (G.1, u, G.2.2) am s (fun _ _ => 0) (fun _ _ => 0) H locs := ⟨⟨⟨hK, huN⟩, ⟨fun i j hi hj e => hDx.1 i j _ _ (uw_get hi) (uw_get hj) e, fun k hk => hDx.2 k _ (uw_get hk)⟩, P_l hP, hS⟩, ⟨⟨hK, huN⟩, ⟨fun i j hi hj e => hDm.1 i j _ _ (uw_get hi) (uw_get hj) e, fun k hk => hDm.2 k _ (uw_get hk)⟩, P_r hP, hS⟩, fun i j hi hj => D_x hD (uw_get hi) (uw_get hj)⟩
  exact law_loop (G := (G.1, u, G.2.2)) S hr hlocks hX hbl hL (L + 1) 0 _ _ H locs ls (by omega) (Nat.zero_le _) hw R_zero hl
set_option maxHeartbeats 4000000 in
theorem lw_walk (l : Launch) (b : Addr) (xs : List Int32) : MetFree l x (headSpec (Jvm.Cond.code x code maxLocals ret :: tables_1) room_1) (lw_P b xs) (fun _ _ _ _ _ => True) lw_Q := by
  refine MetFree.of_bodyS (code := code) (maxLocals := maxLocals) (ret := ret) (by decide) ?_ ?_
  · intro args s m h hn
    obtain ⟨meth, c, h1, h2, h3, h4, h5, h6, -, -⟩ := Cond.code_spec hn (atoms_spec (ws := Jvm.Cond.code x code maxLocals ret :: tables_1) h _ List.mem_cons_self)
    exact ⟨meth, c, h1, h2, h3, h4, h5, h6⟩
  · intro p e s m args below meth c s₁ B hml0 hP _
    obtain ⟨rfl, hx, hbd, hgv⟩ := hP
    obtain ⟨scr, harrAt, hlist, hof, hsmall⟩ := hx
    obtain ⟨hcb, hkn, -, -⟩ := State.arrayAt?_spec harrAt
    have hown : s.vm.findClass R_law = some m.cls := findClass_of_methodNamed B.named
    have hts0 : ∀ c ∈ (Jvm.Cond.code x code maxLocals ret :: tables_1), c.before #[Value.ref b] s = true := atoms_spec (ws := Jvm.Cond.code x code maxLocals ret :: tables_1) B.pre
    have hts : ∀ w ∈ lw_tbl, w.before #[Value.ref b] s = true := k2_hts_sels lw_privs (fun w hw => hts0 w (List.mem_cons_of_mem _ hw)) lw_privs_ok
    have hml : c.maxLocals = 4 := B.maxLocals_eq (hts0 _ List.mem_cons_self)
    have X₀ : Stand p l e room_1 s m #[Value.ref b] below meth c s₁ [] 0 0 := Stand.of_body B
    have hh0 : s₁.heap = s.heap := by rw [B.state]; rfl
    have hsz : scr.slots.size = xs.length := by rw [← Array.length_toList, hlist, List.length_map]
    have hval : ∀ j : Nat, j < xs.length → scr.slots[j]? = some (.int (xs.getD j 0)) := fun j hj => by
      rw [← Array.getElem?_toList, hlist]
      simp [hj]
    have hbl : b < s.heap.size := (Array.getElem?_eq_some_iff.mp hcb).1
    have hX : va_X b xs.length (fun j => xs.getD j 0) s s.heap := ⟨scr, hcb, hof, hkn, hsz, hval⟩
    have K : W p l e room_1 s m #[Value.ref b] below meth c s₁.heap [] 0 0 (lw_Z below #[Value.ref b] s) (entryFrame m ([Value.ref b] : List Value).toArray 4) := by
      rw [hh0]
      exact whole_start l hbd ⟨B.exec, B.bytes, B.returns, hml, hown, hts, hX, hbl, B.notSynchronized, hgv⟩
    obtain ⟨t, a1, o, b1, b2, b3⟩ := K s₁ rfl X₀
    exact ⟨t, o, a1, b1, b2, b3⟩
theorem lw_pre_spec {args : Array Value} {s : State} (h : (Jvm.Cond.and given_1 narrow_1).before args s = true) (hr : rest_1_c.before args s = true) : ∃ (b : Addr) (xs : List Int32), lw_P b xs args s := by
  have hs := flat_of_before _ h
  have hq := flat_of_before _ hr
  have hc : (Cond.count 1).before args s = true := hs _ (by decide +kernel)
  have harr : (Cond.arrayOf (.arg 0) .int).before args s = true := hs _ (by decide +kernel)
  have hle : (Cond.le (.length (.arg 0)) (.int 3072)).before args s = true := hs _ (by decide +kernel)
  have hlen : (Cond.isInt (.length (.arg 0))).before args s = true := hq _ (by decide +kernel)
  have hall : (Cond.all (.arg 0) (.isInt (.elem (.arg 0) (.index 0)))).before args s = true := hq _ (by decide +kernel)
  obtain ⟨b, xs, hb, hx⟩ := State.ints_of_pre rfl harr hlen hall
  have hsm : xs.length < 2 ^ 31 := hx.choose_spec.2.2.2
  have hev : (Term.length (.arg 0)).eval args s none [] s = some (.int xs.length.toInt32) := hx.length_eval hb
  have hv := Cond.le_ints hev (show (Term.int 3072).eval args s none [] s = some (.int 3072) from rfl)
  have hd : xs.length.toInt32 ≤ 3072 := by
    simpa [Cond.before, Cond.holds, hv] using hle
  have hN : xs.length ≤ 3072 := (Int32.ofNat_le_ofNat hsm (by decide)).mp (show Int32.ofNat xs.length ≤ Int32.ofNat 3072 from hd)
  exact ⟨b, xs, Cond.one_arg hc (show args[0]? = some (.ref b) from hb), hx, hN, h⟩
theorem lw_comes (l : Launch) : Comes l x (Jvm.Cond.code x code maxLocals ret :: tables_1) room_1 (fun tb e args s => Calls_1 tb e args s ∧ rest_1 tb e args s ∧ Pre_1 tb e args s)
    (fun _ _ args s o t => lw_Q args s o t) := by
  intro p e ha hc hk s m args below hf hfit hheap happ hpre
  obtain ⟨b, xs, hP⟩ := lw_pre_spec hpre.2.2 hpre.2.1
  obtain ⟨k, o, h1, h2, h3, hQ⟩ := lw_walk l b xs p e ha hc hk s m args below hf ((Spec.applies_iff_loose hf).mp happ).1 hP trivial
  exact ⟨k, o, h1, h2, h3, hQ⟩
theorem lw_frame {s t : State} {o : Outcome} {args : Array Value} (h : Framed s o t [] 600000 7302250) :
    Framed s o t (fieldLocs frame_1_writes args s ++ arrayLocs frame_1_arrays args s ++ staticLocs frame_1_statics s) 600000 7302250 := h
theorem lw_limb (L : Cond) (hL : ∀ (args : Array Value) (s t : State), L.after args s (.returned (some (.int 1))) t = true) :
    ArmFor flags0 classFile x code maxLocals ret World_1 tables_1 room_1 Calls_1 rest_1 Pre_1
      (fun tb e a s o t => postC L tb e a s o t ∧ Framed s o t (fieldLocs frame_1_writes a s ++ arrayLocs frame_1_arrays a s ++ staticLocs frame_1_statics s) 600000 7302250) := by
  intro l _ _ _ p e ha hc hk s m args below hf hfit hheap happ hpre
  obtain ⟨k, o, h1, h2, h3, rfl, hF⟩ := lw_comes l p e ha hc hk s m args below hf hfit hheap happ hpre
  exact ⟨k, _, h1, h2, h3, hL args s _, lw_frame hF⟩
theorem i_vc : Claimed_1_1 ∧ Claimed_1_2 := ⟨lw_limb limb_1_1 (fun args s t => by simp [limb_1_1, Cond.after, Cond.holds, Cond.value]), lw_limb limb_1_2 (fun args s t => Cond.after_iff.mpr (by
  first | (rw [show limb_1_2 = Cond.eq .result (.int 1) from rfl, Cond.eq_ints (x := 1) (y := 1) rfl rfl]; simp; done) | (simp [limb_1_2, Cond.value, Term.eval]; done)))⟩
