/-! constructors -/
section INI
variable {p : Program} {l : Launch} {e : Env} {R : Room} {s : State} {m : MethodId} {args : Array Value} {below : List Frame} {meth : Method} {c : Code} {H H0 : Heap} {locs : List Loc} {cells slots : Nat} {Q : State → Prop}
variable {G : UG} {A : Nat → Prop} {ws : va_W} {cc : ByteArray} {nL pc : Nat} {own : String} {ls : Array Slot} {rest : List Value}
theorem i_newI (S : CallFix p m c cc nL s args tbl own) (hK : va_K G.1 clX (tysX G) s) (hP : va_P G.1 clX ws H) (hD : va_D A ws) (hS : va_S A H0 H locs) (hA : ∀ q, H0.size ≤ q → A q) {n : Int32} (N' : Nat) (hn : ¬ n < 0) (hN : n.toNatClampNeg = N') (hb : N' * 4 ≤ 536870912) (hcells : cells + 1 ≤ R.cells) (hslots : slots + N' ≤ R.slots) (hdg : decode cc pc = .ok (.newarray .int, 2))
    (kk : ∀ (q : Nat) (H1 : Heap), va_P G.1 clX (ws ++ [(q, .inl (G.2.2.1, N', .inl (fun _ => 0)))]) H1 → va_D A (ws ++ [(q, .inl (G.2.2.1, N', .inl (fun _ => 0)))]) → va_S A H0 H1 locs → W p l e R s m args below meth c H1 locs (cells + 1) (slots + N') Q (F0 m (pc + 2) ls (.ref q :: rest))) : W p l e R s m args below meth c H locs cells slots Q (F0 m pc ls (.int n :: rest)) := by
  refine va_newa (atype := .int) (ty := .int) (a0 := (N', .inl (fun _ => 0))) S.1 S.2.1 (S.2.2.2.2 _ la_int) rfl hK hP hD hS hA (fun _ => rfl) hn hN hb hcells hslots hdg (fun q cA H1 hK1 hP1 hD1 hS1 => ?_)
  have e1 := (hK1.2 4 (cA, .int) rfl).2
  have e2 := (hK.2 0 (G.2.2.1, .int) rfl).2
  have e3 : G.2.2.1 = cA := Option.some.inj (Eq.trans (Eq.symm e2) e1)
  rw [← e3] at hP1 hD1
  exact kk q H1 hP1 hD1 hS1
theorem i_newZ (S : CallFix p m c cc nL s args tbl own) (hK : va_K G.1 clX (tysX G) s) (hP : va_P G.1 clX ws H) (hD : va_D A ws) (hS : va_S A H0 H locs) (hA : ∀ q, H0.size ≤ q → A q) {n : Int32} (N' : Nat) (hn : ¬ n < 0) (hN : n.toNatClampNeg = N') (hb : N' * 1 ≤ 536870912) (hcells : cells + 1 ≤ R.cells) (hslots : slots + N' ≤ R.slots) (hdg : decode cc pc = .ok (.newarray .boolean, 2))
    (kk : ∀ (q : Nat) (H1 : Heap), va_P G.1 clX (ws ++ [(q, .inl (G.2.2.2.1, N', .inl (fun _ => 0)))]) H1 → va_D A (ws ++ [(q, .inl (G.2.2.2.1, N', .inl (fun _ => 0)))]) → va_S A H0 H1 locs → W p l e R s m args below meth c H1 locs (cells + 1) (slots + N') Q (F0 m (pc + 2) ls (.ref q :: rest))) : W p l e R s m args below meth c H locs cells slots Q (F0 m pc ls (.int n :: rest)) := by
  refine va_newa (atype := .boolean) (ty := .boolean) (a0 := (N', .inl (fun _ => 0))) S.1 S.2.1 (S.2.2.2.2 _ la_boolean) rfl hK hP hD hS hA (fun _ => rfl) hn hN hb hcells hslots hdg (fun q cA H1 hK1 hP1 hD1 hS1 => ?_)
  have e1 := (hK1.2 4 (cA, .boolean) rfl).2
  have e2 := (hK.2 1 (G.2.2.2.1, .boolean) rfl).2
  have e3 : G.2.2.2.1 = cA := Option.some.inj (Eq.trans (Eq.symm e2) e1)
  rw [← e3] at hP1 hD1
  exact kk q H1 hP1 hD1 hS1
/-- behind a call whose world was the last cell -/
theorem i_join {A0 : Nat → Prop} {D : va_G} {cl : List vw_C} {wr w1 : va_W} {q : Nat} {ec : va_E} {H1 : Heap} (hP : va_P D cl (wr ++ [(q, ec)]) H) (hD : va_D A0 (wr ++ [(q, ec)])) (hk : ∀ x : Nat, x < H.size → ¬ va_A [(q, ec)] H.size x → H1[x]? = H[x]?) (hF : ∀ x, va_A [(q, ec)] H.size x → A0 x) (hP1 : va_P D cl w1 H1) (hD1 : va_D (va_A [(q, ec)] H.size) w1) : va_P D cl (wr ++ w1) H1 ∧ va_D A0 (wr ++ w1) := by
  have at' : ∀ (k : Nat) (y : Nat × va_E), wr[k]? = some y → (wr ++ [(q, ec)])[k]? = some y := fun k y hy => by rw [List.getElem?_append_left (List.getElem?_eq_some_iff.mp hy).1]; exact hy
  have last : (wr ++ [(q, ec)])[wr.length]? = some (q, ec) := by simp
  have apart : ∀ (k : Nat) (y : Nat × va_E), wr[k]? = some y → y.1 < H.size ∧ ¬ va_A [(q, ec)] H.size y.1 := by
    intro k y hy
    have hl := (hP k y (at' k y hy)).lt
    refine ⟨hl, fun h => ?_⟩
    rcases h with ⟨k2, e2, h⟩ | h
    · have hz : k2 < 1 := (List.getElem?_eq_some_iff.mp h).1
      rw [show k2 = 0 by omega] at h
      have h : some (q, ec) = some (y.1, e2) := h
      have hq : q = y.1 := congrArg Prod.fst (Option.some.inj h)
      have := hD.1 k wr.length y (q, ec) (at' k y hy) last hq.symm
      have := (List.getElem?_eq_some_iff.mp hy).1
      omega
    · omega
  have hDr : va_D A0 wr := ⟨fun i j a b hi hj hab => hD.1 i j a b (at' i a hi) (at' j b hj) hab, fun k y hy => hD.2 k y (at' k y hy)⟩
  refine ⟨va_P.app (fun k y hy => ?_) hP1, va_D.app hDr (hD1.weaken (fun k y _ h => hF y.1 h)) (fun i j a b ha hb hab => ?_)⟩
  · obtain ⟨g1, g2⟩ := apart k y hy
    exact (hP k y (at' k y hy)).kept (hk y.1 g1 g2)
  · exact (apart i a ha).2 (by rw [hab]; exact hD1.2 j b hb)
end INI
set_option maxHeartbeats 4000000 in
set_option maxRecDepth 100000 in
theorem c_Tr_init (l : Launch) (h0 : Nat) : Met l y_Tr_init (Cond.code y_Tr_init b_Tr_init 1 none :: tbl) ({ frames := 1, cells := 0, slots := 0, locals := 20 }) (va_Pc [.ref h0] (fun _ => True)) (va_Qv (fun _ : Unit => True) (fun _ _ => True) (fun _ => False)) 0 0 (fun _ => False) := by
  refine u_start [.ref h0] (by decide) (Nat.le_of_ble_eq_true rfl) ?_
  intro p_ e_ s_ m_ bl_ me_ c_ ls S hr hlk hin hl hB
  have hl : lv_has ls 1 [(0, .ref h0)] := hl
  refine lv_aload_n S.1 S.2.1 d_Tr_init_0 rfl (lv_at hl 0 rfl) ?_
  refine W.objInit S.1 S.2.1 S.2.2.2.1 (S.2.2.2.2 _ lm_Tr_3) (S.2.2.2.2 _ li_Ob_init) (S.2.2.2.2 _ t_Ob_init) rfl (hl.1.trans S.2.2.1.symm) rfl d_Tr_init_1 (Nat.le_of_ble_eq_true rfl) (Nat.le_of_ble_eq_true rfl) ?_
  refine W.eq (g2 := F0 m_ 4 ls []) rfl ?_
  exact W.vret S.1 S.2.1 hr (fun t ht hW => ⟨⟨(), rfl, trivial, trivial⟩, va_S.F va_S.rf ht⟩) (fun _ h => absurd h List.not_mem_nil) d_Tr_init_4 hlk
set_option maxHeartbeats 4000000 in
set_option maxRecDepth 100000 in
theorem c_Cm_init (l : Launch) (h0 : Nat) : Met l y_Cm_init (Cond.code y_Cm_init b_Cm_init 1 none :: tbl) ({ frames := 1, cells := 0, slots := 0, locals := 20 }) (va_Pc [.ref h0] (fun _ => True)) (va_Qv (fun _ : Unit => True) (fun _ _ => True) (fun _ => False)) 0 0 (fun _ => False) := by
  refine u_start [.ref h0] (by decide) (Nat.le_of_ble_eq_true rfl) ?_
  intro p_ e_ s_ m_ bl_ me_ c_ ls S hr hlk hin hl hB
  have hl : lv_has ls 1 [(0, .ref h0)] := hl
  refine lv_aload_n S.1 S.2.1 d_Cm_init_0 rfl (lv_at hl 0 rfl) ?_
  refine W.objInit S.1 S.2.1 S.2.2.2.1 (S.2.2.2.2 _ lm_Cm_3) (S.2.2.2.2 _ li_Ob_init) (S.2.2.2.2 _ t_Ob_init) rfl (hl.1.trans S.2.2.1.symm) rfl d_Cm_init_1 (Nat.le_of_ble_eq_true rfl) (Nat.le_of_ble_eq_true rfl) ?_
  refine W.eq (g2 := F0 m_ 4 ls []) rfl ?_
  exact W.vret S.1 S.2.1 hr (fun t ht hW => ⟨⟨(), rfl, trivial, trivial⟩, va_S.F va_S.rf ht⟩) (fun _ h => absurd h List.not_mem_nil) d_Cm_init_4 hlk
set_option maxHeartbeats 4000000 in
set_option maxRecDepth 100000 in
theorem c_Sp_init (l : Launch) (G : UG) (h0 sz : Nat) : Met l y_Sp_init (Cond.code y_Sp_init b_Sp_init 1 none :: tbl) ({ frames := 1, cells := 9, slots := 17224, locals := 20 }) (va_Pc [.ref h0] (fun U => U.heap.size = sz ∧ va_P G.1 clX [(h0, .inr (3, [.null, .null, .null, .null, .null, .null, .null, .null, .null, .int 0]))] U.heap ∧ va_K G.1 clX (tysX G) U ∧ va_D (fun _ => True) [(h0, .inr (3, [.null, .null, .null, .null, .null, .null, .null, .null, .null, .int 0]))])) (va_Qv (fun _ : Nat → Nat => True) (fun u t => va_P G.1 clX [(h0, .inr (3, [.ref (u 0), .ref (u 1), .ref (u 2), .ref (u 3), .ref (u 4), .ref (u 5), .ref (u 6), .ref (u 7), .ref (u 8), .int 0])), ((u 0), .inl (G.2.2.1, 300, .inl (fun _ => 0))), ((u 1), .inl (G.2.2.1, 300, .inl (fun _ => 0))), ((u 2), .inl (G.2.2.1, 300, .inl (fun _ => 0))), ((u 3), .inl (G.2.2.1, 300, .inl (fun _ => 0))), ((u 4), .inl (G.2.2.1, 300, .inl (fun _ => 0))), ((u 5), .inl (G.2.2.1, 7200, .inl (fun _ => 0))), ((u 6), .inl (G.2.2.1, 300, .inl (fun _ => 0))), ((u 7), .inl (G.2.2.1, 7200, .inl (fun _ => 0))), ((u 8), .inl (G.2.2.1, 1024, .inl (fun _ => 0)))] t.heap ∧ va_D (va_A [(h0, .inr (3, [.null, .null, .null, .null, .null, .null, .null, .null, .null, .int 0]))] sz) [(h0, .inr (3, [.ref (u 0), .ref (u 1), .ref (u 2), .ref (u 3), .ref (u 4), .ref (u 5), .ref (u 6), .ref (u 7), .ref (u 8), .int 0])), ((u 0), .inl (G.2.2.1, 300, .inl (fun _ => 0))), ((u 1), .inl (G.2.2.1, 300, .inl (fun _ => 0))), ((u 2), .inl (G.2.2.1, 300, .inl (fun _ => 0))), ((u 3), .inl (G.2.2.1, 300, .inl (fun _ => 0))), ((u 4), .inl (G.2.2.1, 300, .inl (fun _ => 0))), ((u 5), .inl (G.2.2.1, 7200, .inl (fun _ => 0))), ((u 6), .inl (G.2.2.1, 300, .inl (fun _ => 0))), ((u 7), .inl (G.2.2.1, 7200, .inl (fun _ => 0))), ((u 8), .inl (G.2.2.1, 1024, .inl (fun _ => 0)))]) (va_A [(h0, .inr (3, [.null, .null, .null, .null, .null, .null, .null, .null, .null, .int 0]))] sz)) 9 17224 (va_A [(h0, .inr (3, [.null, .null, .null, .null, .null, .null, .null, .null, .null, .int 0]))] sz) := by
  refine u_start [.ref h0] (by decide) (Nat.le_of_ble_eq_true rfl) ?_
  intro p_ e_ s_ m_ bl_ me_ c_ ls S hr hlk hin hl hB
  have hl : lv_has ls 1 [(0, .ref h0)] := hl
  obtain ⟨hsz, hP, hK, hD0⟩ := hB
  subst hsz
  have hD := hD0.self (sz := s_.heap.size)
  generalize hAe : va_A [(h0, .inr (3, [.null, .null, .null, .null, .null, .null, .null, .null, .null, .int 0]))] s_.heap.size = A at hD ⊢
  have hA : ∀ q : Nat, s_.heap.size ≤ q → A q := fun q h => by rw [← hAe]; exact Or.inr h
  have hS : va_S A s_.heap s_.heap [] := va_S.rf
  refine lv_aload_n S.1 S.2.1 d_Sp_init_0 rfl (lv_at hl 0 rfl) ?_
  refine W.objInit S.1 S.2.1 S.2.2.2.1 (S.2.2.2.2 _ lm_Sp_3) (S.2.2.2.2 _ li_Ob_init) (S.2.2.2.2 _ t_Ob_init) rfl (hl.1.trans S.2.2.1.symm) rfl d_Sp_init_1 (Nat.le_of_ble_eq_true rfl) (Nat.le_of_ble_eq_true rfl) ?_
  refine W.eq (g2 := F0 m_ 4 ls []) rfl ?_
  refine lv_aload_n S.1 S.2.1 d_Sp_init_4 rfl (lv_at hl 0 rfl) ?_
  refine lv_sipush (v := (300 : Int32)) S.1 S.2.1 d_Sp_init_5 (by decide) ?_
  refine i_newI S hK hP hD hS hA 300 (by decide) (by decide) (by decide) (Nat.le_of_ble_eq_true rfl) (Nat.le_of_ble_eq_true rfl) d_Sp_init_8 (fun q0 H hP hD hS => ?_)
  have hP : va_P G.1 clX [(h0, .inr (3, [.null, .null, .null, .null, .null, .null, .null, .null, .null, .int 0])), (q0, .inl (G.2.2.1, 300, .inl (fun _ => 0)))] H := hP
  have hD : va_D A [(h0, .inr (3, [.null, .null, .null, .null, .null, .null, .null, .null, .null, .int 0])), (q0, .inl (G.2.2.1, 300, .inl (fun _ => 0)))] := hD
  refine W.widen (k := 1) (n := 300) (Nat.le_of_ble_eq_true rfl) (Nat.le_of_ble_eq_true rfl) ?_
  refine va_putF (D := G.1) (ci := 3) (v := .ref q0) (ty := ty_Sp 0) (C := "ClaimDesk$Space") (T := T_Sp) (N := 10) S.1 S.2.1 S.2.2.2.2 in_Sp ty_Sp tk_Sp nm_Sp S.2.2.2.1 hK hP hD hS 0 rfl rfl 0 (by decide) (S.2.2.2.2 _ lf_Sp_9) (fun _ h9 => h9) rfl (hin rfl) rfl (by decide +kernel) rfl rfl (Nat.le_of_ble_eq_true rfl) d_Sp_init_10 (fun H locs hP hD hS => ?_)
  have hP : va_P G.1 clX [(h0, .inr (3, [.ref q0, .null, .null, .null, .null, .null, .null, .null, .null, .int 0])), (q0, .inl (G.2.2.1, 300, .inl (fun _ => 0)))] H := hP
  have hD : va_D A [(h0, .inr (3, [.ref q0, .null, .null, .null, .null, .null, .null, .null, .null, .int 0])), (q0, .inl (G.2.2.1, 300, .inl (fun _ => 0)))] := hD
  refine lv_aload_n S.1 S.2.1 d_Sp_init_13 rfl (lv_at hl 0 rfl) ?_
  refine lv_sipush (v := (300 : Int32)) S.1 S.2.1 d_Sp_init_14 (by decide) ?_
  refine i_newI S hK hP hD hS hA 300 (by decide) (by decide) (by decide) (Nat.le_of_ble_eq_true rfl) (Nat.le_of_ble_eq_true rfl) d_Sp_init_17 (fun q1 H hP hD hS => ?_)
  have hP : va_P G.1 clX [(h0, .inr (3, [.ref q0, .null, .null, .null, .null, .null, .null, .null, .null, .int 0])), (q0, .inl (G.2.2.1, 300, .inl (fun _ => 0))), (q1, .inl (G.2.2.1, 300, .inl (fun _ => 0)))] H := hP
  have hD : va_D A [(h0, .inr (3, [.ref q0, .null, .null, .null, .null, .null, .null, .null, .null, .int 0])), (q0, .inl (G.2.2.1, 300, .inl (fun _ => 0))), (q1, .inl (G.2.2.1, 300, .inl (fun _ => 0)))] := hD
  refine W.widen (k := 2) (n := 600) (Nat.le_of_ble_eq_true rfl) (Nat.le_of_ble_eq_true rfl) ?_
  refine va_putF (D := G.1) (ci := 3) (v := .ref q1) (ty := ty_Sp 1) (C := "ClaimDesk$Space") (T := T_Sp) (N := 10) S.1 S.2.1 S.2.2.2.2 in_Sp ty_Sp tk_Sp nm_Sp S.2.2.2.1 hK hP hD hS 0 rfl rfl 1 (by decide) (S.2.2.2.2 _ lf_Sp_15) (fun _ h9 => h9) rfl (hin rfl) rfl (by decide +kernel) rfl rfl (Nat.le_of_ble_eq_true rfl) d_Sp_init_19 (fun H locs hP hD hS => ?_)
  have hP : va_P G.1 clX [(h0, .inr (3, [.ref q0, .ref q1, .null, .null, .null, .null, .null, .null, .null, .int 0])), (q0, .inl (G.2.2.1, 300, .inl (fun _ => 0))), (q1, .inl (G.2.2.1, 300, .inl (fun _ => 0)))] H := hP
  have hD : va_D A [(h0, .inr (3, [.ref q0, .ref q1, .null, .null, .null, .null, .null, .null, .null, .int 0])), (q0, .inl (G.2.2.1, 300, .inl (fun _ => 0))), (q1, .inl (G.2.2.1, 300, .inl (fun _ => 0)))] := hD
  refine lv_aload_n S.1 S.2.1 d_Sp_init_22 rfl (lv_at hl 0 rfl) ?_
  refine lv_sipush (v := (300 : Int32)) S.1 S.2.1 d_Sp_init_23 (by decide) ?_
  refine i_newI S hK hP hD hS hA 300 (by decide) (by decide) (by decide) (Nat.le_of_ble_eq_true rfl) (Nat.le_of_ble_eq_true rfl) d_Sp_init_26 (fun q2 H hP hD hS => ?_)
  have hP : va_P G.1 clX [(h0, .inr (3, [.ref q0, .ref q1, .null, .null, .null, .null, .null, .null, .null, .int 0])), (q0, .inl (G.2.2.1, 300, .inl (fun _ => 0))), (q1, .inl (G.2.2.1, 300, .inl (fun _ => 0))), (q2, .inl (G.2.2.1, 300, .inl (fun _ => 0)))] H := hP
  have hD : va_D A [(h0, .inr (3, [.ref q0, .ref q1, .null, .null, .null, .null, .null, .null, .null, .int 0])), (q0, .inl (G.2.2.1, 300, .inl (fun _ => 0))), (q1, .inl (G.2.2.1, 300, .inl (fun _ => 0))), (q2, .inl (G.2.2.1, 300, .inl (fun _ => 0)))] := hD
  refine W.widen (k := 3) (n := 900) (Nat.le_of_ble_eq_true rfl) (Nat.le_of_ble_eq_true rfl) ?_
  refine va_putF (D := G.1) (ci := 3) (v := .ref q2) (ty := ty_Sp 2) (C := "ClaimDesk$Space") (T := T_Sp) (N := 10) S.1 S.2.1 S.2.2.2.2 in_Sp ty_Sp tk_Sp nm_Sp S.2.2.2.1 hK hP hD hS 0 rfl rfl 2 (by decide) (S.2.2.2.2 _ lf_Sp_18) (fun _ h9 => h9) rfl (hin rfl) rfl (by decide +kernel) rfl rfl (Nat.le_of_ble_eq_true rfl) d_Sp_init_28 (fun H locs hP hD hS => ?_)
  have hP : va_P G.1 clX [(h0, .inr (3, [.ref q0, .ref q1, .ref q2, .null, .null, .null, .null, .null, .null, .int 0])), (q0, .inl (G.2.2.1, 300, .inl (fun _ => 0))), (q1, .inl (G.2.2.1, 300, .inl (fun _ => 0))), (q2, .inl (G.2.2.1, 300, .inl (fun _ => 0)))] H := hP
  have hD : va_D A [(h0, .inr (3, [.ref q0, .ref q1, .ref q2, .null, .null, .null, .null, .null, .null, .int 0])), (q0, .inl (G.2.2.1, 300, .inl (fun _ => 0))), (q1, .inl (G.2.2.1, 300, .inl (fun _ => 0))), (q2, .inl (G.2.2.1, 300, .inl (fun _ => 0)))] := hD
  refine lv_aload_n S.1 S.2.1 d_Sp_init_31 rfl (lv_at hl 0 rfl) ?_
  refine lv_sipush (v := (300 : Int32)) S.1 S.2.1 d_Sp_init_32 (by decide) ?_
  refine i_newI S hK hP hD hS hA 300 (by decide) (by decide) (by decide) (Nat.le_of_ble_eq_true rfl) (Nat.le_of_ble_eq_true rfl) d_Sp_init_35 (fun q3 H hP hD hS => ?_)
  have hP : va_P G.1 clX [(h0, .inr (3, [.ref q0, .ref q1, .ref q2, .null, .null, .null, .null, .null, .null, .int 0])), (q0, .inl (G.2.2.1, 300, .inl (fun _ => 0))), (q1, .inl (G.2.2.1, 300, .inl (fun _ => 0))), (q2, .inl (G.2.2.1, 300, .inl (fun _ => 0))), (q3, .inl (G.2.2.1, 300, .inl (fun _ => 0)))] H := hP
  have hD : va_D A [(h0, .inr (3, [.ref q0, .ref q1, .ref q2, .null, .null, .null, .null, .null, .null, .int 0])), (q0, .inl (G.2.2.1, 300, .inl (fun _ => 0))), (q1, .inl (G.2.2.1, 300, .inl (fun _ => 0))), (q2, .inl (G.2.2.1, 300, .inl (fun _ => 0))), (q3, .inl (G.2.2.1, 300, .inl (fun _ => 0)))] := hD
  refine W.widen (k := 4) (n := 1200) (Nat.le_of_ble_eq_true rfl) (Nat.le_of_ble_eq_true rfl) ?_
  refine va_putF (D := G.1) (ci := 3) (v := .ref q3) (ty := ty_Sp 3) (C := "ClaimDesk$Space") (T := T_Sp) (N := 10) S.1 S.2.1 S.2.2.2.2 in_Sp ty_Sp tk_Sp nm_Sp S.2.2.2.1 hK hP hD hS 0 rfl rfl 3 (by decide) (S.2.2.2.2 _ lf_Sp_21) (fun _ h9 => h9) rfl (hin rfl) rfl (by decide +kernel) rfl rfl (Nat.le_of_ble_eq_true rfl) d_Sp_init_37 (fun H locs hP hD hS => ?_)
  have hP : va_P G.1 clX [(h0, .inr (3, [.ref q0, .ref q1, .ref q2, .ref q3, .null, .null, .null, .null, .null, .int 0])), (q0, .inl (G.2.2.1, 300, .inl (fun _ => 0))), (q1, .inl (G.2.2.1, 300, .inl (fun _ => 0))), (q2, .inl (G.2.2.1, 300, .inl (fun _ => 0))), (q3, .inl (G.2.2.1, 300, .inl (fun _ => 0)))] H := hP
  have hD : va_D A [(h0, .inr (3, [.ref q0, .ref q1, .ref q2, .ref q3, .null, .null, .null, .null, .null, .int 0])), (q0, .inl (G.2.2.1, 300, .inl (fun _ => 0))), (q1, .inl (G.2.2.1, 300, .inl (fun _ => 0))), (q2, .inl (G.2.2.1, 300, .inl (fun _ => 0))), (q3, .inl (G.2.2.1, 300, .inl (fun _ => 0)))] := hD
  refine lv_aload_n S.1 S.2.1 d_Sp_init_40 rfl (lv_at hl 0 rfl) ?_
  refine lv_sipush (v := (300 : Int32)) S.1 S.2.1 d_Sp_init_41 (by decide) ?_
  refine i_newI S hK hP hD hS hA 300 (by decide) (by decide) (by decide) (Nat.le_of_ble_eq_true rfl) (Nat.le_of_ble_eq_true rfl) d_Sp_init_44 (fun q4 H hP hD hS => ?_)
  have hP : va_P G.1 clX [(h0, .inr (3, [.ref q0, .ref q1, .ref q2, .ref q3, .null, .null, .null, .null, .null, .int 0])), (q0, .inl (G.2.2.1, 300, .inl (fun _ => 0))), (q1, .inl (G.2.2.1, 300, .inl (fun _ => 0))), (q2, .inl (G.2.2.1, 300, .inl (fun _ => 0))), (q3, .inl (G.2.2.1, 300, .inl (fun _ => 0))), (q4, .inl (G.2.2.1, 300, .inl (fun _ => 0)))] H := hP
  have hD : va_D A [(h0, .inr (3, [.ref q0, .ref q1, .ref q2, .ref q3, .null, .null, .null, .null, .null, .int 0])), (q0, .inl (G.2.2.1, 300, .inl (fun _ => 0))), (q1, .inl (G.2.2.1, 300, .inl (fun _ => 0))), (q2, .inl (G.2.2.1, 300, .inl (fun _ => 0))), (q3, .inl (G.2.2.1, 300, .inl (fun _ => 0))), (q4, .inl (G.2.2.1, 300, .inl (fun _ => 0)))] := hD
  refine W.widen (k := 5) (n := 1500) (Nat.le_of_ble_eq_true rfl) (Nat.le_of_ble_eq_true rfl) ?_
  refine va_putF (D := G.1) (ci := 3) (v := .ref q4) (ty := ty_Sp 4) (C := "ClaimDesk$Space") (T := T_Sp) (N := 10) S.1 S.2.1 S.2.2.2.2 in_Sp ty_Sp tk_Sp nm_Sp S.2.2.2.1 hK hP hD hS 0 rfl rfl 4 (by decide) (S.2.2.2.2 _ lf_Sp_24) (fun _ h9 => h9) rfl (hin rfl) rfl (by decide +kernel) rfl rfl (Nat.le_of_ble_eq_true rfl) d_Sp_init_46 (fun H locs hP hD hS => ?_)
  have hP : va_P G.1 clX [(h0, .inr (3, [.ref q0, .ref q1, .ref q2, .ref q3, .ref q4, .null, .null, .null, .null, .int 0])), (q0, .inl (G.2.2.1, 300, .inl (fun _ => 0))), (q1, .inl (G.2.2.1, 300, .inl (fun _ => 0))), (q2, .inl (G.2.2.1, 300, .inl (fun _ => 0))), (q3, .inl (G.2.2.1, 300, .inl (fun _ => 0))), (q4, .inl (G.2.2.1, 300, .inl (fun _ => 0)))] H := hP
  have hD : va_D A [(h0, .inr (3, [.ref q0, .ref q1, .ref q2, .ref q3, .ref q4, .null, .null, .null, .null, .int 0])), (q0, .inl (G.2.2.1, 300, .inl (fun _ => 0))), (q1, .inl (G.2.2.1, 300, .inl (fun _ => 0))), (q2, .inl (G.2.2.1, 300, .inl (fun _ => 0))), (q3, .inl (G.2.2.1, 300, .inl (fun _ => 0))), (q4, .inl (G.2.2.1, 300, .inl (fun _ => 0)))] := hD
  refine lv_aload_n S.1 S.2.1 d_Sp_init_49 rfl (lv_at hl 0 rfl) ?_
  refine lv_sipush (v := (7200 : Int32)) S.1 S.2.1 d_Sp_init_50 (by decide) ?_
  refine i_newI S hK hP hD hS hA 7200 (by decide) (by decide) (by decide) (Nat.le_of_ble_eq_true rfl) (Nat.le_of_ble_eq_true rfl) d_Sp_init_53 (fun q5 H hP hD hS => ?_)
  have hP : va_P G.1 clX [(h0, .inr (3, [.ref q0, .ref q1, .ref q2, .ref q3, .ref q4, .null, .null, .null, .null, .int 0])), (q0, .inl (G.2.2.1, 300, .inl (fun _ => 0))), (q1, .inl (G.2.2.1, 300, .inl (fun _ => 0))), (q2, .inl (G.2.2.1, 300, .inl (fun _ => 0))), (q3, .inl (G.2.2.1, 300, .inl (fun _ => 0))), (q4, .inl (G.2.2.1, 300, .inl (fun _ => 0))), (q5, .inl (G.2.2.1, 7200, .inl (fun _ => 0)))] H := hP
  have hD : va_D A [(h0, .inr (3, [.ref q0, .ref q1, .ref q2, .ref q3, .ref q4, .null, .null, .null, .null, .int 0])), (q0, .inl (G.2.2.1, 300, .inl (fun _ => 0))), (q1, .inl (G.2.2.1, 300, .inl (fun _ => 0))), (q2, .inl (G.2.2.1, 300, .inl (fun _ => 0))), (q3, .inl (G.2.2.1, 300, .inl (fun _ => 0))), (q4, .inl (G.2.2.1, 300, .inl (fun _ => 0))), (q5, .inl (G.2.2.1, 7200, .inl (fun _ => 0)))] := hD
  refine W.widen (k := 6) (n := 8700) (Nat.le_of_ble_eq_true rfl) (Nat.le_of_ble_eq_true rfl) ?_
  refine va_putF (D := G.1) (ci := 3) (v := .ref q5) (ty := ty_Sp 5) (C := "ClaimDesk$Space") (T := T_Sp) (N := 10) S.1 S.2.1 S.2.2.2.2 in_Sp ty_Sp tk_Sp nm_Sp S.2.2.2.1 hK hP hD hS 0 rfl rfl 5 (by decide) (S.2.2.2.2 _ lf_Sp_27) (fun _ h9 => h9) rfl (hin rfl) rfl (by decide +kernel) rfl rfl (Nat.le_of_ble_eq_true rfl) d_Sp_init_55 (fun H locs hP hD hS => ?_)
  have hP : va_P G.1 clX [(h0, .inr (3, [.ref q0, .ref q1, .ref q2, .ref q3, .ref q4, .ref q5, .null, .null, .null, .int 0])), (q0, .inl (G.2.2.1, 300, .inl (fun _ => 0))), (q1, .inl (G.2.2.1, 300, .inl (fun _ => 0))), (q2, .inl (G.2.2.1, 300, .inl (fun _ => 0))), (q3, .inl (G.2.2.1, 300, .inl (fun _ => 0))), (q4, .inl (G.2.2.1, 300, .inl (fun _ => 0))), (q5, .inl (G.2.2.1, 7200, .inl (fun _ => 0)))] H := hP
  have hD : va_D A [(h0, .inr (3, [.ref q0, .ref q1, .ref q2, .ref q3, .ref q4, .ref q5, .null, .null, .null, .int 0])), (q0, .inl (G.2.2.1, 300, .inl (fun _ => 0))), (q1, .inl (G.2.2.1, 300, .inl (fun _ => 0))), (q2, .inl (G.2.2.1, 300, .inl (fun _ => 0))), (q3, .inl (G.2.2.1, 300, .inl (fun _ => 0))), (q4, .inl (G.2.2.1, 300, .inl (fun _ => 0))), (q5, .inl (G.2.2.1, 7200, .inl (fun _ => 0)))] := hD
  refine lv_aload_n S.1 S.2.1 d_Sp_init_58 rfl (lv_at hl 0 rfl) ?_
  refine lv_sipush (v := (300 : Int32)) S.1 S.2.1 d_Sp_init_59 (by decide) ?_
  refine i_newI S hK hP hD hS hA 300 (by decide) (by decide) (by decide) (Nat.le_of_ble_eq_true rfl) (Nat.le_of_ble_eq_true rfl) d_Sp_init_62 (fun q6 H hP hD hS => ?_)
  have hP : va_P G.1 clX [(h0, .inr (3, [.ref q0, .ref q1, .ref q2, .ref q3, .ref q4, .ref q5, .null, .null, .null, .int 0])), (q0, .inl (G.2.2.1, 300, .inl (fun _ => 0))), (q1, .inl (G.2.2.1, 300, .inl (fun _ => 0))), (q2, .inl (G.2.2.1, 300, .inl (fun _ => 0))), (q3, .inl (G.2.2.1, 300, .inl (fun _ => 0))), (q4, .inl (G.2.2.1, 300, .inl (fun _ => 0))), (q5, .inl (G.2.2.1, 7200, .inl (fun _ => 0))), (q6, .inl (G.2.2.1, 300, .inl (fun _ => 0)))] H := hP
  have hD : va_D A [(h0, .inr (3, [.ref q0, .ref q1, .ref q2, .ref q3, .ref q4, .ref q5, .null, .null, .null, .int 0])), (q0, .inl (G.2.2.1, 300, .inl (fun _ => 0))), (q1, .inl (G.2.2.1, 300, .inl (fun _ => 0))), (q2, .inl (G.2.2.1, 300, .inl (fun _ => 0))), (q3, .inl (G.2.2.1, 300, .inl (fun _ => 0))), (q4, .inl (G.2.2.1, 300, .inl (fun _ => 0))), (q5, .inl (G.2.2.1, 7200, .inl (fun _ => 0))), (q6, .inl (G.2.2.1, 300, .inl (fun _ => 0)))] := hD
  refine W.widen (k := 7) (n := 9000) (Nat.le_of_ble_eq_true rfl) (Nat.le_of_ble_eq_true rfl) ?_
  refine va_putF (D := G.1) (ci := 3) (v := .ref q6) (ty := ty_Sp 6) (C := "ClaimDesk$Space") (T := T_Sp) (N := 10) S.1 S.2.1 S.2.2.2.2 in_Sp ty_Sp tk_Sp nm_Sp S.2.2.2.1 hK hP hD hS 0 rfl rfl 6 (by decide) (S.2.2.2.2 _ lf_Sp_30) (fun _ h9 => h9) rfl (hin rfl) rfl (by decide +kernel) rfl rfl (Nat.le_of_ble_eq_true rfl) d_Sp_init_64 (fun H locs hP hD hS => ?_)
  have hP : va_P G.1 clX [(h0, .inr (3, [.ref q0, .ref q1, .ref q2, .ref q3, .ref q4, .ref q5, .ref q6, .null, .null, .int 0])), (q0, .inl (G.2.2.1, 300, .inl (fun _ => 0))), (q1, .inl (G.2.2.1, 300, .inl (fun _ => 0))), (q2, .inl (G.2.2.1, 300, .inl (fun _ => 0))), (q3, .inl (G.2.2.1, 300, .inl (fun _ => 0))), (q4, .inl (G.2.2.1, 300, .inl (fun _ => 0))), (q5, .inl (G.2.2.1, 7200, .inl (fun _ => 0))), (q6, .inl (G.2.2.1, 300, .inl (fun _ => 0)))] H := hP
  have hD : va_D A [(h0, .inr (3, [.ref q0, .ref q1, .ref q2, .ref q3, .ref q4, .ref q5, .ref q6, .null, .null, .int 0])), (q0, .inl (G.2.2.1, 300, .inl (fun _ => 0))), (q1, .inl (G.2.2.1, 300, .inl (fun _ => 0))), (q2, .inl (G.2.2.1, 300, .inl (fun _ => 0))), (q3, .inl (G.2.2.1, 300, .inl (fun _ => 0))), (q4, .inl (G.2.2.1, 300, .inl (fun _ => 0))), (q5, .inl (G.2.2.1, 7200, .inl (fun _ => 0))), (q6, .inl (G.2.2.1, 300, .inl (fun _ => 0)))] := hD
  refine lv_aload_n S.1 S.2.1 d_Sp_init_67 rfl (lv_at hl 0 rfl) ?_
  refine lv_sipush (v := (7200 : Int32)) S.1 S.2.1 d_Sp_init_68 (by decide) ?_
  refine i_newI S hK hP hD hS hA 7200 (by decide) (by decide) (by decide) (Nat.le_of_ble_eq_true rfl) (Nat.le_of_ble_eq_true rfl) d_Sp_init_71 (fun q7 H hP hD hS => ?_)
  have hP : va_P G.1 clX [(h0, .inr (3, [.ref q0, .ref q1, .ref q2, .ref q3, .ref q4, .ref q5, .ref q6, .null, .null, .int 0])), (q0, .inl (G.2.2.1, 300, .inl (fun _ => 0))), (q1, .inl (G.2.2.1, 300, .inl (fun _ => 0))), (q2, .inl (G.2.2.1, 300, .inl (fun _ => 0))), (q3, .inl (G.2.2.1, 300, .inl (fun _ => 0))), (q4, .inl (G.2.2.1, 300, .inl (fun _ => 0))), (q5, .inl (G.2.2.1, 7200, .inl (fun _ => 0))), (q6, .inl (G.2.2.1, 300, .inl (fun _ => 0))), (q7, .inl (G.2.2.1, 7200, .inl (fun _ => 0)))] H := hP
  have hD : va_D A [(h0, .inr (3, [.ref q0, .ref q1, .ref q2, .ref q3, .ref q4, .ref q5, .ref q6, .null, .null, .int 0])), (q0, .inl (G.2.2.1, 300, .inl (fun _ => 0))), (q1, .inl (G.2.2.1, 300, .inl (fun _ => 0))), (q2, .inl (G.2.2.1, 300, .inl (fun _ => 0))), (q3, .inl (G.2.2.1, 300, .inl (fun _ => 0))), (q4, .inl (G.2.2.1, 300, .inl (fun _ => 0))), (q5, .inl (G.2.2.1, 7200, .inl (fun _ => 0))), (q6, .inl (G.2.2.1, 300, .inl (fun _ => 0))), (q7, .inl (G.2.2.1, 7200, .inl (fun _ => 0)))] := hD
  refine W.widen (k := 8) (n := 16200) (Nat.le_of_ble_eq_true rfl) (Nat.le_of_ble_eq_true rfl) ?_
  refine va_putF (D := G.1) (ci := 3) (v := .ref q7) (ty := ty_Sp 7) (C := "ClaimDesk$Space") (T := T_Sp) (N := 10) S.1 S.2.1 S.2.2.2.2 in_Sp ty_Sp tk_Sp nm_Sp S.2.2.2.1 hK hP hD hS 0 rfl rfl 7 (by decide) (S.2.2.2.2 _ lf_Sp_33) (fun _ h9 => h9) rfl (hin rfl) rfl (by decide +kernel) rfl rfl (Nat.le_of_ble_eq_true rfl) d_Sp_init_73 (fun H locs hP hD hS => ?_)
  have hP : va_P G.1 clX [(h0, .inr (3, [.ref q0, .ref q1, .ref q2, .ref q3, .ref q4, .ref q5, .ref q6, .ref q7, .null, .int 0])), (q0, .inl (G.2.2.1, 300, .inl (fun _ => 0))), (q1, .inl (G.2.2.1, 300, .inl (fun _ => 0))), (q2, .inl (G.2.2.1, 300, .inl (fun _ => 0))), (q3, .inl (G.2.2.1, 300, .inl (fun _ => 0))), (q4, .inl (G.2.2.1, 300, .inl (fun _ => 0))), (q5, .inl (G.2.2.1, 7200, .inl (fun _ => 0))), (q6, .inl (G.2.2.1, 300, .inl (fun _ => 0))), (q7, .inl (G.2.2.1, 7200, .inl (fun _ => 0)))] H := hP
  have hD : va_D A [(h0, .inr (3, [.ref q0, .ref q1, .ref q2, .ref q3, .ref q4, .ref q5, .ref q6, .ref q7, .null, .int 0])), (q0, .inl (G.2.2.1, 300, .inl (fun _ => 0))), (q1, .inl (G.2.2.1, 300, .inl (fun _ => 0))), (q2, .inl (G.2.2.1, 300, .inl (fun _ => 0))), (q3, .inl (G.2.2.1, 300, .inl (fun _ => 0))), (q4, .inl (G.2.2.1, 300, .inl (fun _ => 0))), (q5, .inl (G.2.2.1, 7200, .inl (fun _ => 0))), (q6, .inl (G.2.2.1, 300, .inl (fun _ => 0))), (q7, .inl (G.2.2.1, 7200, .inl (fun _ => 0)))] := hD
  refine lv_aload_n S.1 S.2.1 d_Sp_init_76 rfl (lv_at hl 0 rfl) ?_
  refine lv_sipush (v := (1024 : Int32)) S.1 S.2.1 d_Sp_init_77 (by decide) ?_
  refine i_newI S hK hP hD hS hA 1024 (by decide) (by decide) (by decide) (Nat.le_of_ble_eq_true rfl) (Nat.le_of_ble_eq_true rfl) d_Sp_init_80 (fun q8 H hP hD hS => ?_)
  have hP : va_P G.1 clX [(h0, .inr (3, [.ref q0, .ref q1, .ref q2, .ref q3, .ref q4, .ref q5, .ref q6, .ref q7, .null, .int 0])), (q0, .inl (G.2.2.1, 300, .inl (fun _ => 0))), (q1, .inl (G.2.2.1, 300, .inl (fun _ => 0))), (q2, .inl (G.2.2.1, 300, .inl (fun _ => 0))), (q3, .inl (G.2.2.1, 300, .inl (fun _ => 0))), (q4, .inl (G.2.2.1, 300, .inl (fun _ => 0))), (q5, .inl (G.2.2.1, 7200, .inl (fun _ => 0))), (q6, .inl (G.2.2.1, 300, .inl (fun _ => 0))), (q7, .inl (G.2.2.1, 7200, .inl (fun _ => 0))), (q8, .inl (G.2.2.1, 1024, .inl (fun _ => 0)))] H := hP
  have hD : va_D A [(h0, .inr (3, [.ref q0, .ref q1, .ref q2, .ref q3, .ref q4, .ref q5, .ref q6, .ref q7, .null, .int 0])), (q0, .inl (G.2.2.1, 300, .inl (fun _ => 0))), (q1, .inl (G.2.2.1, 300, .inl (fun _ => 0))), (q2, .inl (G.2.2.1, 300, .inl (fun _ => 0))), (q3, .inl (G.2.2.1, 300, .inl (fun _ => 0))), (q4, .inl (G.2.2.1, 300, .inl (fun _ => 0))), (q5, .inl (G.2.2.1, 7200, .inl (fun _ => 0))), (q6, .inl (G.2.2.1, 300, .inl (fun _ => 0))), (q7, .inl (G.2.2.1, 7200, .inl (fun _ => 0))), (q8, .inl (G.2.2.1, 1024, .inl (fun _ => 0)))] := hD
  refine W.widen (k := 9) (n := 17224) (Nat.le_of_ble_eq_true rfl) (Nat.le_of_ble_eq_true rfl) ?_
  refine va_putF (D := G.1) (ci := 3) (v := .ref q8) (ty := ty_Sp 8) (C := "ClaimDesk$Space") (T := T_Sp) (N := 10) S.1 S.2.1 S.2.2.2.2 in_Sp ty_Sp tk_Sp nm_Sp S.2.2.2.1 hK hP hD hS 0 rfl rfl 8 (by decide) (S.2.2.2.2 _ lf_Sp_36) (fun _ h9 => h9) rfl (hin rfl) rfl (by decide +kernel) rfl rfl (Nat.le_of_ble_eq_true rfl) d_Sp_init_82 (fun H locs hP hD hS => ?_)
  have hP : va_P G.1 clX [(h0, .inr (3, [.ref q0, .ref q1, .ref q2, .ref q3, .ref q4, .ref q5, .ref q6, .ref q7, .ref q8, .int 0])), (q0, .inl (G.2.2.1, 300, .inl (fun _ => 0))), (q1, .inl (G.2.2.1, 300, .inl (fun _ => 0))), (q2, .inl (G.2.2.1, 300, .inl (fun _ => 0))), (q3, .inl (G.2.2.1, 300, .inl (fun _ => 0))), (q4, .inl (G.2.2.1, 300, .inl (fun _ => 0))), (q5, .inl (G.2.2.1, 7200, .inl (fun _ => 0))), (q6, .inl (G.2.2.1, 300, .inl (fun _ => 0))), (q7, .inl (G.2.2.1, 7200, .inl (fun _ => 0))), (q8, .inl (G.2.2.1, 1024, .inl (fun _ => 0)))] H := hP
  have hD : va_D A [(h0, .inr (3, [.ref q0, .ref q1, .ref q2, .ref q3, .ref q4, .ref q5, .ref q6, .ref q7, .ref q8, .int 0])), (q0, .inl (G.2.2.1, 300, .inl (fun _ => 0))), (q1, .inl (G.2.2.1, 300, .inl (fun _ => 0))), (q2, .inl (G.2.2.1, 300, .inl (fun _ => 0))), (q3, .inl (G.2.2.1, 300, .inl (fun _ => 0))), (q4, .inl (G.2.2.1, 300, .inl (fun _ => 0))), (q5, .inl (G.2.2.1, 7200, .inl (fun _ => 0))), (q6, .inl (G.2.2.1, 300, .inl (fun _ => 0))), (q7, .inl (G.2.2.1, 7200, .inl (fun _ => 0))), (q8, .inl (G.2.2.1, 1024, .inl (fun _ => 0)))] := hD
  exact W.vret S.1 S.2.1 hr (fun t ht hW => ⟨⟨(fun j => match j with | 0 => q0 | 1 => q1 | 2 => q2 | 3 => q3 | 4 => q4 | 5 => q5 | 6 => q6 | 7 => q7 | _ => q8), rfl, trivial, by rw [ht]; exact hP, hD⟩, hS.F ht⟩) hS.2.2 d_Sp_init_85 hlk
set_option maxHeartbeats 4000000 in
set_option maxRecDepth 100000 in
theorem c_Av_init (l : Launch) (G : UG) (h0 sz : Nat) : Met l y_Av_init (Cond.code y_Av_init b_Av_init 1 none :: tbl) ({ frames := 1, cells := 3, slots := 900, locals := 20 }) (va_Pc [.ref h0] (fun U => U.heap.size = sz ∧ va_P G.1 clX [(h0, .inr (4, [.null, .null, .null, .int 0]))] U.heap ∧ va_K G.1 clX (tysX G) U ∧ va_D (fun _ => True) [(h0, .inr (4, [.null, .null, .null, .int 0]))])) (va_Qv (fun _ : Nat → Nat => True) (fun u t => va_P G.1 clX [(h0, .inr (4, [.ref (u 0), .ref (u 1), .ref (u 2), .int 0])), ((u 0), .inl (G.2.2.2.1, 300, .inl (fun _ => 0))), ((u 1), .inl (G.2.2.1, 300, .inl (fun _ => 0))), ((u 2), .inl (G.2.2.1, 300, .inl (fun _ => 0)))] t.heap ∧ va_D (va_A [(h0, .inr (4, [.null, .null, .null, .int 0]))] sz) [(h0, .inr (4, [.ref (u 0), .ref (u 1), .ref (u 2), .int 0])), ((u 0), .inl (G.2.2.2.1, 300, .inl (fun _ => 0))), ((u 1), .inl (G.2.2.1, 300, .inl (fun _ => 0))), ((u 2), .inl (G.2.2.1, 300, .inl (fun _ => 0)))]) (va_A [(h0, .inr (4, [.null, .null, .null, .int 0]))] sz)) 3 900 (va_A [(h0, .inr (4, [.null, .null, .null, .int 0]))] sz) := by
  refine u_start [.ref h0] (by decide) (Nat.le_of_ble_eq_true rfl) ?_
  intro p_ e_ s_ m_ bl_ me_ c_ ls S hr hlk hin hl hB
  have hl : lv_has ls 1 [(0, .ref h0)] := hl
  obtain ⟨hsz, hP, hK, hD0⟩ := hB
  subst hsz
  have hD := hD0.self (sz := s_.heap.size)
  generalize hAe : va_A [(h0, .inr (4, [.null, .null, .null, .int 0]))] s_.heap.size = A at hD ⊢
  have hA : ∀ q : Nat, s_.heap.size ≤ q → A q := fun q h => by rw [← hAe]; exact Or.inr h
  have hS : va_S A s_.heap s_.heap [] := va_S.rf
  refine lv_aload_n S.1 S.2.1 d_Av_init_0 rfl (lv_at hl 0 rfl) ?_
  refine W.objInit S.1 S.2.1 S.2.2.2.1 (S.2.2.2.2 _ lm_Av_3) (S.2.2.2.2 _ li_Ob_init) (S.2.2.2.2 _ t_Ob_init) rfl (hl.1.trans S.2.2.1.symm) rfl d_Av_init_1 (Nat.le_of_ble_eq_true rfl) (Nat.le_of_ble_eq_true rfl) ?_
  refine W.eq (g2 := F0 m_ 4 ls []) rfl ?_
  refine lv_aload_n S.1 S.2.1 d_Av_init_4 rfl (lv_at hl 0 rfl) ?_
  refine lv_sipush (v := (300 : Int32)) S.1 S.2.1 d_Av_init_5 (by decide) ?_
  refine i_newZ S hK hP hD hS hA 300 (by decide) (by decide) (by decide) (Nat.le_of_ble_eq_true rfl) (Nat.le_of_ble_eq_true rfl) d_Av_init_8 (fun q0 H hP hD hS => ?_)
  have hP : va_P G.1 clX [(h0, .inr (4, [.null, .null, .null, .int 0])), (q0, .inl (G.2.2.2.1, 300, .inl (fun _ => 0)))] H := hP
  have hD : va_D A [(h0, .inr (4, [.null, .null, .null, .int 0])), (q0, .inl (G.2.2.2.1, 300, .inl (fun _ => 0)))] := hD
  refine W.widen (k := 1) (n := 300) (Nat.le_of_ble_eq_true rfl) (Nat.le_of_ble_eq_true rfl) ?_
  refine va_putF (D := G.1) (ci := 4) (v := .ref q0) (ty := ty_Av 0) (C := "ClaimDesk$Avoidance") (T := T_Av) (N := 4) S.1 S.2.1 S.2.2.2.2 in_Av ty_Av tk_Av nm_Av S.2.2.2.1 hK hP hD hS 0 rfl rfl 0 (by decide) (S.2.2.2.2 _ lf_Av_9) (fun _ h9 => h9) rfl (hin rfl) rfl (by decide +kernel) rfl rfl (Nat.le_of_ble_eq_true rfl) d_Av_init_10 (fun H locs hP hD hS => ?_)
  have hP : va_P G.1 clX [(h0, .inr (4, [.ref q0, .null, .null, .int 0])), (q0, .inl (G.2.2.2.1, 300, .inl (fun _ => 0)))] H := hP
  have hD : va_D A [(h0, .inr (4, [.ref q0, .null, .null, .int 0])), (q0, .inl (G.2.2.2.1, 300, .inl (fun _ => 0)))] := hD
  refine lv_aload_n S.1 S.2.1 d_Av_init_13 rfl (lv_at hl 0 rfl) ?_
  refine lv_sipush (v := (300 : Int32)) S.1 S.2.1 d_Av_init_14 (by decide) ?_
  refine i_newI S hK hP hD hS hA 300 (by decide) (by decide) (by decide) (Nat.le_of_ble_eq_true rfl) (Nat.le_of_ble_eq_true rfl) d_Av_init_17 (fun q1 H hP hD hS => ?_)
  have hP : va_P G.1 clX [(h0, .inr (4, [.ref q0, .null, .null, .int 0])), (q0, .inl (G.2.2.2.1, 300, .inl (fun _ => 0))), (q1, .inl (G.2.2.1, 300, .inl (fun _ => 0)))] H := hP
  have hD : va_D A [(h0, .inr (4, [.ref q0, .null, .null, .int 0])), (q0, .inl (G.2.2.2.1, 300, .inl (fun _ => 0))), (q1, .inl (G.2.2.1, 300, .inl (fun _ => 0)))] := hD
  refine W.widen (k := 2) (n := 600) (Nat.le_of_ble_eq_true rfl) (Nat.le_of_ble_eq_true rfl) ?_
  refine va_putF (D := G.1) (ci := 4) (v := .ref q1) (ty := ty_Av 1) (C := "ClaimDesk$Avoidance") (T := T_Av) (N := 4) S.1 S.2.1 S.2.2.2.2 in_Av ty_Av tk_Av nm_Av S.2.2.2.1 hK hP hD hS 0 rfl rfl 1 (by decide) (S.2.2.2.2 _ lf_Av_15) (fun _ h9 => h9) rfl (hin rfl) rfl (by decide +kernel) rfl rfl (Nat.le_of_ble_eq_true rfl) d_Av_init_19 (fun H locs hP hD hS => ?_)
  have hP : va_P G.1 clX [(h0, .inr (4, [.ref q0, .ref q1, .null, .int 0])), (q0, .inl (G.2.2.2.1, 300, .inl (fun _ => 0))), (q1, .inl (G.2.2.1, 300, .inl (fun _ => 0)))] H := hP
  have hD : va_D A [(h0, .inr (4, [.ref q0, .ref q1, .null, .int 0])), (q0, .inl (G.2.2.2.1, 300, .inl (fun _ => 0))), (q1, .inl (G.2.2.1, 300, .inl (fun _ => 0)))] := hD
  refine lv_aload_n S.1 S.2.1 d_Av_init_22 rfl (lv_at hl 0 rfl) ?_
  refine lv_sipush (v := (300 : Int32)) S.1 S.2.1 d_Av_init_23 (by decide) ?_
  refine i_newI S hK hP hD hS hA 300 (by decide) (by decide) (by decide) (Nat.le_of_ble_eq_true rfl) (Nat.le_of_ble_eq_true rfl) d_Av_init_26 (fun q2 H hP hD hS => ?_)
  have hP : va_P G.1 clX [(h0, .inr (4, [.ref q0, .ref q1, .null, .int 0])), (q0, .inl (G.2.2.2.1, 300, .inl (fun _ => 0))), (q1, .inl (G.2.2.1, 300, .inl (fun _ => 0))), (q2, .inl (G.2.2.1, 300, .inl (fun _ => 0)))] H := hP
  have hD : va_D A [(h0, .inr (4, [.ref q0, .ref q1, .null, .int 0])), (q0, .inl (G.2.2.2.1, 300, .inl (fun _ => 0))), (q1, .inl (G.2.2.1, 300, .inl (fun _ => 0))), (q2, .inl (G.2.2.1, 300, .inl (fun _ => 0)))] := hD
  refine W.widen (k := 3) (n := 900) (Nat.le_of_ble_eq_true rfl) (Nat.le_of_ble_eq_true rfl) ?_
  refine va_putF (D := G.1) (ci := 4) (v := .ref q2) (ty := ty_Av 2) (C := "ClaimDesk$Avoidance") (T := T_Av) (N := 4) S.1 S.2.1 S.2.2.2.2 in_Av ty_Av tk_Av nm_Av S.2.2.2.1 hK hP hD hS 0 rfl rfl 2 (by decide) (S.2.2.2.2 _ lf_Av_19) (fun _ h9 => h9) rfl (hin rfl) rfl (by decide +kernel) rfl rfl (Nat.le_of_ble_eq_true rfl) d_Av_init_28 (fun H locs hP hD hS => ?_)
  have hP : va_P G.1 clX [(h0, .inr (4, [.ref q0, .ref q1, .ref q2, .int 0])), (q0, .inl (G.2.2.2.1, 300, .inl (fun _ => 0))), (q1, .inl (G.2.2.1, 300, .inl (fun _ => 0))), (q2, .inl (G.2.2.1, 300, .inl (fun _ => 0)))] H := hP
  have hD : va_D A [(h0, .inr (4, [.ref q0, .ref q1, .ref q2, .int 0])), (q0, .inl (G.2.2.2.1, 300, .inl (fun _ => 0))), (q1, .inl (G.2.2.1, 300, .inl (fun _ => 0))), (q2, .inl (G.2.2.1, 300, .inl (fun _ => 0)))] := hD
  exact W.vret S.1 S.2.1 hr (fun t ht hW => ⟨⟨(fun j => match j with | 0 => q0 | 1 => q1 | _ => q2), rfl, trivial, by rw [ht]; exact hP, hD⟩, hS.F ht⟩) hS.2.2 d_Av_init_31 hlk
