/-! the law: both worlds side by side -/
section OPS9
variable {X M X' M' : um_M} {n : Nat} {tr : Nat → Nat → Nat} {c : Nat} {cm : Nat → Nat → Int32} {v : Nat} {x : Int32} {nn : Nat → Nat} {k : Nat} {o : Option Bq}
theorem o_avoids (h : Rl X M n tr c cm v x nn k o) (hX : fAv X X') (hM : fMA M M') : Rel X' M' := by
  have x0 : X' 0 = X 0 := hX 0 (by omega)
  have x3 : X' 3 = X 3 := hX 3 (by omega)
  have x4 : X' 4 = X 4 := hX 4 (by omega)
  have x5 : X' 5 = X 5 := hX 5 (by omega)
  have x6 : X' 6 = X 6 := hX 6 (by omega)
  have x7 : X' 7 = X 7 := hX 7 (by omega)
  have x8 : X' 8 = X 8 := hX 8 (by omega)
  have x9 : X' 9 = X 9 := hX 9 (by omega)
  have x10 : X' 10 = X 10 := hX 10 (by omega)
  have x11 : X' 11 = X 11 := hX 11 (by omega)
  have x12 : X' 12 = X 12 := hX 12 (by omega)
  have m0 : M' 0 = M 0 := hM 0 (by omega)
  have m1 : M' 1 = M 1 := hM 1 (by omega)
  have m2 : M' 2 = M 2 := hM 2 (by omega)
  have m3 : M' 3 = M 3 := hM 3 (by omega)
  have m4 : M' 4 = M 4 := hM 4 (by omega)
  have m5 : M' 5 = M 5 := hM 5 (by omega)
  have m6 : M' 6 = M 6 := hM 6 (by omega)
  have m7 : M' 7 = M 7 := hM 7 (by omega)
  have m8 : M' 8 = M 8 := hM 8 (by omega)
  have m9 : M' 9 = M 9 := hM 9 (by omega)
  have m10 : M' 10 = M 10 := hM 10 (by omega)
  have m11 : M' 11 = M 11 := hM 11 (by omega)
  obtain ⟨⟨h1, h2, h3⟩, ⟨h4, h5, h6⟩, ⟨h7, h8, h9⟩, ⟨h10, h11, h12, h13⟩, ⟨h14, h15, h16⟩, h17⟩ := id h
  refine ⟨n, tr, c, cm, v, x, nn, k, o, ⟨by rw [x0]; exact h1, RXt_c h2 (fun t ht => hX (17 + t) (by omega)), ?_⟩, ⟨by rw [x0]; exact h4, ?_, fun i hi j hj => by rw [hX (41 + i) (by omega)]; exact h6 i hi j hj⟩, ⟨h7, by rw [x0]; exact h8, by rw [m0]; exact h9⟩, ⟨h10, by rw [x0]; exact h11, by rw [m0]; exact h12, by rw [x0, m0]; exact h13⟩, ⟨by rw [x12]; exact h14, h15, by rw [m0]; exact h16⟩, ?_⟩
  · unfold RMt; rw [m0, m1, m2, m3, m4]; exact h3
  · unfold RMc; rw [m0, m5, m6, m7]; exact h5
  · cases o with
    | none => exact ⟨by rw [x3]; exact h17.1, by rw [m0]; exact h17.2⟩
    | some q =>
      obtain ⟨a1, a2, a3, a4, a5, a6, a7⟩ := h17
      refine ⟨by rw [m0]; exact a1, a2, a3, ?_, by rw [x12]; exact a5, ?_, ?_⟩
      · unfold RXs; rw [x3, x4, x5, x6, x7]; exact a4
      · unfold RXp; rw [x8, x9, x10, x11]; exact a6
      · unfold RMq; rw [m0, m8, m9, m10, m11]; exact a7
theorem R_zero : Rel (fun _ _ => 0) (fun _ _ => 0) :=
  ⟨0, fun _ _ => 0, 0, fun _ _ => 0, 0, nI 0, fun _ => 0, 0, none, ⟨nI_0.symm, ⟨Nat.zero_le _, fun t ht => absurd ht (Nat.not_lt_zero _)⟩, ⟨nI_0.symm, Nat.zero_le _, fun t ht => absurd ht (Nat.not_lt_zero _)⟩⟩, ⟨nI_0.symm, ⟨nI_0.symm, Nat.zero_le _, fun t ht => absurd ht (Nat.not_lt_zero _)⟩, fun j hj => absurd hj (Nat.not_lt_zero _)⟩, ⟨by decide, nI_0.symm, nI_0.symm⟩, ⟨(S_first (v := 0) (by decide)).2, nI_0.symm, (by decide : s_Mo_first (nI 0) = 0).symm.trans (S_first (v := 0) (by decide)).1, rfl⟩, ⟨fun j _ => ⟨nI_0.symm, Nat.zero_le _⟩, Nat.zero_le _, nI_0.symm⟩, rfl, rfl⟩
theorem q0_ex : ∃ q0 : Bq, ∀ q, o = some q → q0 = q := by
  cases o with
  | none => exact ⟨(0, fun _ => 0, fun _ => 0, fun _ => 0, fun _ => 0), fun q h => by cases h⟩
  | some q => exact ⟨q, fun q2 h => Option.some.inj h⟩
theorem av_X (h : Rl X M n tr c cm v x nn k o) {q0 : Bq} (hq0 : ∀ q, o = some q → q0 = q) : 0 < ks o → q0.1 = ks o ∧ RXs X q0 ∧ RXp X n tr q0 (q0.1 * 24) := by
  intro hk
  cases o with
  | none => exact absurd hk (Nat.lt_irrefl _)
  | some q =>
    rw [hq0 q rfl]
    obtain ⟨a1, a2, a3, a4, a5, a6, a7⟩ := h.2.2.2.2.2
    exact ⟨rfl, a4, a6⟩
theorem av_M (h : Rl X M n tr c cm v x nn k o) {q0 : Bq} (hq0 : ∀ q, o = some q → q0 = q) : ¬ M 0 18 = 0 → RMq M q0 ∧ bwf n q0 ∧ okq n tr q0 := by
  intro hk
  cases o with
  | none => exact absurd h.2.2.2.2.2.2 hk
  | some q =>
    rw [hq0 q rfl]
    obtain ⟨a1, a2, a3, a4, a5, a6, a7⟩ := h.2.2.2.2.2
    exact ⟨a7, R_bwf h a3, okq_of a6 h.1.2.1.1⟩
theorem wy_X (h : Rl X M n tr c cm v x nn k o) {q0 : Bq} (hq0 : ∀ q, o = some q → q0 = q) : (∀ s, s < ks o → X 7 s = nI (q0.2.2.2.2 s) ∧ q0.2.2.2.2 s < 1000) ∧ ∀ s, s < ks o → ∀ j, j < q0.2.2.2.2 s → itr q0.2.2.1 j s < 300 ∧ X 5 (itr q0.2.2.1 j s) = nI (q0.2.2.1 (itr q0.2.2.1 j s)) := by
  cases o with
  | none => exact ⟨fun s hs => absurd hs (Nat.not_lt_zero _), fun s hs => absurd hs (Nat.not_lt_zero _)⟩
  | some q =>
    rw [hq0 q rfl]
    obtain ⟨a1, a2, a3, a4, a5, a6, a7⟩ := h.2.2.2.2.2
    have hw := R_bwf h a3
    have h3 := hw.2.1
    refine ⟨fun s hs => ⟨(a4.2.1 s hs).2, ?_⟩, fun s hs j hj => ?_⟩
    · have := far_le hw s hs
      have hs : s < q.1 := hs
      omega
    · obtain ⟨w1, w2, w3⟩ := way_in hw hs j hj
      exact ⟨by omega, (a4.2.2 _ w1 w2).1⟩
theorem wy_M (h : Rl X M n tr c cm v x nn k o) {q0 : Bq} (hq0 : ∀ q, o = some q → q0 = q) : (¬ M 0 18 = 0 → ∀ s, s < k → M 11 s = nI (q0.2.2.2.2 s) ∧ q0.2.2.2.2 s < 1000) ∧ (¬ M 0 18 = 0 → ∀ s, s < k → ∀ j, j < q0.2.2.2.2 s → itr q0.2.2.1 j s < 300 ∧ M 9 (itr q0.2.2.1 j s) = nI (q0.2.2.1 (itr q0.2.2.1 j s)) ∧ M 11 (itr q0.2.2.1 j s) = nI (q0.2.2.2.2 s - j)) := by
  cases o with
  | none => exact ⟨fun z => absurd h.2.2.2.2.2.2 z, fun z => absurd h.2.2.2.2.2.2 z⟩
  | some q =>
    rw [hq0 q rfl]
    obtain ⟨a1, a2, a3, a4, a5, a6, a7⟩ := h.2.2.2.2.2
    have hw := R_bwf h a3
    have h3 := hw.2.1
    rw [a2]
    refine ⟨fun _ s hs => ⟨(a7.2.1 s hs).2, ?_⟩, fun _ s hs j hj => ?_⟩
    · have := far_le hw s hs
      omega
    · obtain ⟨w1, w2, w3⟩ := way_in hw hs j hj
      exact ⟨by omega, (a7.2.2 _ w1 w2).1, by rw [(a7.2.1 _ w2).2, w3]⟩
theorem ct_ex (a0 : Int32) : ∃ t : Nat, ∀ j, j < 24 → a0 - 10 = nI j → t = j := ⟨(a0 - 10).toNatClampNeg, fun j hj e => by rw [e]; exact nI_clamp (by omega)⟩
end OPS9
theorem l_15 (y : Int32) : ∃ t, t < 16 ∧ y &&& 15 = nI t := by
  refine ⟨y.toBitVec.toNat % 16, Nat.mod_lt _ (by decide), ?_⟩
  apply Int32.toBitVec_inj.mp
  apply BitVec.eq_of_toNat_eq
  rw [Int32.toBitVec_and, BitVec.toNat_and]
  show y.toBitVec.toNat &&& 15 = (BitVec.ofNat 32 (y.toBitVec.toNat % 16)).toNat
  rw [BitVec.toNat_ofNat, Nat.mod_eq_of_lt (a := y.toBitVec.toNat % 16) (by have := Nat.mod_lt y.toBitVec.toNat (show 0 < 16 by decide); omega)]
  exact Nat.and_two_pow_sub_one_eq_mod (y.toBitVec.toNat) 4
theorem l_le {i L : Nat} (hi : i ≤ 3072) (hL : L ≤ 3072) (h : ¬ nI L - 6 < nI i) : i + 6 ≤ L := by
  have h3 : (nI L - 6).toInt = (L : Int) - 6 := pk_sub_toInt (b := 6) (by omega) (by decide)
  rw [Int32.lt_iff_toInt_lt, h3, nI_toInt (by omega)] at h
  omega
/-- both worlds -/
def lP (G : UG) (am : Nat → Nat) (s : State) (X M : um_M) (H : Heap) (locs : List Loc) : Prop :=
  uH G.1 clX (tysX G) 47 G.2.1 (shX G) (fun q => s.heap.size ≤ q) s s.heap X H locs ∧ uH G.1 clX (tysX G) 13 am (shM (G.1, am, G.2.2)) (fun q => s.heap.size ≤ q) s s.heap M H locs ∧ ∀ i j, i < 47 → j < 13 → G.2.1 i ≠ am j
section LAW
variable {p : Program} {l : Launch} {e : Env} {R : Room} {s : State} {m : MethodId} {args : Array Value} {below : List Frame} {meth : Method} {c : Code} {H : Heap} {locs : List Loc} {cells slots : Nat} {Q : State → Prop}
variable {G : UG} {am : Nat → Nat} {X M : um_M} {cc : ByteArray} {pc : Nat} {ls : Array Slot} {rest st0 : List Value} {a : Array Value}
theorem l_callX {post : Int32 → um_M → Prop} (hw : lP G am s X M H locs) (hr : va_Run p l e R s m args below meth c H locs cells slots 0 0 (F0 m pc ls st0) rest (va_Qi post (uE G.1 clX 47 G.2.1 (shX G)) (uA 47 G.2.1) a) (uA 47 G.2.1))
    (kk : ∀ (r : Int32) (X' : um_M) (H1 : Heap) (locs1 : List Loc), post r X' → lP G am s X' M H1 locs1 → W p l e R s m args below meth c H1 locs1 cells slots Q (F0 m (pc + 3) ls (.int r :: rest))) : W p l e R s m args below meth c H locs cells slots Q (F0 m pc ls st0) :=
  va_calli hr hw.1.2.2.2 (fun q _ h => by obtain ⟨k, hk, rfl⟩ := h; exact hw.1.2.1.2 k hk) (fun q h => by obtain ⟨k, hk, rfl⟩ := h; exact hw.1.2.1.2 k hk) (fun r u t H1 locs1 ht _ hp hE _ hk hS => kk r u H1 locs1 hp ⟨u_back hw.1 ht hE hS, ⟨hw.2.1.1, hw.2.1.2.1, hw.2.1.2.2.1.kept (fun k q h => hk q.1 (hw.2.1.2.2.1 k q h).lt (fun z => by
    obtain ⟨i, hi, e⟩ := z
    obtain ⟨h1, rfl⟩ := uw_of h
    exact hw.2.2 i k hi h1 e.symm)), hS⟩, hw.2.2⟩)
theorem l_callM {post : Int32 → um_M → Prop} (hw : lP G am s X M H locs) (hr : va_Run p l e R s m args below meth c H locs cells slots 0 0 (F0 m pc ls st0) rest (va_Qi post (uE G.1 clX 13 am (shM (G.1, am, G.2.2))) (uA 13 am) a) (uA 13 am))
    (kk : ∀ (r : Int32) (M' : um_M) (H1 : Heap) (locs1 : List Loc), post r M' → lP G am s X M' H1 locs1 → W p l e R s m args below meth c H1 locs1 cells slots Q (F0 m (pc + 3) ls (.int r :: rest))) : W p l e R s m args below meth c H locs cells slots Q (F0 m pc ls st0) :=
  va_calli hr hw.2.1.2.2.2 (fun q _ h => by obtain ⟨k, hk, rfl⟩ := h; exact hw.2.1.2.1.2 k hk) (fun q h => by obtain ⟨k, hk, rfl⟩ := h; exact hw.2.1.2.1.2 k hk) (fun r u t H1 locs1 ht _ hp hE _ hk hS => kk r u H1 locs1 hp ⟨⟨hw.1.1, hw.1.2.1, hw.1.2.2.1.kept (fun k q h => hk q.1 (hw.1.2.2.1 k q h).lt (fun z => by
    obtain ⟨i, hi, e⟩ := z
    obtain ⟨h1, rfl⟩ := uw_of h
    exact hw.2.2 k i h1 hi e)), hS⟩, u_back hw.2.1 ht hE hS, hw.2.2⟩)
variable {b L i : Nat} {xs : Nat → Int32} {lv : List (Nat × Value)}
/-- one int of the script -/
theorem l_rd (hx : p.tables.exec = Jvm.exec) (hb : c.code = cc) (hX : va_X b L xs s s.heap) (hbl : b < s.heap.size) (hw : lP G am s X M H locs) (hl : lv_has ls 4 lv) (h3 : lv[0]? = some (3, .int (nI i))) (h0 : lv[3]? = some (0, .ref b)) (hL : L ≤ 3072) {j : Nat} (hj : i + j < L) {z : Int} {v : Int32} (hv : v = nI j) (hz : Int32.ofInt z = v)
    (d0 : decode cc pc = .ok (.aload_n 0, 1)) (d1 : decode cc (pc + 1) = .ok (.iload_n 3, 1)) (d2 : decode cc (pc + 1 + 1) = .ok (.iconst z, 1)) (d3 : decode cc (pc + 1 + 1 + 1) = .ok (.iadd, 1)) (d4 : decode cc (pc + 1 + 1 + 1 + 1) = .ok (.iaload, 1))
    (kk : W p l e R s m args below meth c H locs cells slots Q (F0 m (pc + 1 + 1 + 1 + 1 + 1) ls (.int (xs (i + j)) :: rest))) : W p l e R s m args below meth c H locs cells slots Q (F0 m pc ls rest) := by
  refine lv_aload_n hx hb d0 rfl (lv_at hl 3 h0) ?_
  refine lv_iload_n hx hb d1 rfl (lv_at hl 0 h3) ?_
  refine lv_iconst (v := v) hx hb d2 hz ?_
  refine lv_iadd hx hb d3 ?_
  refine u_top (y := nI (i + j)) (by rw [hv]; exact nI_add i j) ?_
  refine va_sld hx hb hX hbl (A := fun q => s.heap.size ≤ q) (Nat.not_le.mpr hbl) hw.1.2.2.2 (vp_in_nI hj (by omega)) d4 ?_
  rw [nI_clamp (by omega)]
  exact kk
/-- x != 0 -/
theorem l_nz (hx : p.tables.exec = Jvm.exec) (hb : c.code = cc) {x : Int32} (d0 : decode cc pc = .ok (.ifCond .eq 7, 3)) (d1 : decode cc (pc + 3) = .ok (.iconst 1, 1)) (d2 : decode cc (pc + 3 + 1) = .ok (.goto 4, 3)) (d3 : decode cc (pc + 7) = .ok (.iconst 0, 1))
    (kk : W p l e R s m args below meth c H locs cells slots Q (F0 m (pc + 8) ls (.int (if x = 0 then 0 else 1) :: rest))) : W p l e R s m args below meth c H locs cells slots Q (F0 m pc ls (.int x :: rest)) := by
  refine lv_if_eq (tgt := pc + 7) hx hb d0 (by omega) (fun z => ?_) (fun z => ?_)
  · refine lv_iconst (v := 0) hx hb d3 (by decide) ?_
    rw [if_pos z] at kk
    exact kk
  · refine lv_iconst (v := 1) hx hb d1 (by decide) ?_
    refine lv_goto (tgt := pc + 8) hx hb d2 (by omega) ?_
    rw [if_neg z] at kk
    exact kk
end LAW
