/-! the desk's constructor -/
theorem P_perm {D : va_G} {cl : List vw_C} {ws ws' : va_W} {H : Heap} (h : List.Perm ws ws') (hP : va_P D cl ws H) : va_P D cl ws' H := by
  intro k q hk
  have h1 : q ∈ ws := h.mem_iff.mpr (List.mem_of_getElem? hk)
  obtain ⟨i, hi⟩ := List.getElem?_of_mem h1
  exact hP i q hi
theorem D_pw {A : Nat → Prop} {ws : va_W} (h : va_D A ws) : ws.Pairwise (fun a b => a.1 ≠ b.1) := by
  rw [List.pairwise_iff_getElem]
  intro i j hi hj hij e
  have := h.1 i j _ _ (List.getElem?_eq_getElem hi) (List.getElem?_eq_getElem hj) e
  omega
theorem D_of {A : Nat → Prop} {ws : va_W} (h : ws.Pairwise (fun a b => a.1 ≠ b.1)) (hA : ∀ q ∈ ws, A q.1) : va_D A ws := by
  rw [List.pairwise_iff_getElem] at h
  refine ⟨fun i j p q hi hj e => ?_, fun k q hk => hA q (List.mem_of_getElem? hk)⟩
  obtain ⟨li, ei⟩ := List.getElem?_eq_some_iff.mp hi
  obtain ⟨lj, ej⟩ := List.getElem?_eq_some_iff.mp hj
  rcases Nat.lt_trichotomy i j with z | z | z
  · exact absurd (by rw [ei, ej]; exact e) (h i j li lj z)
  · exact z
  · exact absurd (by rw [ei, ej]; exact e.symm) (h j i lj li z)
theorem D_perm {A : Nat → Prop} {ws ws' : va_W} (h : List.Perm ws ws') (hD : va_D A ws) : va_D A ws' :=
  D_of ((h.pairwise_iff (fun {x y} z => Ne.symm z)).mp (D_pw hD)) (fun q hq => by
    obtain ⟨i, hi⟩ := List.getElem?_of_mem (h.mem_iff.mpr hq)
    exact hD.2 i q hi)
def tlE (e : va_E) (ad : Nat → Nat) (i : Nat) : va_W := (List.range i).map (fun t => (ad t, e))
theorem tl_succ {e : va_E} {ad : Nat → Nat} {i q : Nat} : tlE e ad i ++ [(q, e)] = tlE e (va_up ad i q) (i + 1) := by
  unfold tlE
  rw [List.range_succ, List.map_append]
  congr 1
  · refine List.map_congr_left (fun t ht => ?_)
    rw [show va_up ad i q t = ad t from if_neg (by have := List.mem_range.mp ht; omega)]
  · show [(q, e)] = [(va_up ad i q i, e)]
    rw [show va_up ad i q i = q from if_pos rfl]
theorem tl_last {e : va_E} {ad : Nat → Nat} {i : Nat} : (tlE e ad (i + 1))[i]? = some (ad i, e) := by
  unfold tlE
  rw [List.getElem?_map, List.getElem?_range (Nat.lt_succ_self i)]; rfl
def rfT (ad : Nat → Nat) (i : Nat) : Nat → Option Nat := fun j => if j < i then some (ad j) else none
theorem rfT_succ {ad : Nat → Nat} {i q : Nat} (hi : i < 2 ^ 31) : va_up (rfT ad i) (nI i).toNatClampNeg (some q) = rfT (va_up ad i q) (i + 1) := by
  rw [nI_clamp hi]
  funext j
  unfold rfT va_up
  by_cases z : j = i
  · rw [if_pos z, if_pos (by omega), if_pos z]
  · rw [if_neg z]
    by_cases y : j < i
    · show (if j < i then some (ad j) else none) = _
      rw [if_pos y, if_pos (by omega), if_neg z]
    · show (if j < i then some (ad j) else none) = _
      rw [if_neg y, if_neg (by omega)]
section IN2
variable {p : Program} {l : Launch} {e : Env} {R : Room} {s : State} {m : MethodId} {args : Array Value} {below : List Frame} {meth : Method} {c : Code} {H H0 : Heap} {locs : List Loc} {cells slots : Nat} {Q : State → Prop}
variable {G : UG} {A : Nat → Prop} {ws : va_W} {cc : ByteArray} {nL pc : Nat} {own : String} {ls : Array Slot} {rest st : List Value}
theorem i_newT (S : CallFix p m c cc nL s args tbl own) (hK : va_K G.1 clX (tysX G) s) (hP : va_P G.1 clX ws H) (hD : va_D A ws) (hS : va_S A H0 H locs) (hA : ∀ q, H0.size ≤ q → A q) (t0 : Nat) {cT : ClassId} {C : String} (htc : (tysX G)[t0]? = some (cT, .object C)) {index : Nat} (hcl : Cond.classLink own index C ∈ tbl) (hov : va_AO C s) {n : Int32} (N' : Nat) (hn : ¬ n < 0) (hN : n.toNatClampNeg = N') (hb : N' * 4 ≤ 536870912) (hcells : cells + 1 ≤ R.cells) (hslots : slots + N' ≤ R.slots) (hdg : decode cc pc = .ok (.anewarray index, 3))
    (kk : ∀ (q : Nat) (H1 : Heap), va_P G.1 clX (ws ++ [(q, .inl (cT, N', .inr (.inr (.inr (.inr (fun _ => none))))))]) H1 → va_D A (ws ++ [(q, .inl (cT, N', .inr (.inr (.inr (.inr (fun _ => none))))))]) → va_S A H0 H1 locs → W p l e R s m args below meth c H1 locs (cells + 1) (slots + N') Q (F0 m (pc + 3) ls (.ref q :: rest))) : W p l e R s m args below meth c H locs cells slots Q (F0 m pc ls (.int n :: rest)) := by
  refine va_newq S.1 S.2.1 S.2.2.2.1 (S.2.2.2.2 _ hcl) hov hK hP hD hS hA hn hN hb hcells hslots hdg (fun q cA H1 hK1 hP1 hD1 hS1 => ?_)
  obtain ⟨_, _, _, _, _, e1⟩ := (hK1.2 4 (cA, .object C) rfl).2
  obtain ⟨_, _, _, _, _, e2⟩ := (hK.2 t0 (cT, .object C) htc).2
  have e3 : cT = cA := Option.some.inj (Eq.trans (Eq.symm e2) e1)
  rw [← e3] at hP1 hD1
  exact kk q H1 hP1 hD1 hS1
theorem i_loop {σ : Type} (I : σ → Heap → List Loc → Array Slot → Nat → Nat → Prop) (μ : σ → Nat)
    (step : ∀ (x : σ) (H : Heap) (locs : List Loc) (ls : Array Slot) (cells slots : Nat), I x H locs ls cells slots → (∀ (x' : σ) (H' : Heap) (locs' : List Loc) (ls' : Array Slot) (cells' slots' : Nat), μ x' < μ x → I x' H' locs' ls' cells' slots' → W p l e R s m args below meth c H' locs' cells' slots' Q (F0 m pc ls' st)) → W p l e R s m args below meth c H locs cells slots Q (F0 m pc ls st))
    (x : σ) (hI : I x H locs ls cells slots) : W p l e R s m args below meth c H locs cells slots Q (F0 m pc ls st) := by
  have key : ∀ (n : Nat) (x : σ) (H : Heap) (locs : List Loc) (ls : Array Slot) (cells slots : Nat), μ x < n → I x H locs ls cells slots → W p l e R s m args below meth c H locs cells slots Q (F0 m pc ls st) := by
    intro n
    induction n with
    | zero => intro x H locs ls cells slots h; exact absurd h (Nat.not_lt_zero _)
    | succ n ih => intro x H locs ls cells slots h hI; exact step x H locs ls cells slots hI (fun x' H' locs' ls' cells' slots' h' hI' => ih x' H' locs' ls' cells' slots' (by omega) hI')
  exact key (μ x + 1) x H locs ls cells slots (Nat.lt_succ_self _) hI
end IN2
abbrev eT : va_E := .inr (1, [.int 0, .int 0, .int 0, .int 0, .int 0, .int 0])
abbrev eC : va_E := .inr (2, [.int 0, .int 0, .int 0])
def iN (U : State) : Prop := (va_Nw (.methodLinkNest "ClaimDesk" 15 y_Tr_init "ClaimDesk") U ∧ va_Nw (.methodLinkNest "ClaimDesk" 22 y_Cm_init "ClaimDesk") U ∧ va_Nw (.methodLinkNest "ClaimDesk" 25 y_Sp_init "ClaimDesk") U ∧ va_Nw (.methodLinkNest "ClaimDesk" 32 y_Av_init "ClaimDesk") U) ∧ va_AO "ClaimDesk$Transition" U ∧ va_AO "ClaimDesk$Claim" U
theorem iN.warm {s U : State} (hW : s.WarmedH U.vm) (h : iN s) : iN U := ⟨⟨va_Nw.warmM hW h.1.1, va_Nw.warmM hW h.1.2.1, va_Nw.warmM hW h.1.2.2.1, va_Nw.warmM hW h.1.2.2.2⟩, va_AO.moved hW.alike h.2.1, va_AO.moved hW.alike h.2.2⟩
theorem iN.calling {U : State} {g : JFrame} {mk : MethodId} {a : Array Value} (h : iN U) : iN (U.calling g mk a) := ⟨⟨va_Nw.same rfl rfl h.1.1, va_Nw.same rfl rfl h.1.2.1, va_Nw.same rfl rfl h.1.2.2.1, va_Nw.same rfl rfl h.1.2.2.2⟩, va_AO.moved (u := U) (Vm.Alike.refl U.vm) h.2.1, va_AO.moved (u := U) (Vm.Alike.refl U.vm) h.2.2⟩
