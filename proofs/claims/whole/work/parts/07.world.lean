/-! a world of N numbered cells: cell k lies at ad k and is sh k (mem k); one memory of ints under it -/
abbrev um_M : Type := Nat → Nat → Int32
abbrev um_Sh : Type := Nat → (Nat → Int32) → va_E
def um_set (mem : um_M) (k j : Nat) (v : Int32) : um_M := va_up mem k (upd (mem k) j v)
theorem um_ap {mem : um_M} {k j : Nat} {v : Int32} (k' j' : Nat) : um_set mem k j v k' j' = if k' = k ∧ j' = j then v else mem k' j' := by
  unfold um_set va_up upd
  by_cases h : k' = k
  · subst h
    by_cases h2 : j' = j <;> simp [h2]
  · simp [h]
theorem um_self {mem : um_M} {k j : Nat} {v : Int32} : um_set mem k j v k j = v := by simp [um_ap]
theorem um_k {mem : um_M} {k j : Nat} {v : Int32} {k' : Nat} (h : k' ≠ k) : um_set mem k j v k' = mem k' := by
  funext j'; simp [um_ap, h]
theorem um_j {mem : um_M} {k j : Nat} {v : Int32} {j' : Nat} (h : j' ≠ j) : um_set mem k j v k j' = mem k j' := by
  simp [um_ap, h]
def uw (N : Nat) (ad : Nat → Nat) (sh : um_Sh) (mem : um_M) : va_W := (List.range N).map (fun k => (ad k, sh k (mem k)))
def uA (N : Nat) (ad : Nat → Nat) : Nat → Prop := fun q => ∃ k, k < N ∧ q = ad k
def uI (N : Nat) (ad : Nat → Nat) : Prop := ∀ i j, i < N → j < N → ad i = ad j → i = j
theorem uw_len {N : Nat} {ad : Nat → Nat} {sh : um_Sh} {mem : um_M} : (uw N ad sh mem).length = N := by simp [uw]
theorem uw_get {N : Nat} {ad : Nat → Nat} {sh : um_Sh} {mem : um_M} {k : Nat} (h : k < N) : (uw N ad sh mem)[k]? = some (ad k, sh k (mem k)) := by
  unfold uw; rw [List.getElem?_map, List.getElem?_range h]; rfl
theorem uw_of {N : Nat} {ad : Nat → Nat} {sh : um_Sh} {mem : um_M} {k : Nat} {q : Nat × va_E} (h : (uw N ad sh mem)[k]? = some q) : k < N ∧ q = (ad k, sh k (mem k)) := by
  have hk : k < N := by
    have h1 := (List.getElem?_eq_some_iff.mp h).1
    rwa [uw_len] at h1
  rw [uw_get hk] at h
  exact ⟨hk, (Option.some.inj h).symm⟩
theorem uw_set {N : Nat} {ad : Nat → Nat} {sh : um_Sh} {mem : um_M} {k : Nat} {g : Nat → Int32} (h : k < N) : (uw N ad sh mem).set k (ad k, sh k g) = uw N ad sh (va_up mem k g) := by
  apply List.ext_getElem?
  intro j
  by_cases hj : j < N
  · rw [uw_get hj]
    by_cases hjk : j = k
    · subst hjk
      rw [List.getElem?_set_self (by rw [uw_len]; exact h)]
      simp [va_up]
    · rw [List.getElem?_set_ne (Ne.symm hjk), uw_get hj]
      simp [va_up, hjk]
  · rw [List.getElem?_eq_none (by rw [List.length_set, uw_len]; omega), List.getElem?_eq_none (by rw [uw_len]; omega)]
theorem uw_D {N : Nat} {ad : Nat → Nat} {sh : um_Sh} {mem : um_M} {A : Nat → Prop} (h : uI N ad) (hA : ∀ k, k < N → A (ad k)) : va_D A (uw N ad sh mem) := by
  refine ⟨fun i j x y hi hj hxy => ?_, fun k q hk => ?_⟩
  · obtain ⟨h1, rfl⟩ := uw_of hi
    obtain ⟨h2, rfl⟩ := uw_of hj
    exact h i j h1 h2 hxy
  · obtain ⟨h1, rfl⟩ := uw_of hk
    exact hA k h1
/-- the links of nest mates, which are no good words: carried beside the world -/
def uNl : List (String × Nat × MethodName × String) := [("ClaimDesk$Transition", 9, y_Ds_isBelow, "ClaimDesk"), ("ClaimDesk$Claim", 9, y_Ds_isBelow, "ClaimDesk"), ("ClaimDesk$Space", 43, y_Ds_isBelow, "ClaimDesk")]
def uN (U : State) : Prop := ∀ q ∈ uNl, va_Nw (.methodLinkNest q.1 q.2.1 q.2.2.1 q.2.2.2) U
theorem uN.warm {s U : State} (hW : s.WarmedH U.vm) (h : uN s) : uN U := fun q hq => va_Nw.warmM hW (h q hq)
theorem uN.same {s U : State} (hv : s.vm = U.vm) (h : uN s) : uN U := fun q hq => va_Nw.same rfl hv (h q hq)
theorem uN_Tr {s : State} (h : uN s) : va_Nw (.methodLinkNest "ClaimDesk$Transition" 9 y_Ds_isBelow "ClaimDesk") s := h ("ClaimDesk$Transition", 9, y_Ds_isBelow, "ClaimDesk") (List.mem_of_getElem? (i := 0) rfl)
theorem uN_Cm {s : State} (h : uN s) : va_Nw (.methodLinkNest "ClaimDesk$Claim" 9 y_Ds_isBelow "ClaimDesk") s := h ("ClaimDesk$Claim", 9, y_Ds_isBelow, "ClaimDesk") (List.mem_of_getElem? (i := 1) rfl)
theorem uN_Sp {s : State} (h : uN s) : va_Nw (.methodLinkNest "ClaimDesk$Space" 43 y_Ds_isBelow "ClaimDesk") s := h ("ClaimDesk$Space", 43, y_Ds_isBelow, "ClaimDesk") (List.mem_of_getElem? (i := 2) rfl)
/-- the world in a walk: tables, places apart, the cells, what has changed since the start -/
def uH (D : va_G) (cl : List vw_C) (tys : List (ClassId × FieldType)) (N : Nat) (ad : Nat → Nat) (sh : um_Sh) (A : Nat → Prop) (s : State) (H0 : Heap) (mem : um_M) (H : Heap) (locs : List Loc) : Prop :=
  (va_K D cl tys s ∧ uN s) ∧ (uI N ad ∧ ∀ k, k < N → A (ad k)) ∧ va_P D cl (uw N ad sh mem) H ∧ va_S A H0 H locs
/-- a contract's start, its end -/
def uB (D : va_G) (cl : List vw_C) (tys : List (ClassId × FieldType)) (N : Nat) (ad : Nat → Nat) (sh : um_Sh) (mem : um_M) : State → Prop := fun U => (va_K D cl tys U ∧ uN U) ∧ uI N ad ∧ va_P D cl (uw N ad sh mem) U.heap
def uE (D : va_G) (cl : List vw_C) (N : Nat) (ad : Nat → Nat) (sh : um_Sh) : um_M → State → Prop := fun mem t => va_P D cl (uw N ad sh mem) t.heap
theorem uB_blind {D : va_G} {cl : List vw_C} {tys : List (ClassId × FieldType)} {N : Nat} {ad : Nat → Nat} {sh : um_Sh} {mem : um_M} {av : List Value} : FrameBlind (va_Pc av (uB D cl tys N ad sh mem)) := by
  intro a U g mk q
  obtain ⟨q0, ⟨qK, qN⟩, q1, qP⟩ := q
  exact ⟨q0, ⟨va_K.moved (u := U) (U := U.calling g mk a) (Vm.Alike.refl U.vm) qK, uN.same rfl qN⟩, q1, qP⟩
theorem uT_blind {av : List Value} : FrameBlind (va_Pc av uN) := by
  intro a U g mk q
  exact ⟨q.1, uN.same rfl q.2⟩
theorem uH_start {D : va_G} {cl : List vw_C} {tys : List (ClassId × FieldType)} {N : Nat} {ad : Nat → Nat} {sh : um_Sh} {mem : um_M} {s : State} (h : uB D cl tys N ad sh mem s) : uH D cl tys N ad sh (uA N ad) s s.heap mem s.heap [] :=
  ⟨h.1, ⟨h.2.1, fun k hk => ⟨k, hk, rfl⟩⟩, h.2.2, va_S.rf⟩
theorem u_start {l : Launch} {y : MethodName} {bytes : ByteArray} {maxL : Nat} {ret : Option FieldType} {rm : Room} {Bst : State → Prop} {Qc : Array Value → State → Outcome → State → Prop} {mc ms : Nat} {free : Addr → Prop} (av : List Value) (hy : plainName y.cls = true) (hlen : (lg_sl av).length ≤ maxL)
    (body : ∀ (p : Program) (e : Env) (s : State) (m : MethodId) (below : List Frame) (meth : Method) (c : Code) (ls : Array Slot), CallFix p m c bytes maxL s av.toArray tbl y.cls → meth.sig.returnType = ret → meth.locks = false → (y.name = "<init>" → meth.name = "<init>") → lv_has ls maxL (lv_args 0 av) → Bst s → W p l e rm s m av.toArray below meth c s.heap [] 0 0 (MQ below Qc av.toArray s mc ms free) (F0 m 0 ls [])) : Met l y (Cond.code y bytes maxL ret :: tbl) rm (va_Pc av Bst) Qc mc ms free := by
  refine Met.ofW (cc := bytes) (maxL := maxL) (ret := ret) hy rfl ?_
  intro p e s m args below meth c s₁ B hml hv
  obtain ⟨rfl, hB⟩ := hv
  rw [lg_entry_eq]
  exact body p e s m below meth c _ ⟨B.exec, B.bytes, hml, findClass_of_methodNamed B.named, fun w h => atoms_spec (ws := Cond.code y bytes maxL ret :: tbl) B.pre w (List.mem_cons_of_mem _ h)⟩ B.returns B.notSynchronized (fun h => by rw [(name_of_methodNamed B.named B.method).1]; exact h) (lv_entry av hlen) hB
section UR
variable {p : Program} {l : Launch} {e : Env} {R : Room} {s : State} {m : MethodId} {args : Array Value} {below : List Frame} {meth : Method} {c : Code} {H H0 : Heap} {locs : List Loc} {cells slots : Nat} {Q : State → Prop}
variable {D : va_G} {cl : List vw_C} {tys : List (ClassId × FieldType)} {N : Nat} {ad : Nat → Nat} {sh : um_Sh} {A : Nat → Prop} {mem : um_M}
variable {cc : ByteArray} {nL pc : Nat} {Ts : List Cond} {own : String} {ls : Array Slot} {rest : List Value}
theorem u_get (S : CallFix p m c cc nL s args Ts own) (hw : uH D cl tys N ad sh A s H0 mem H locs) (k : Nat) (hk : k < N) {ci : Nat} {fs : List Value} (he : sh k (mem k) = .inr (ci, fs)) {C : String} {T : u_T} {n : Nat} (hc : cl[ci]? = some (C, T, n)) (hin : ∀ w ∈ u_ws C T n, w ∈ Ts) (j : Nat) (hj : j < n) {index : Nat} (hlink : Cond.fieldLink own index (T j).1 (T j).2.1 (T j).2.2.1 ∈ Ts) {v : Value} (hv : fs[j]? = some v) (hdg : decode cc pc = .ok (.getfield index, 3))
    (kk : W p l e R s m args below meth c H locs cells slots Q (F0 m (pc + 3) ls (v :: rest))) : W p l e R s m args below meth c H locs cells slots Q (F0 m pc ls (.ref (ad k) :: rest)) :=
  va_get S.1 S.2.1 S.2.2.2.2 hin S.2.2.2.1 hw.1.1 hw.2.2.1 k (by rw [uw_get hk, he]) hc j hj (S.2.2.2.2 _ hlink) (fun _ h => h) hv hdg kk
theorem u_put (S : CallFix p m c cc nL s args Ts own) (hw : uH D cl tys N ad sh A s H0 mem H locs) (k : Nat) (hk : k < N) {ci : Nat} {fs : List Value} (he : sh k (mem k) = .inr (ci, fs)) {C : String} {T : u_T} {n : Nat} (hc : cl[ci]? = some (C, T, n)) (hin : ∀ w ∈ u_ws C T n, w ∈ Ts) (ty0 : Nat → FieldType) (hty : ∀ k, k < n → parseFieldDescriptor (T k).2.2.1 = some (ty0 k)) (hnm : ∀ a, a < n → ∀ b, b < n → a ≠ b → (T a).2.1 ≠ (T b).2.1) (j : Nat) (hj : j < n) {index : Nat} (hlink : Cond.fieldLink own index (T j).1 (T j).2.1 (T j).2.2.1 ∈ Ts) (hfin : (T j).2.2.2 = false) {v : Int32} {ty : FieldType} (hi : ty0 j = ty) (hnr : narrow ty (.int v) = .int v) (hft : fits ty (.int v) = true) (hl : j < fs.length) (he' : sh k (upd (mem k) j v) = .inr (ci, fs.set j (.int v))) (hdg : decode cc pc = .ok (.putfield index, 3))
    (kk : ∀ (H1 : Heap) (locs1 : List Loc), uH D cl tys N ad sh A s H0 (um_set mem k j v) H1 locs1 → W p l e R s m args below meth c H1 locs1 cells slots Q (F0 m (pc + 3) ls rest)) : W p l e R s m args below meth c H locs cells slots Q (F0 m pc ls (.int v :: .ref (ad k) :: rest)) := by
  have hd : parseFieldDescriptor (T j).2.2.1 = some ty := by rw [hty j hj, hi]
  refine va_put (ty := ty) S.1 S.2.1 S.2.2.2.2 hin ty0 hty hnm S.2.2.2.1 hw.1.1 hw.2.2.1 (uw_D hw.2.1.1 hw.2.1.2) hw.2.2.2 k (by rw [uw_get hk, he]) hc j hj (S.2.2.2.2 _ hlink) (fun _ h => h) hfin hd hnr hft hl hdg (fun H1 locs1 hP _ hS => kk H1 locs1 ⟨hw.1, hw.2.1, ?_, hS⟩)
  rw [← he', uw_set hk] at hP
  exact hP
theorem u_iald (S : CallFix p m c cc nL s args Ts own) (hw : uH D cl tys N ad sh A s H0 mem H locs) (k t0 : Nat) (hk : k < N) {cA : ClassId} {n : Nat} (he : sh k (mem k) = .inl (cA, n, .inl (mem k))) (ht : tys[t0]? = some (cA, .int)) {i : Int32} (hin : vp_in i n) (hdg : decode cc pc = .ok (.iaload, 1))
    (kk : W p l e R s m args below meth c H locs cells slots Q (F0 m (pc + 1) ls (.int (mem k i.toNatClampNeg) :: rest))) : W p l e R s m args below meth c H locs cells slots Q (F0 m pc ls (.int i :: .ref (ad k) :: rest)) :=
  va_iald S.1 S.2.1 hw.1.1 hw.2.2.1 k t0 (by rw [uw_get hk, he]) ht hin hdg kk
theorem u_zald (S : CallFix p m c cc nL s args Ts own) (hw : uH D cl tys N ad sh A s H0 mem H locs) (k t0 : Nat) (hk : k < N) {cA : ClassId} {n : Nat} (he : sh k (mem k) = .inl (cA, n, .inl (mem k))) (ht : tys[t0]? = some (cA, .boolean)) {i : Int32} (hin : vp_in i n) (hdg : decode cc pc = .ok (.baload, 1))
    (kk : W p l e R s m args below meth c H locs cells slots Q (F0 m (pc + 1) ls (.int (mem k i.toNatClampNeg) :: rest))) : W p l e R s m args below meth c H locs cells slots Q (F0 m pc ls (.int i :: .ref (ad k) :: rest)) :=
  va_zald S.1 S.2.1 hw.1.1 hw.2.2.1 k t0 (by rw [uw_get hk, he]) ht hin hdg kk
theorem u_aald (S : CallFix p m c cc nL s args Ts own) (hw : uH D cl tys N ad sh A s H0 mem H locs) (k t0 : Nat) (hk : k < N) {cA : ClassId} {C : String} {n : Nat} {f : Nat → Option Nat} (he : sh k (mem k) = .inl (cA, n, .inr (.inr (.inr (.inr f))))) (ht : tys[t0]? = some (cA, .object C)) {i : Int32} (hin : vp_in i n) {v : Value} (hv : va_rf (f i.toNatClampNeg) = v) (hdg : decode cc pc = .ok (.aaload, 1))
    (kk : W p l e R s m args below meth c H locs cells slots Q (F0 m (pc + 1) ls (v :: rest))) : W p l e R s m args below meth c H locs cells slots Q (F0 m pc ls (.int i :: .ref (ad k) :: rest)) :=
  va_aldq S.1 S.2.1 hw.1.1 hw.2.2.1 k t0 (by rw [uw_get hk, he]) ht hin hdg (by rw [hv]; exact kk)
theorem u_iast (S : CallFix p m c cc nL s args Ts own) (hw : uH D cl tys N ad sh A s H0 mem H locs) (k t0 : Nat) (hk : k < N) {cA : ClassId} {n : Nat} (he : ∀ g : Nat → Int32, sh k g = .inl (cA, n, .inl g)) (ht : tys[t0]? = some (cA, .int)) {i x : Int32} (hin : vp_in i n) (hdg : decode cc pc = .ok (.iastore, 1))
    (kk : ∀ (H1 : Heap) (locs1 : List Loc), uH D cl tys N ad sh A s H0 (um_set mem k i.toNatClampNeg x) H1 locs1 → W p l e R s m args below meth c H1 locs1 cells slots Q (F0 m (pc + 1) ls rest)) : W p l e R s m args below meth c H locs cells slots Q (F0 m pc ls (.int x :: .int i :: .ref (ad k) :: rest)) := by
  refine va_iast S.1 S.2.1 hw.1.1 hw.2.2.1 (uw_D hw.2.1.1 hw.2.1.2) hw.2.2.2 k t0 (by rw [uw_get hk, he]) ht hin hdg (fun H1 locs1 hP _ hS => kk H1 locs1 ⟨hw.1, hw.2.1, ?_, hS⟩)
  rw [← he, uw_set hk] at hP
  exact hP
theorem u_zast (S : CallFix p m c cc nL s args Ts own) (hw : uH D cl tys N ad sh A s H0 mem H locs) (k t0 : Nat) (hk : k < N) {cA : ClassId} {n : Nat} (he : ∀ g : Nat → Int32, sh k g = .inl (cA, n, .inl g)) (ht : tys[t0]? = some (cA, .boolean)) {i x : Int32} (hx : vp_nar .boolean x = x) (hin : vp_in i n) (hdg : decode cc pc = .ok (.bastore, 1))
    (kk : ∀ (H1 : Heap) (locs1 : List Loc), uH D cl tys N ad sh A s H0 (um_set mem k i.toNatClampNeg x) H1 locs1 → W p l e R s m args below meth c H1 locs1 cells slots Q (F0 m (pc + 1) ls rest)) : W p l e R s m args below meth c H locs cells slots Q (F0 m pc ls (.int x :: .int i :: .ref (ad k) :: rest)) := by
  refine va_zast S.1 S.2.1 hw.1.1 hw.2.2.1 (uw_D hw.2.1.1 hw.2.1.2) hw.2.2.2 k t0 (by rw [uw_get hk, he]) ht hin hdg (fun H1 locs1 hP _ hS => kk H1 locs1 ⟨hw.1, hw.2.1, ?_, hS⟩)
  rw [hx, ← he, uw_set hk] at hP
  exact hP
theorem u_top {x y : Int32} (h : x = y) (k : W p l e R s m args below meth c H locs cells slots Q (F0 m pc ls (.int y :: rest))) : W p l e R s m args below meth c H locs cells slots Q (F0 m pc ls (.int x :: rest)) := h ▸ k
/-- a loop: every state of it with the invariant comes to its end -/
theorem u_loop {σ : Type} (I : σ → um_M → Array Slot → Prop) (μ : σ → Nat) {st : List Value}
    (step : ∀ (x : σ) (mem : um_M) (H : Heap) (locs : List Loc) (ls : Array Slot), uH D cl tys N ad sh A s H0 mem H locs → I x mem ls → (∀ (x' : σ) (mem' : um_M) (H' : Heap) (locs' : List Loc) (ls' : Array Slot), μ x' < μ x → uH D cl tys N ad sh A s H0 mem' H' locs' → I x' mem' ls' → W p l e R s m args below meth c H' locs' cells slots Q (F0 m pc ls' st)) → W p l e R s m args below meth c H locs cells slots Q (F0 m pc ls st))
    (x : σ) (hw : uH D cl tys N ad sh A s H0 mem H locs) (hI : I x mem ls) : W p l e R s m args below meth c H locs cells slots Q (F0 m pc ls st) := by
  have key : ∀ (n : Nat) (x : σ) (mem : um_M) (H : Heap) (locs : List Loc) (ls : Array Slot), μ x < n → uH D cl tys N ad sh A s H0 mem H locs → I x mem ls → W p l e R s m args below meth c H locs cells slots Q (F0 m pc ls st) := by
    intro n
    induction n with
    | zero => intro x mem H locs ls h; exact absurd h (Nat.not_lt_zero _)
    | succ n ih => intro x mem H locs ls h hw hI; exact step x mem H locs ls hw hI (fun x' mem' H' locs' ls' h' hw' hI' => ih x' mem' H' locs' ls' (by omega) hw' hI')
  exact key (μ x + 1) x mem H locs ls (Nat.lt_succ_self _) hw hI
theorem u_loopP {σ : Type} (I : σ → Array Slot → Prop) (μ : σ → Nat) {st : List Value}
    (step : ∀ (x : σ) (H : Heap) (locs : List Loc) (ls : Array Slot), uN s ∧ va_S (fun _ => False) H0 H locs → I x ls → (∀ (x' : σ) (H' : Heap) (locs' : List Loc) (ls' : Array Slot), μ x' < μ x → uN s ∧ va_S (fun _ => False) H0 H' locs' → I x' ls' → W p l e R s m args below meth c H' locs' cells slots Q (F0 m pc ls' st)) → W p l e R s m args below meth c H locs cells slots Q (F0 m pc ls st))
    (x : σ) (hw : uN s ∧ va_S (fun _ => False) H0 H locs) (hI : I x ls) : W p l e R s m args below meth c H locs cells slots Q (F0 m pc ls st) := by
  have key : ∀ (n : Nat) (x : σ) (H : Heap) (locs : List Loc) (ls : Array Slot), μ x < n → uN s ∧ va_S (fun _ => False) H0 H locs → I x ls → W p l e R s m args below meth c H locs cells slots Q (F0 m pc ls st) := by
    intro n
    induction n with
    | zero => intro x H locs ls h; exact absurd h (Nat.not_lt_zero _)
    | succ n ih => intro x H locs ls h hw hI; exact step x H locs ls hw hI (fun x' H' locs' ls' h' hw' hI' => ih x' H' locs' ls' (by omega) hw' hI')
  exact key (μ x + 1) x H locs ls (Nat.lt_succ_self _) hw hI
theorem u_tab (S : CallFix p m c cc nL s args Ts own) {dflt lo hi : Int} {offs : Array Int} {len : Nat} {x k : Int32} {off : Int} {tgt : Nat} (hx : x = k) (hdg : decode cc pc = .ok (.tableswitch dflt lo hi offs, len)) (h1 : ¬ k.toInt < lo) (h2 : ¬ hi < k.toInt) (ho : offs[(k.toInt - lo).toNat]? = some off) (ht : (pc : Int) + off = (tgt : Int))
    (kk : W p l e R s m args below meth c H locs cells slots Q (F0 m tgt ls rest)) : W p l e R s m args below meth c H locs cells slots Q (F0 m pc ls (.int x :: rest)) := by
  subst hx
  exact lv_tableIn S.1 S.2.1 hdg h1 h2 ho ht kk
/-- behind a call that may change the world -/
theorem u_back {mem' : um_M} {t : State} {H1 : Heap} {locs1 : List Loc} (hw : uH D cl tys N ad sh A s H0 mem H locs) (ht : t.heap = H1) (hE : uE D cl N ad sh mem' t) (hS : va_S A H0 H1 locs1) : uH D cl tys N ad sh A s H0 mem' H1 locs1 :=
  ⟨hw.1, hw.2.1, by rw [← ht]; exact hE, hS⟩
/-- behind a call that changes nothing -/
theorem u_kept {H1 : Heap} {locs1 : List Loc} (hw : uH D cl tys N ad sh A s H0 mem H locs) (hk : ∀ q : Nat, q < H.size → ¬ False → H1[q]? = H[q]?) (hS : va_S A H0 H1 locs1) : uH D cl tys N ad sh A s H0 mem H1 locs1 :=
  ⟨hw.1, hw.2.1, hw.2.2.1.kept (fun k q h => hk q.1 (hw.2.2.1 k q h).lt (fun z => z)), hS⟩
theorem u_preS {As : List Value} (hw : uH D cl tys N ad sh A s H0 mem H locs) : PreS s H (va_Pc As (uB D cl tys N ad sh mem)) As :=
  ⟨uB_blind, fun U hU hW => ⟨rfl, ⟨va_K.moved hW.alike hw.1.1, uN.warm hW hw.1.2⟩, hw.2.1.1, by rw [hU]; exact hw.2.2.1⟩⟩
theorem u_preV {As : List Value} (hw : uH D cl tys N ad sh A s H0 mem H locs) (k : Nat) (hk : k < N) {ci : Nat} {fs : List Value} (he : sh k (mem k) = .inr (ci, fs)) {C : String} {T : u_T} {n : Nat} (hc : cl[ci]? = some (C, T, n)) : PreV s H C (ad k) (va_Pc (.ref (ad k) :: As) (uB D cl tys N ad sh mem)) As :=
  ⟨uB_blind, va_recv hw.1.1 hw.2.2.1 hc (q0 := k) (by rw [uw_get hk, he]), fun U hU hW => ⟨rfl, ⟨va_K.moved hW.alike hw.1.1, uN.warm hW hw.1.2⟩, hw.2.1.1, by rw [hU]; exact hw.2.2.1⟩⟩
variable {a : Array Value} {st0 : List Value}
theorem u_calli {post : Int32 → um_M → Prop} (hw : uH D cl tys N ad sh A s H0 mem H locs) (hr : va_Run p l e R s m args below meth c H locs cells slots 0 0 (F0 m pc ls st0) rest (va_Qi post (uE D cl N ad sh) (uA N ad) a) (uA N ad))
    (kk : ∀ (r : Int32) (mem' : um_M) (H1 : Heap) (locs1 : List Loc), post r mem' → uH D cl tys N ad sh A s H0 mem' H1 locs1 → W p l e R s m args below meth c H1 locs1 cells slots Q (F0 m (pc + 3) ls (.int r :: rest))) : W p l e R s m args below meth c H locs cells slots Q (F0 m pc ls st0) :=
  va_calli hr hw.2.2.2 (fun q _ h => by obtain ⟨k, hk, rfl⟩ := h; exact hw.2.1.2 k hk) (fun q h => by obtain ⟨k, hk, rfl⟩ := h; exact hw.2.1.2 k hk) (fun r u t H1 locs1 ht _ hp hE _ _ hS => kk r u H1 locs1 hp (u_back hw ht hE hS))
theorem u_callv {post : um_M → Prop} (hw : uH D cl tys N ad sh A s H0 mem H locs) (hr : va_Run p l e R s m args below meth c H locs cells slots 0 0 (F0 m pc ls st0) rest (va_Qv post (uE D cl N ad sh) (uA N ad) a) (uA N ad))
    (kk : ∀ (mem' : um_M) (H1 : Heap) (locs1 : List Loc), post mem' → uH D cl tys N ad sh A s H0 mem' H1 locs1 → W p l e R s m args below meth c H1 locs1 cells slots Q (F0 m (pc + 3) ls rest)) : W p l e R s m args below meth c H locs cells slots Q (F0 m pc ls st0) :=
  va_callv hr hw.2.2.2 (fun q _ h => by obtain ⟨k, hk, rfl⟩ := h; exact hw.2.1.2 k hk) (fun q h => by obtain ⟨k, hk, rfl⟩ := h; exact hw.2.1.2 k hk) (fun u t H1 locs1 ht _ hp hE _ _ hS => kk u H1 locs1 hp (u_back hw ht hE hS))
/-- a call of a method that looks at no cell -/
theorem u_callp {post : Int32 → Unit → Prop} (hw : uH D cl tys N ad sh A s H0 mem H locs) (hr : va_Run p l e R s m args below meth c H locs cells slots 0 0 (F0 m pc ls st0) rest (va_Qi post (fun _ _ => True) (fun _ => False) a) (fun _ => False))
    (kk : ∀ (r : Int32) (H1 : Heap) (locs1 : List Loc), post r () → uH D cl tys N ad sh A s H0 mem H1 locs1 → W p l e R s m args below meth c H1 locs1 cells slots Q (F0 m (pc + 3) ls (.int r :: rest))) : W p l e R s m args below meth c H locs cells slots Q (F0 m pc ls st0) :=
  va_calli hr hw.2.2.2 (fun q _ h => h.elim) (fun q h => h.elim) (fun r u t H1 locs1 ht _ hp hE _ hk hS => kk r H1 locs1 hp (u_kept hw hk hS))
theorem u_preP {As : List Value} (hN : uN s) : PreS s H (va_Pc As uN) As := ⟨uT_blind, fun _ _ hW => ⟨rfl, uN.warm hW hN⟩⟩
/-- the same from a method that itself looks at none -/
theorem u_callpp {post : Int32 → Unit → Prop} (hS : uN s ∧ va_S (fun _ => False) H0 H locs) (hr : va_Run p l e R s m args below meth c H locs cells slots 0 0 (F0 m pc ls st0) rest (va_Qi post (fun _ _ => True) (fun _ => False) a) (fun _ => False))
    (kk : ∀ (r : Int32) (H1 : Heap) (locs1 : List Loc), post r () → uN s ∧ va_S (fun _ => False) H0 H1 locs1 → W p l e R s m args below meth c H1 locs1 cells slots Q (F0 m (pc + 3) ls (.int r :: rest))) : W p l e R s m args below meth c H locs cells slots Q (F0 m pc ls st0) :=
  va_calli hr hS.2 (fun q _ h => h) (fun q h => h) (fun r u t H1 locs1 ht _ hp hE _ hk hS1 => kk r H1 locs1 hp ⟨hS.1, hS1⟩)
variable {C : String} {index maxL n mc ms : Nat} {y : MethodName} {bytes : ByteArray} {ret : Option FieldType} {rm : Room}
theorem u_cB (ht : ∀ w ∈ tbl, w.before args s = true) (hc : Cond.code y bytes maxL ret ∈ tbl) (hini : Cond.initialized y.cls ∈ tbl) (hl : Cond.methodLink own index y ∈ tbl) (hd : y.cls ≠ "java/lang/invoke/MethodHandle" ∧ y.cls ≠ "java/lang/invoke/VarHandle" ∧ (parseMethodDescriptor y.desc).map (fun d => d.parameters.length) = some n) (hrc : rm.cells = mc) (hrs : rm.slots = ms) (hR : rm.frames + 1 ≤ R.frames ∧ 8 + (maxL + 11) + rm.locals ≤ R.locals) :
    CallB R s args own index y bytes maxL ret (Cond.code y bytes maxL ret :: tbl) rm mc ms n :=
  callB_of n ht (tb_good1 hc) rfl hrc hrs (ht _ hini) (ht _ hl) hd hR
theorem u_cN {host : String} (ht : ∀ w ∈ tbl, w.before args s = true) (hc : Cond.code y bytes maxL ret ∈ tbl) (hini : Cond.initialized y.cls ∈ tbl) (hl : va_Nw (.methodLinkNest own index y host) s) (hd : y.cls ≠ "java/lang/invoke/MethodHandle" ∧ y.cls ≠ "java/lang/invoke/VarHandle" ∧ (parseMethodDescriptor y.desc).map (fun d => d.parameters.length) = some n) (hrc : rm.cells = mc) (hrs : rm.slots = ms) (hR : rm.frames + 1 ≤ R.frames ∧ 8 + (maxL + 11) + rm.locals ≤ R.locals) :
    va_CN R s args own index y host bytes maxL ret (Cond.code y bytes maxL ret :: tbl) rm mc ms n :=
  va_cnB n ht (tb_good1 hc) rfl hrc hrs hl (ht _ hini) hd hR
end UR
section UX
variable {p : Program} {l : Launch} {e : Env} {R : Room} {s : State} {m : MethodId} {args : Array Value} {below : List Frame} {meth : Method} {c : Code} {H : Heap} {locs : List Loc}
variable {D : va_G} {cl : List vw_C} {tys : List (ClassId × FieldType)} {N : Nat} {ad : Nat → Nat} {sh : um_Sh} {mem : um_M}
variable {cc : ByteArray} {nL pc : Nat} {Ts : List Cond} {own : String} {ls : Array Slot}
/-- ends -/
theorem u_iret {post : Int32 → um_M → Prop} {v : Int32} (S : CallFix p m c cc nL s args Ts own) (hr : meth.sig.returnType = some .int) (hlocks : meth.locks = false) (hw : uH D cl tys N ad sh (uA N ad) s s.heap mem H locs) (hp : post v mem) (hdg : decode cc pc = .ok (.ireturn, 1)) :
    W p l e R s m args below meth c H locs 0 0 (MQ below (va_Qi post (uE D cl N ad sh) (uA N ad)) args s 0 0 (uA N ad)) (F0 m pc ls [.int v]) :=
  W.iret S.1 S.2.1 hr (fun t ht _ => ⟨⟨v, mem, rfl, hp, by show va_P D cl (uw N ad sh mem) t.heap; rw [ht]; exact hw.2.2.1⟩, hw.2.2.2.F ht⟩) hw.2.2.2.2.2 hdg hlocks
theorem u_zret {post : Int32 → um_M → Prop} {v : Int32} (S : CallFix p m c cc nL s args Ts own) (hr : meth.sig.returnType = some .boolean) (hlocks : meth.locks = false) (hw : uH D cl tys N ad sh (uA N ad) s s.heap mem H locs) (hn : narrow .boolean (.int v) = .int v) (hp : post v mem) (hdg : decode cc pc = .ok (.ireturn, 1)) :
    W p l e R s m args below meth c H locs 0 0 (MQ below (va_Qi post (uE D cl N ad sh) (uA N ad)) args s 0 0 (uA N ad)) (F0 m pc ls [.int v]) :=
  W.zret S.1 S.2.1 hr hn (fun t ht _ => ⟨⟨v, mem, rfl, hp, by show va_P D cl (uw N ad sh mem) t.heap; rw [ht]; exact hw.2.2.1⟩, hw.2.2.2.F ht⟩) hw.2.2.2.2.2 hdg hlocks
theorem u_vret {post : um_M → Prop} (S : CallFix p m c cc nL s args Ts own) (hr : meth.sig.returnType = none) (hlocks : meth.locks = false) (hw : uH D cl tys N ad sh (uA N ad) s s.heap mem H locs) (hp : post mem) (hdg : decode cc pc = .ok (.return_, 1)) :
    W p l e R s m args below meth c H locs 0 0 (MQ below (va_Qv post (uE D cl N ad sh) (uA N ad)) args s 0 0 (uA N ad)) (F0 m pc ls []) :=
  W.vret S.1 S.2.1 hr (fun t ht _ => ⟨⟨mem, rfl, hp, by show va_P D cl (uw N ad sh mem) t.heap; rw [ht]; exact hw.2.2.1⟩, hw.2.2.2.F ht⟩) hw.2.2.2.2.2 hdg hlocks
theorem u_piret {post : Int32 → Unit → Prop} {v : Int32} (S : CallFix p m c cc nL s args Ts own) (hr : meth.sig.returnType = some .int) (hlocks : meth.locks = false) (hS : uN s ∧ va_S (fun _ => False) s.heap H locs) (hp : post v ()) (hdg : decode cc pc = .ok (.ireturn, 1)) :
    W p l e R s m args below meth c H locs 0 0 (MQ below (va_Qi post (fun _ _ => True) (fun _ => False)) args s 0 0 (fun _ => False)) (F0 m pc ls [.int v]) :=
  W.iret S.1 S.2.1 hr (fun t ht _ => ⟨⟨v, (), rfl, hp, trivial⟩, hS.2.F ht⟩) hS.2.2.2 hdg hlocks
theorem u_pzret {post : Int32 → Unit → Prop} {v : Int32} (S : CallFix p m c cc nL s args Ts own) (hr : meth.sig.returnType = some .boolean) (hlocks : meth.locks = false) (hS : uN s ∧ va_S (fun _ => False) s.heap H locs) (hn : narrow .boolean (.int v) = .int v) (hp : post v ()) (hdg : decode cc pc = .ok (.ireturn, 1)) :
    W p l e R s m args below meth c H locs 0 0 (MQ below (va_Qi post (fun _ _ => True) (fun _ => False)) args s 0 0 (fun _ => False)) (F0 m pc ls [.int v]) :=
  W.zret S.1 S.2.1 hr hn (fun t ht _ => ⟨⟨v, (), rfl, hp, trivial⟩, hS.2.F ht⟩) hS.2.2.2 hdg hlocks
end UX
theorem nb01 {v : Int32} (h : v = 0 ∨ v = 1) : narrow .boolean (.int v) = .int v := by rcases h with rfl | rfl <;> rfl
theorem na01 {v : Int32} (h : v = 0 ∨ v = 1) : vp_nar .boolean v = v := by rcases h with rfl | rfl <;> decide
