/-! the two worlds: the class's 47 cells, the reference's 13 -/
abbrev UG : Type := va_G × (Nat → Nat) × ClassId × ClassId × ClassId × ClassId
abbrev clX : List vw_C := [("ClaimDesk", T_Ds, 9), ("ClaimDesk$Transition", T_Tr, 6), ("ClaimDesk$Claim", T_Cm, 3), ("ClaimDesk$Space", T_Sp, 10), ("ClaimDesk$Avoidance", T_Av, 4), ("ClaimDeskModel", T_Mo, 19)]
abbrev tysX (G : UG) : List (ClassId × FieldType) := [(G.2.2.1, .int), (G.2.2.2.1, .boolean), (G.2.2.2.2.1, .object "ClaimDesk$Transition"), (G.2.2.2.2.2, .object "ClaimDesk$Claim")]
def shX (G : UG) : um_Sh := fun k g => match k with
  | 0 => .inr (0, [.ref (G.2.1 1), .ref (G.2.1 2), .ref (G.2.1 3), .ref (G.2.1 13), .int (g 4), .int (g 5), .int (g 6), .int (g 7), .int (g 8)])
  | 1 => .inl (G.2.2.2.2.1, 24, .inr (.inr (.inr (.inr (fun j => some (G.2.1 (17 + j)))))))
  | 2 => .inl (G.2.2.2.2.2, 6, .inr (.inr (.inr (.inr (fun j => some (G.2.1 (41 + j)))))))
  | 3 => .inr (3, [.ref (G.2.1 4), .ref (G.2.1 5), .ref (G.2.1 6), .ref (G.2.1 7), .ref (G.2.1 8), .ref (G.2.1 9), .ref (G.2.1 10), .ref (G.2.1 11), .ref (G.2.1 12), .int (g 9)])
  | 4 => .inl (G.2.2.1, 300, .inl g)
  | 5 => .inl (G.2.2.1, 300, .inl g)
  | 6 => .inl (G.2.2.1, 300, .inl g)
  | 7 => .inl (G.2.2.1, 300, .inl g)
  | 8 => .inl (G.2.2.1, 300, .inl g)
  | 9 => .inl (G.2.2.1, 7200, .inl g)
  | 10 => .inl (G.2.2.1, 300, .inl g)
  | 11 => .inl (G.2.2.1, 7200, .inl g)
  | 12 => .inl (G.2.2.1, 1024, .inl g)
  | 13 => .inr (4, [.ref (G.2.1 14), .ref (G.2.1 15), .ref (G.2.1 16), .int (g 3)])
  | 14 => .inl (G.2.2.2.1, 300, .inl g)
  | 15 => .inl (G.2.2.1, 300, .inl g)
  | 16 => .inl (G.2.2.1, 300, .inl g)
  | k => if k < 41 then .inr (1, [.int (g 0), .int (g 1), .int (g 2), .int (g 3), .int (g 4), .int (g 5)]) else .inr (2, [.int (g 0), .int (g 1), .int (g 2)])
theorem sh_Tr {G : UG} {g : Nat → Int32} (t : Nat) (ht : t < 24) : shX G (17 + t) g = .inr (1, [.int (g 0), .int (g 1), .int (g 2), .int (g 3), .int (g 4), .int (g 5)]) := by
  have h : 17 + t < 41 := by omega
  obtain ⟨k, hk⟩ : ∃ k, k = 17 + t := ⟨_, rfl⟩
  rw [← hk] at h ⊢
  unfold shX
  split <;> first | omega | (rw [if_pos h])
theorem sh_Cm {G : UG} {g : Nat → Int32} (t : Nat) (ht : t < 6) : shX G (41 + t) g = .inr (2, [.int (g 0), .int (g 1), .int (g 2)]) := by
  have h : ¬ 41 + t < 41 := by omega
  obtain ⟨k, hk⟩ : ∃ k, k = 41 + t := ⟨_, rfl⟩
  rw [← hk] at h ⊢
  unfold shX
  split <;> first | omega | (rw [if_neg h])
def shM (G : UG) : um_Sh := fun k g => match k with
  | 0 => .inr (5, [.ref (G.2.1 1), .ref (G.2.1 2), .ref (G.2.1 3), .ref (G.2.1 4), .ref (G.2.1 5), .ref (G.2.1 6), .ref (G.2.1 7), .int (g 7), .int (g 8), .int (g 9), .int (g 10), .int (g 11), .ref (G.2.1 8), .ref (G.2.1 9), .ref (G.2.1 10), .ref (G.2.1 11), .ref (G.2.1 12), .int (g 17), .int (g 18)])
  | 1 => .inl (G.2.2.1, 24, .inl g)
  | 2 => .inl (G.2.2.1, 24, .inl g)
  | 3 => .inl (G.2.2.1, 24, .inl g)
  | 4 => .inl (G.2.2.1, 24, .inl g)
  | 5 => .inl (G.2.2.1, 6, .inl g)
  | 6 => .inl (G.2.2.1, 6, .inl g)
  | 7 => .inl (G.2.2.1, 6, .inl g)
  | 8 => .inl (G.2.2.1, 301, .inl g)
  | 9 => .inl (G.2.2.1, 301, .inl g)
  | 10 => .inl (G.2.2.1, 301, .inl g)
  | 11 => .inl (G.2.2.1, 301, .inl g)
  | _ => .inl (G.2.2.2.1, 300, .inl g)
abbrev XB (G : UG) (mem : um_M) : State → Prop := uB G.1 clX (tysX G) 47 G.2.1 (shX G) mem
abbrev XE (G : UG) : um_M → State → Prop := uE G.1 clX 47 G.2.1 (shX G)
abbrev MB (G : UG) (mem : um_M) : State → Prop := uB G.1 clX (tysX G) 13 G.2.1 (shM G) mem
abbrev ME (G : UG) : um_M → State → Prop := uE G.1 clX 13 G.2.1 (shM G)
/-- contracts: a method that looks at no cell; one of the class that answers an int (or a boolean), that answers nothing; the same of the reference -/
abbrev MetP (l : Launch) (y : MethodName) (bytes : ByteArray) (maxL : Nat) (ret : Option FieldType) (rm : Room) (av : List Value) (r0 : Int32) : Prop := Met l y (Cond.code y bytes maxL ret :: tbl) rm (va_Pc av uN) (va_Qi (fun r (_ : Unit) => r = r0) (fun _ _ => True) (fun _ => False)) 0 0 (fun _ => False)
abbrev MetX (l : Launch) (G : UG) (y : MethodName) (bytes : ByteArray) (maxL : Nat) (ret : Option FieldType) (rm : Room) (av : List Value) (mem : um_M) (post : Int32 → um_M → Prop) : Prop := Met l y (Cond.code y bytes maxL ret :: tbl) rm (va_Pc av (XB G mem)) (va_Qi post (XE G) (uA 47 G.2.1)) 0 0 (uA 47 G.2.1)
abbrev MetXv (l : Launch) (G : UG) (y : MethodName) (bytes : ByteArray) (maxL : Nat) (rm : Room) (av : List Value) (mem : um_M) (post : um_M → Prop) : Prop := Met l y (Cond.code y bytes maxL none :: tbl) rm (va_Pc av (XB G mem)) (va_Qv post (XE G) (uA 47 G.2.1)) 0 0 (uA 47 G.2.1)
abbrev MetM (l : Launch) (G : UG) (y : MethodName) (bytes : ByteArray) (maxL : Nat) (ret : Option FieldType) (rm : Room) (av : List Value) (mem : um_M) (post : Int32 → um_M → Prop) : Prop := Met l y (Cond.code y bytes maxL ret :: tbl) rm (va_Pc av (MB G mem)) (va_Qi post (ME G) (uA 13 G.2.1)) 0 0 (uA 13 G.2.1)
abbrev MetMv (l : Launch) (G : UG) (y : MethodName) (bytes : ByteArray) (maxL : Nat) (rm : Room) (av : List Value) (mem : um_M) (post : um_M → Prop) : Prop := Met l y (Cond.code y bytes maxL none :: tbl) rm (va_Pc av (MB G mem)) (va_Qv post (ME G) (uA 13 G.2.1)) 0 0 (uA 13 G.2.1)
section UQ
variable {p : Program} {l : Launch} {e : Env} {R : Room} {s : State} {m : MethodId} {args : Array Value} {below : List Frame} {meth : Method} {c : Code} {H H0 : Heap} {locs : List Loc} {cells slots : Nat} {Q : State → Prop}
variable {D : va_G} {cl : List vw_C} {tys : List (ClassId × FieldType)} {N : Nat} {ad : Nat → Nat} {sh : um_Sh} {A : Nat → Prop} {mem : um_M}
variable {cc : ByteArray} {nL pc : Nat} {Ts : List Cond} {own : String} {ls : Array Slot} {rest : List Value}
theorem u_iaN (S : CallFix p m c cc nL s args Ts own) (hw : uH D cl tys N ad sh A s H0 mem H locs) (k t0 : Nat) (hk : k < N) {cA : ClassId} {n : Nat} (he : sh k (mem k) = .inl (cA, n, .inl (mem k))) (ht : tys[t0]? = some (cA, .int)) {i : Int32} {j : Nat} (hi : i = nI j) (hj : j < n) (hn : n < 2 ^ 31) (hdg : decode cc pc = .ok (.iaload, 1))
    (kk : W p l e R s m args below meth c H locs cells slots Q (F0 m (pc + 1) ls (.int (mem k j) :: rest))) : W p l e R s m args below meth c H locs cells slots Q (F0 m pc ls (.int i :: .ref (ad k) :: rest)) := by
  subst hi
  refine u_iald S hw k t0 hk he ht (vp_in_nI hj hn) hdg ?_
  rw [nI_clamp (by omega)]
  exact kk
theorem u_zaN (S : CallFix p m c cc nL s args Ts own) (hw : uH D cl tys N ad sh A s H0 mem H locs) (k t0 : Nat) (hk : k < N) {cA : ClassId} {n : Nat} (he : sh k (mem k) = .inl (cA, n, .inl (mem k))) (ht : tys[t0]? = some (cA, .boolean)) {i : Int32} {j : Nat} (hi : i = nI j) (hj : j < n) (hn : n < 2 ^ 31) (hdg : decode cc pc = .ok (.baload, 1))
    (kk : W p l e R s m args below meth c H locs cells slots Q (F0 m (pc + 1) ls (.int (mem k j) :: rest))) : W p l e R s m args below meth c H locs cells slots Q (F0 m pc ls (.int i :: .ref (ad k) :: rest)) := by
  subst hi
  refine u_zald S hw k t0 hk he ht (vp_in_nI hj hn) hdg ?_
  rw [nI_clamp (by omega)]
  exact kk
theorem u_isN (S : CallFix p m c cc nL s args Ts own) (hw : uH D cl tys N ad sh A s H0 mem H locs) (k t0 : Nat) (hk : k < N) {cA : ClassId} {n : Nat} (he : ∀ g : Nat → Int32, sh k g = .inl (cA, n, .inl g)) (ht : tys[t0]? = some (cA, .int)) {i x : Int32} {j : Nat} (hi : i = nI j) (hj : j < n) (hn : n < 2 ^ 31) (hdg : decode cc pc = .ok (.iastore, 1))
    (kk : ∀ (H1 : Heap) (locs1 : List Loc), uH D cl tys N ad sh A s H0 (um_set mem k j x) H1 locs1 → W p l e R s m args below meth c H1 locs1 cells slots Q (F0 m (pc + 1) ls rest)) : W p l e R s m args below meth c H locs cells slots Q (F0 m pc ls (.int x :: .int i :: .ref (ad k) :: rest)) := by
  subst hi
  refine u_iast S hw k t0 hk he ht (vp_in_nI hj hn) hdg (fun H1 locs1 hw1 => ?_)
  rw [nI_clamp (by omega)] at hw1
  exact kk H1 locs1 hw1
theorem u_zsN (S : CallFix p m c cc nL s args Ts own) (hw : uH D cl tys N ad sh A s H0 mem H locs) (k t0 : Nat) (hk : k < N) {cA : ClassId} {n : Nat} (he : ∀ g : Nat → Int32, sh k g = .inl (cA, n, .inl g)) (ht : tys[t0]? = some (cA, .boolean)) {i x : Int32} {j : Nat} (hi : i = nI j) (hj : j < n) (hn : n < 2 ^ 31) (hx : vp_nar .boolean x = x) (hdg : decode cc pc = .ok (.bastore, 1))
    (kk : ∀ (H1 : Heap) (locs1 : List Loc), uH D cl tys N ad sh A s H0 (um_set mem k j x) H1 locs1 → W p l e R s m args below meth c H1 locs1 cells slots Q (F0 m (pc + 1) ls rest)) : W p l e R s m args below meth c H locs cells slots Q (F0 m pc ls (.int x :: .int i :: .ref (ad k) :: rest)) := by
  subst hi
  refine u_zast S hw k t0 hk he ht hx (vp_in_nI hj hn) hdg (fun H1 locs1 hw1 => ?_)
  rw [nI_clamp (by omega)] at hw1
  exact kk H1 locs1 hw1
theorem u_aaN (S : CallFix p m c cc nL s args Ts own) (hw : uH D cl tys N ad sh A s H0 mem H locs) (k t0 : Nat) (hk : k < N) {cA : ClassId} {C : String} {n : Nat} {f : Nat → Option Nat} (he : sh k (mem k) = .inl (cA, n, .inr (.inr (.inr (.inr f))))) (ht : tys[t0]? = some (cA, .object C)) {i : Int32} {j : Nat} (hi : i = nI j) (hj : j < n) (hn : n < 2 ^ 31) {v : Value} (hv : va_rf (f j) = v) (hdg : decode cc pc = .ok (.aaload, 1))
    (kk : W p l e R s m args below meth c H locs cells slots Q (F0 m (pc + 1) ls (v :: rest))) : W p l e R s m args below meth c H locs cells slots Q (F0 m pc ls (.int i :: .ref (ad k) :: rest)) := by
  subst hi
  exact u_aald S hw k t0 hk he ht (vp_in_nI hj hn) (by rw [nI_clamp (by omega)]; exact hv) hdg kk
theorem u_alen (S : CallFix p m c cc nL s args Ts own) (hw : uH D cl tys N ad sh A s H0 mem H locs) (k t0 : Nat) (hk : k < N) {cA : ClassId} {x : vp_A} (he : sh k (mem k) = .inl (cA, x)) {ty : FieldType} (ht : tys[t0]? = some (cA, ty)) {v : Int32} (hv : Int32.ofNat x.1 = v) (hdg : decode cc pc = .ok (.arraylength, 1))
    (kk : W p l e R s m args below meth c H locs cells slots Q (F0 m (pc + 1) ls (.int v :: rest))) : W p l e R s m args below meth c H locs cells slots Q (F0 m pc ls (.ref (ad k) :: rest)) :=
  va_alen S.1 S.2.1 hw.1.1 hw.2.2.1 k t0 (by rw [uw_get hk, he]) ht hv hdg kk
end UQ
