theorem arrV_eq {cA : ClassId} {N : Nat} {f g : Nat → Value} (h : ∀ j, j < N → f j = g j) : arrV cA N f = arrV cA N g := by
  unfold arrV
  congr 1
  apply Array.ext
  · simp
  · intro i h1 h2
    simp at h1
    simp [h i h1]
theorem cell_rf {cA : ClassId} {n : Nat} {f g : Nat → Option Nat} (h : ∀ j, j < n → f j = g j) : vp_cell cA (n, .inr (.inr (.inr (.inr f)))) = vp_cell cA (n, .inr (.inr (.inr (.inr g)))) := arrV_eq (fun j hj => congrArg va_rf (h j hj))
theorem P_ch {D : va_G} {cl : List vw_C} {q : Nat} {cA : ClassId} {a a' : vp_A} {w : va_W} {x : Nat × va_E} {H : Heap} (h : va_P D cl (x :: (q, .inl (cA, a)) :: w) H) (e : vp_cell cA a = vp_cell cA a') : va_P D cl (x :: (q, .inl (cA, a')) :: w) H := by
  intro k y hk
  match k with
  | 0 => exact h 0 y hk
  | 1 =>
    have hk : some (q, Sum.inl (cA, a')) = some y := hk
    cases hk
    have h1 := h 1 (q, .inl (cA, a)) rfl
    show H[q]? = some (vp_cell cA a')
    rw [← e]; exact h1
  | k + 2 => exact h (k + 2) y hk
theorem P_ch2 {D : va_G} {cl : List vw_C} {q : Nat} {cA : ClassId} {a a' : vp_A} {w : va_W} {x x2 : Nat × va_E} {H : Heap} (h : va_P D cl (x :: x2 :: (q, .inl (cA, a)) :: w) H) (e : vp_cell cA a = vp_cell cA a') : va_P D cl (x :: x2 :: (q, .inl (cA, a')) :: w) H := by
  intro k y hk
  match k with
  | 0 => exact h 0 y hk
  | 1 => exact h 1 y hk
  | 2 =>
    have hk : some (q, Sum.inl (cA, a')) = some y := hk
    cases hk
    have h1 := h 2 (q, .inl (cA, a)) rfl
    show H[q]? = some (vp_cell cA a')
    rw [← e]; exact h1
  | k + 3 => exact h (k + 3) y hk
theorem D_ch {A : Nat → Prop} {ws ws' : va_W} (h : va_D A ws) (e : ws.map Prod.fst = ws'.map Prod.fst) : va_D A ws' := by
  have key : ∀ (k : Nat) (y : Nat × va_E), ws'[k]? = some y → ∃ z, ws[k]? = some z ∧ z.1 = y.1 := by
    intro k y hy
    have h1 : (ws'.map Prod.fst)[k]? = some y.1 := by rw [List.getElem?_map, hy]; rfl
    rw [← e, List.getElem?_map] at h1
    cases hz : ws[k]? with
    | none => rw [hz] at h1; cases h1
    | some z => rw [hz] at h1; exact ⟨z, rfl, Option.some.inj h1⟩
  refine ⟨fun i j a b hi hj hab => ?_, fun k y hy => ?_⟩
  · obtain ⟨a', h1, h2⟩ := key i a hi
    obtain ⟨b', h3, h4⟩ := key j b hj
    exact h.1 i j a' b' h1 h3 (h2.trans (hab.trans h4.symm))
  · obtain ⟨z, h1, h2⟩ := key k y hy
    rw [← h2]; exact h.2 k z h1
theorem P_last {D : va_G} {cl : List vw_C} {wr : va_W} {y : Nat × va_E} {H : Heap} (h : va_P D cl (wr ++ [y]) H) : va_P D cl [y] H := by
  intro k q hk
  have hz : k < 1 := (List.getElem?_eq_some_iff.mp hk).1
  rw [show k = 0 by omega] at hk
  exact h wr.length q (by rw [List.getElem?_append_right (Nat.le_refl _), Nat.sub_self]; exact hk)
theorem D_last {A : Nat → Prop} {wr : va_W} {y : Nat × va_E} (h : va_D A (wr ++ [y])) : A y.1 := h.2 wr.length y (by simp)
theorem D_one {y : Nat × va_E} : va_D (fun _ => True) [y] := ⟨fun i j p q hi hj _ => by
  have h1 : i < 1 := (List.getElem?_eq_some_iff.mp hi).1
  have h2 : j < 1 := (List.getElem?_eq_some_iff.mp hj).1
  omega, fun _ _ _ => trivial⟩
theorem A_one {A : Nat → Prop} {H0 H : Heap} {locs : List Loc} {q : Nat} {ec : va_E} (hq : A q) (hS : va_S A H0 H locs) (hA : ∀ q, H0.size ≤ q → A q) : ∀ x, va_A [(q, ec)] H.size x → A x := by
  intro x h
  rcases h with ⟨k, e2, h⟩ | h
  · have hz : k < 1 := (List.getElem?_eq_some_iff.mp h).1
    rw [show k = 0 by omega] at h
    have h : some (q, ec) = some (x, e2) := h
    have e : q = x := congrArg Prod.fst (Option.some.inj h)
    rw [← e]; exact hq
  · exact hA x (Nat.le_trans hS.1 h)
def adX (h0 a1 a2 qs qv : Nat) (us uv at_ ac : Nat → Nat) : Nat → Nat := fun k => match k with
  | 0 => h0
  | 1 => a1
  | 2 => a2
  | 3 => qs
  | 4 => us 0
  | 5 => us 1
  | 6 => us 2
  | 7 => us 3
  | 8 => us 4
  | 9 => us 5
  | 10 => us 6
  | 11 => us 7
  | 12 => us 8
  | 13 => qv
  | 14 => uv 0
  | 15 => uv 1
  | 16 => uv 2
  | k => if k < 41 then at_ (k - 17) else ac (k - 41)
theorem ad_T {h0 a1 a2 qs qv : Nat} {us uv at_ ac : Nat → Nat} {t : Nat} (ht : t < 24) : adX h0 a1 a2 qs qv us uv at_ ac (17 + t) = at_ t := by
  obtain ⟨k, hk⟩ : ∃ k, k = 17 + t := ⟨_, rfl⟩
  rw [← hk]
  unfold adX
  split <;> first | omega | (rw [if_pos (by omega)]; congr 1; omega)
theorem ad_C {h0 a1 a2 qs qv : Nat} {us uv at_ ac : Nat → Nat} {t : Nat} (ht : t < 6) : adX h0 a1 a2 qs qv us uv at_ ac (41 + t) = ac t := by
  obtain ⟨k, hk⟩ : ∃ k, k = 41 + t := ⟨_, rfl⟩
  rw [← hk]
  unfold adX
  split <;> first | omega | (rw [if_neg (by omega)]; congr 1; omega)
theorem uw_X {G : UG} {h0 a1 a2 qs qv : Nat} {us uv at_ ac : Nat → Nat} : uw 47 (adX h0 a1 a2 qs qv us uv at_ ac) (shX (G.1, (adX h0 a1 a2 qs qv us uv at_ ac), G.2.2)) (fun _ _ => 0) = (h0, .inr (0, [.ref a1, .ref a2, .ref qs, .ref qv, .int 0, .int 0, .int 0, .int 0, .int 0])) :: (a1, .inl (G.2.2.2.2.1, 24, .inr (.inr (.inr (.inr (fun j => some ((adX h0 a1 a2 qs qv us uv at_ ac) (17 + j)))))))) :: (a2, .inl (G.2.2.2.2.2, 6, .inr (.inr (.inr (.inr (fun j => some ((adX h0 a1 a2 qs qv us uv at_ ac) (41 + j)))))))) :: ([(qs, .inr (3, [.ref (us 0), .ref (us 1), .ref (us 2), .ref (us 3), .ref (us 4), .ref (us 5), .ref (us 6), .ref (us 7), .ref (us 8), .int 0])), (us 0, .inl (G.2.2.1, 300, .inl (fun _ => 0))), (us 1, .inl (G.2.2.1, 300, .inl (fun _ => 0))), (us 2, .inl (G.2.2.1, 300, .inl (fun _ => 0))), (us 3, .inl (G.2.2.1, 300, .inl (fun _ => 0))), (us 4, .inl (G.2.2.1, 300, .inl (fun _ => 0))), (us 5, .inl (G.2.2.1, 7200, .inl (fun _ => 0))), (us 6, .inl (G.2.2.1, 300, .inl (fun _ => 0))), (us 7, .inl (G.2.2.1, 7200, .inl (fun _ => 0))), (us 8, .inl (G.2.2.1, 1024, .inl (fun _ => 0)))] ++ ([(qv, .inr (4, [.ref (uv 0), .ref (uv 1), .ref (uv 2), .int 0])), (uv 0, .inl (G.2.2.2.1, 300, .inl (fun _ => 0))), (uv 1, .inl (G.2.2.1, 300, .inl (fun _ => 0))), (uv 2, .inl (G.2.2.1, 300, .inl (fun _ => 0)))] ++ (tlE eT at_ 24 ++ tlE eC ac 6))) := by
  unfold uw
  rw [show List.range 47 = List.range 17 ++ ((List.range 24).map (fun t => 17 + t) ++ (List.range 6).map (fun t => 41 + t)) by decide, List.map_append, List.map_append, List.map_map, List.map_map]
  rw [show (List.range 24).map ((fun k => ((adX h0 a1 a2 qs qv us uv at_ ac) k, shX (G.1, (adX h0 a1 a2 qs qv us uv at_ ac), G.2.2) k ((fun _ _ => 0 : um_M) k))) ∘ fun t => 17 + t) = tlE eT at_ 24 from List.map_congr_left (fun t ht => by
    have ht := List.mem_range.mp ht
    show ((adX h0 a1 a2 qs qv us uv at_ ac) (17 + t), shX (G.1, (adX h0 a1 a2 qs qv us uv at_ ac), G.2.2) (17 + t) (fun _ => 0)) = _
    rw [ad_T ht, sh_Tr t ht])]
  rw [show (List.range 6).map ((fun k => ((adX h0 a1 a2 qs qv us uv at_ ac) k, shX (G.1, (adX h0 a1 a2 qs qv us uv at_ ac), G.2.2) k ((fun _ _ => 0 : um_M) k))) ∘ fun t => 41 + t) = tlE eC ac 6 from List.map_congr_left (fun t ht => by
    have ht := List.mem_range.mp ht
    show ((adX h0 a1 a2 qs qv us uv at_ ac) (41 + t), shX (G.1, (adX h0 a1 a2 qs qv us uv at_ ac), G.2.2) (41 + t) (fun _ => 0)) = _
    rw [ad_C ht, sh_Cm t ht])]
  rfl
theorem fin_X {G : UG} {A : Nat → Prop} {H : Heap} {h0 a1 a2 qs qv : Nat} {us uv at_ ac : Nat → Nat} (hP : va_P G.1 clX ((h0, .inr (0, [.ref a1, .ref a2, .ref qs, .ref qv, .int 0, .int 0, .int 0, .int 0, .int 0])) :: (a1, .inl (G.2.2.2.2.1, 24, .inr (.inr (.inr (.inr (rfT at_ 24)))))) :: (a2, .inl (G.2.2.2.2.2, 6, .inr (.inr (.inr (.inr (rfT ac 6)))))) :: (((tlE eT at_ 24 ++ tlE eC ac 6) ++ [(qs, .inr (3, [.ref (us 0), .ref (us 1), .ref (us 2), .ref (us 3), .ref (us 4), .ref (us 5), .ref (us 6), .ref (us 7), .ref (us 8), .int 0])), (us 0, .inl (G.2.2.1, 300, .inl (fun _ => 0))), (us 1, .inl (G.2.2.1, 300, .inl (fun _ => 0))), (us 2, .inl (G.2.2.1, 300, .inl (fun _ => 0))), (us 3, .inl (G.2.2.1, 300, .inl (fun _ => 0))), (us 4, .inl (G.2.2.1, 300, .inl (fun _ => 0))), (us 5, .inl (G.2.2.1, 7200, .inl (fun _ => 0))), (us 6, .inl (G.2.2.1, 300, .inl (fun _ => 0))), (us 7, .inl (G.2.2.1, 7200, .inl (fun _ => 0))), (us 8, .inl (G.2.2.1, 1024, .inl (fun _ => 0)))]) ++ [(qv, .inr (4, [.ref (uv 0), .ref (uv 1), .ref (uv 2), .int 0])), (uv 0, .inl (G.2.2.2.1, 300, .inl (fun _ => 0))), (uv 1, .inl (G.2.2.1, 300, .inl (fun _ => 0))), (uv 2, .inl (G.2.2.1, 300, .inl (fun _ => 0)))])) H) (hD : va_D A ((h0, .inr (0, [.ref a1, .ref a2, .ref qs, .ref qv, .int 0, .int 0, .int 0, .int 0, .int 0])) :: (a1, .inl (G.2.2.2.2.1, 24, .inr (.inr (.inr (.inr (rfT at_ 24)))))) :: (a2, .inl (G.2.2.2.2.2, 6, .inr (.inr (.inr (.inr (rfT ac 6)))))) :: (((tlE eT at_ 24 ++ tlE eC ac 6) ++ [(qs, .inr (3, [.ref (us 0), .ref (us 1), .ref (us 2), .ref (us 3), .ref (us 4), .ref (us 5), .ref (us 6), .ref (us 7), .ref (us 8), .int 0])), (us 0, .inl (G.2.2.1, 300, .inl (fun _ => 0))), (us 1, .inl (G.2.2.1, 300, .inl (fun _ => 0))), (us 2, .inl (G.2.2.1, 300, .inl (fun _ => 0))), (us 3, .inl (G.2.2.1, 300, .inl (fun _ => 0))), (us 4, .inl (G.2.2.1, 300, .inl (fun _ => 0))), (us 5, .inl (G.2.2.1, 7200, .inl (fun _ => 0))), (us 6, .inl (G.2.2.1, 300, .inl (fun _ => 0))), (us 7, .inl (G.2.2.1, 7200, .inl (fun _ => 0))), (us 8, .inl (G.2.2.1, 1024, .inl (fun _ => 0)))]) ++ [(qv, .inr (4, [.ref (uv 0), .ref (uv 1), .ref (uv 2), .int 0])), (uv 0, .inl (G.2.2.2.1, 300, .inl (fun _ => 0))), (uv 1, .inl (G.2.2.1, 300, .inl (fun _ => 0))), (uv 2, .inl (G.2.2.1, 300, .inl (fun _ => 0)))]))) : va_P G.1 clX (uw 47 (adX h0 a1 a2 qs qv us uv at_ ac) (shX (G.1, (adX h0 a1 a2 qs qv us uv at_ ac), G.2.2)) (fun _ _ => 0)) H ∧ va_D A (uw 47 (adX h0 a1 a2 qs qv us uv at_ ac) (shX (G.1, (adX h0 a1 a2 qs qv us uv at_ ac), G.2.2)) (fun _ _ => 0)) := by
  have e1 : vp_cell G.2.2.2.2.1 (24, .inr (.inr (.inr (.inr (rfT at_ 24))))) = vp_cell G.2.2.2.2.1 (24, .inr (.inr (.inr (.inr (fun j => some ((adX h0 a1 a2 qs qv us uv at_ ac) (17 + j))))))) := cell_rf (fun j hj => (if_pos hj).trans (congrArg some (ad_T hj).symm))
  have e2 : vp_cell G.2.2.2.2.2 (6, .inr (.inr (.inr (.inr (rfT ac 6))))) = vp_cell G.2.2.2.2.2 (6, .inr (.inr (.inr (.inr (fun j => some ((adX h0 a1 a2 qs qv us uv at_ ac) (41 + j))))))) := cell_rf (fun j hj => (if_pos hj).trans (congrArg some (ad_C hj).symm))
  have hP := P_ch2 (P_ch hP e1) e2
  have hD : va_D A ((h0, .inr (0, [.ref a1, .ref a2, .ref qs, .ref qv, .int 0, .int 0, .int 0, .int 0, .int 0])) :: (a1, .inl (G.2.2.2.2.1, 24, .inr (.inr (.inr (.inr (fun j => some ((adX h0 a1 a2 qs qv us uv at_ ac) (17 + j)))))))) :: (a2, .inl (G.2.2.2.2.2, 6, .inr (.inr (.inr (.inr (fun j => some ((adX h0 a1 a2 qs qv us uv at_ ac) (41 + j)))))))) :: (((tlE eT at_ 24 ++ tlE eC ac 6) ++ [(qs, .inr (3, [.ref (us 0), .ref (us 1), .ref (us 2), .ref (us 3), .ref (us 4), .ref (us 5), .ref (us 6), .ref (us 7), .ref (us 8), .int 0])), (us 0, .inl (G.2.2.1, 300, .inl (fun _ => 0))), (us 1, .inl (G.2.2.1, 300, .inl (fun _ => 0))), (us 2, .inl (G.2.2.1, 300, .inl (fun _ => 0))), (us 3, .inl (G.2.2.1, 300, .inl (fun _ => 0))), (us 4, .inl (G.2.2.1, 300, .inl (fun _ => 0))), (us 5, .inl (G.2.2.1, 7200, .inl (fun _ => 0))), (us 6, .inl (G.2.2.1, 300, .inl (fun _ => 0))), (us 7, .inl (G.2.2.1, 7200, .inl (fun _ => 0))), (us 8, .inl (G.2.2.1, 1024, .inl (fun _ => 0)))]) ++ [(qv, .inr (4, [.ref (uv 0), .ref (uv 1), .ref (uv 2), .int 0])), (uv 0, .inl (G.2.2.2.1, 300, .inl (fun _ => 0))), (uv 1, .inl (G.2.2.1, 300, .inl (fun _ => 0))), (uv 2, .inl (G.2.2.1, 300, .inl (fun _ => 0)))])) := D_ch hD rfl
  have pm : List.Perm ((h0, .inr (0, [.ref a1, .ref a2, .ref qs, .ref qv, .int 0, .int 0, .int 0, .int 0, .int 0])) :: (a1, .inl (G.2.2.2.2.1, 24, .inr (.inr (.inr (.inr (fun j => some ((adX h0 a1 a2 qs qv us uv at_ ac) (17 + j)))))))) :: (a2, .inl (G.2.2.2.2.2, 6, .inr (.inr (.inr (.inr (fun j => some ((adX h0 a1 a2 qs qv us uv at_ ac) (41 + j)))))))) :: (((tlE eT at_ 24 ++ tlE eC ac 6) ++ [(qs, .inr (3, [.ref (us 0), .ref (us 1), .ref (us 2), .ref (us 3), .ref (us 4), .ref (us 5), .ref (us 6), .ref (us 7), .ref (us 8), .int 0])), (us 0, .inl (G.2.2.1, 300, .inl (fun _ => 0))), (us 1, .inl (G.2.2.1, 300, .inl (fun _ => 0))), (us 2, .inl (G.2.2.1, 300, .inl (fun _ => 0))), (us 3, .inl (G.2.2.1, 300, .inl (fun _ => 0))), (us 4, .inl (G.2.2.1, 300, .inl (fun _ => 0))), (us 5, .inl (G.2.2.1, 7200, .inl (fun _ => 0))), (us 6, .inl (G.2.2.1, 300, .inl (fun _ => 0))), (us 7, .inl (G.2.2.1, 7200, .inl (fun _ => 0))), (us 8, .inl (G.2.2.1, 1024, .inl (fun _ => 0)))]) ++ [(qv, .inr (4, [.ref (uv 0), .ref (uv 1), .ref (uv 2), .int 0])), (uv 0, .inl (G.2.2.2.1, 300, .inl (fun _ => 0))), (uv 1, .inl (G.2.2.1, 300, .inl (fun _ => 0))), (uv 2, .inl (G.2.2.1, 300, .inl (fun _ => 0)))])) ((h0, .inr (0, [.ref a1, .ref a2, .ref qs, .ref qv, .int 0, .int 0, .int 0, .int 0, .int 0])) :: (a1, .inl (G.2.2.2.2.1, 24, .inr (.inr (.inr (.inr (fun j => some ((adX h0 a1 a2 qs qv us uv at_ ac) (17 + j)))))))) :: (a2, .inl (G.2.2.2.2.2, 6, .inr (.inr (.inr (.inr (fun j => some ((adX h0 a1 a2 qs qv us uv at_ ac) (41 + j)))))))) :: ([(qs, .inr (3, [.ref (us 0), .ref (us 1), .ref (us 2), .ref (us 3), .ref (us 4), .ref (us 5), .ref (us 6), .ref (us 7), .ref (us 8), .int 0])), (us 0, .inl (G.2.2.1, 300, .inl (fun _ => 0))), (us 1, .inl (G.2.2.1, 300, .inl (fun _ => 0))), (us 2, .inl (G.2.2.1, 300, .inl (fun _ => 0))), (us 3, .inl (G.2.2.1, 300, .inl (fun _ => 0))), (us 4, .inl (G.2.2.1, 300, .inl (fun _ => 0))), (us 5, .inl (G.2.2.1, 7200, .inl (fun _ => 0))), (us 6, .inl (G.2.2.1, 300, .inl (fun _ => 0))), (us 7, .inl (G.2.2.1, 7200, .inl (fun _ => 0))), (us 8, .inl (G.2.2.1, 1024, .inl (fun _ => 0)))] ++ ([(qv, .inr (4, [.ref (uv 0), .ref (uv 1), .ref (uv 2), .int 0])), (uv 0, .inl (G.2.2.2.1, 300, .inl (fun _ => 0))), (uv 1, .inl (G.2.2.1, 300, .inl (fun _ => 0))), (uv 2, .inl (G.2.2.1, 300, .inl (fun _ => 0)))] ++ (tlE eT at_ 24 ++ tlE eC ac 6)))) := by
    refine ((List.Perm.cons _ ?_)).cons _ |>.cons _
    rw [List.append_assoc]
    exact (List.perm_append_comm).trans (by rw [List.append_assoc])
  rw [uw_X]
  exact ⟨P_perm pm hP, D_perm pm hD⟩
set_option maxHeartbeats 4000000 in
set_option maxRecDepth 100000 in
theorem c_Ds_init (l : Launch) (G : UG) (h0 sz : Nat) : Met l y_Ds_init (Cond.code y_Ds_init b_Ds_init 2 none :: tbl) ({ frames := 2, cells := 46, slots := 18330, locals := 40 }) (va_Pc [.ref h0] (fun U => U.heap.size = sz ∧ va_P G.1 clX [(h0, .inr (0, [.null, .null, .null, .null, .int 0, .int 0, .int 0, .int 0, .int 0]))] U.heap ∧ (va_K G.1 clX (tysX G) U ∧ iN U) ∧ va_D (fun _ => True) [(h0, .inr (0, [.null, .null, .null, .null, .int 0, .int 0, .int 0, .int 0, .int 0]))])) (va_Qv (fun u : Nat → Nat => u 0 = h0) (fun u t => va_P G.1 clX (uw 47 u (shX (G.1, u, G.2.2)) (fun _ _ => 0)) t.heap ∧ va_D (va_A [(h0, .inr (0, [.null, .null, .null, .null, .int 0, .int 0, .int 0, .int 0, .int 0]))] sz) (uw 47 u (shX (G.1, u, G.2.2)) (fun _ _ => 0))) (va_A [(h0, .inr (0, [.null, .null, .null, .null, .int 0, .int 0, .int 0, .int 0, .int 0]))] sz)) 46 18330 (va_A [(h0, .inr (0, [.null, .null, .null, .null, .int 0, .int 0, .int 0, .int 0, .int 0]))] sz) := by
  refine u_start [.ref h0] (by decide) (Nat.le_of_ble_eq_true rfl) ?_
  intro p_ e_ s_ m_ bl_ me_ c_ ls S hr hlk hin hl hB
  have hl : lv_has ls 2 [(0, .ref h0)] := hl
  obtain ⟨hsz, hP, ⟨hK, hN⟩, hD0⟩ := hB
  subst hsz
  have hD := hD0.self (sz := s_.heap.size)
  generalize hAe : va_A [(h0, .inr (0, [.null, .null, .null, .null, .int 0, .int 0, .int 0, .int 0, .int 0]))] s_.heap.size = A at hD ⊢
  have hA : ∀ q : Nat, s_.heap.size ≤ q → A q := fun q h => by rw [← hAe]; exact Or.inr h
  have hS : va_S A s_.heap s_.heap [] := va_S.rf
  refine lv_aload_n S.1 S.2.1 d_Ds_init_0 rfl (lv_at hl 0 rfl) ?_
  refine W.objInit S.1 S.2.1 S.2.2.2.1 (S.2.2.2.2 _ lm_Ds_3) (S.2.2.2.2 _ li_Ob_init) (S.2.2.2.2 _ t_Ob_init) rfl (hl.1.trans S.2.2.1.symm) rfl d_Ds_init_1 (Nat.le_of_ble_eq_true rfl) (Nat.le_of_ble_eq_true rfl) ?_
  refine W.eq (g2 := F0 m_ 4 ls []) rfl ?_
  refine lv_aload_n S.1 S.2.1 d_Ds_init_4 rfl (lv_at hl 0 rfl) ?_
  refine lv_bipush (v := (24 : Int32)) S.1 S.2.1 d_Ds_init_5 (by decide) ?_
  refine i_newT S hK hP hD hS hA 2 rfl lc_Ds_9 hN.2.1 24 (by decide) (by decide) (by decide) (Nat.le_of_ble_eq_true rfl) (Nat.le_of_ble_eq_true rfl) d_Ds_init_7 (fun a1 H hP hD hS => ?_)
  have hP : va_P G.1 clX ([(h0, .inr (0, [.null, .null, .null, .null, .int 0, .int 0, .int 0, .int 0, .int 0])), (a1, .inl (G.2.2.2.2.1, 24, .inr (.inr (.inr (.inr (fun _ => none))))))]) H := hP
  have hD : va_D A ([(h0, .inr (0, [.null, .null, .null, .null, .int 0, .int 0, .int 0, .int 0, .int 0])), (a1, .inl (G.2.2.2.2.1, 24, .inr (.inr (.inr (.inr (fun _ => none))))))]) := hD
  refine W.widen (k := 1) (n := 24) (Nat.le_of_ble_eq_true rfl) (Nat.le_of_ble_eq_true rfl) ?_
  refine va_putF (D := G.1) (ci := 0) (v := .ref a1) (ty := ty_Ds 0) (C := "ClaimDesk") (T := T_Ds) (N := 9) S.1 S.2.1 S.2.2.2.2 in_Ds ty_Ds tk_Ds nm_Ds S.2.2.2.1 hK hP hD hS 0 rfl rfl 0 (by decide) (S.2.2.2.2 _ lf_Ds_11) (fun _ h9 => h9) rfl (hin rfl) rfl (by decide +kernel) rfl rfl (Nat.le_of_ble_eq_true rfl) d_Ds_init_10 (fun H locs hP hD hS => ?_)
  have en : (fun _ => none : Nat → Option Nat) = rfT (fun _ => 0) 0 := by funext j; exact (if_neg (Nat.not_lt_zero _)).symm
  rw [en] at hP hD
  refine lv_iconst (v := (0 : Int32)) S.1 S.2.1 d_Ds_init_13 (by decide) ?_
  refine lv_istore_n (lv' := [(1, .int (0 : Int32)), (0, .ref h0)]) S.1 S.2.1 d_Ds_init_14 rfl hl (by decide) rfl (fun ls hl => ?_)
  refine i_loop (σ := Nat × (Nat → Nat)) (fun x H locs ls cells slots => match x with | (i, at_) => i ≤ 24 ∧ va_P G.1 clX ((h0, .inr (0, [.ref a1, .null, .null, .null, .int 0, .int 0, .int 0, .int 0, .int 0])) :: (a1, .inl (G.2.2.2.2.1, 24, .inr (.inr (.inr (.inr (rfT at_ i)))))) :: tlE eT at_ i) H ∧ va_D A ((h0, .inr (0, [.ref a1, .null, .null, .null, .int 0, .int 0, .int 0, .int 0, .int 0])) :: (a1, .inl (G.2.2.2.2.1, 24, .inr (.inr (.inr (.inr (rfT at_ i)))))) :: tlE eT at_ i) ∧ va_S A s_.heap H locs ∧ (cells = 1 + i ∧ slots = 24 + 6 * i) ∧ lv_has ls 2 [(0, .ref h0), (1, .int (nI i))]) (fun x => match x with | (i, _) => 24 - i) ?_ (0, fun _ => 0) ⟨Nat.zero_le _, hP, hD, hS, ⟨rfl, rfl⟩, lv_sub hl [1, 0] rfl⟩
  intro x H locs ls cells slots hI ih1
  obtain ⟨i, at_⟩ := x
  obtain ⟨hi, hP, hD, hS, ⟨rfl, rfl⟩, hl⟩ := hI
  dsimp only at ih1
  refine lv_iload_n S.1 S.2.1 d_Ds_init_15 rfl (lv_at hl 1 rfl) ?_
  refine lv_bipush (v := (24 : Int32)) S.1 S.2.1 d_Ds_init_16 (by decide) ?_
  refine lv_icmp_ge (tgt := 40) S.1 S.2.1 d_Ds_init_18 (by decide) (fun c1 => ?_) (fun c1 => ?_)
  rotate_left
  · have hi2 : i < 24 := nlt (a := 24) c1 (by omega) (by omega)
    refine lv_aload_n S.1 S.2.1 d_Ds_init_21 rfl (lv_at hl 0 rfl) ?_
    refine va_get (D := G.1) (ci := 0) (v := .ref a1) (C := "ClaimDesk") (T := T_Ds) (N := 9) S.1 S.2.1 S.2.2.2.2 in_Ds S.2.2.2.1 hK hP 0 rfl rfl 0 (by decide) (S.2.2.2.2 _ lf_Ds_11) (fun _ h9 => h9) rfl d_Ds_init_22 ?_
    refine lv_iload_n S.1 S.2.1 d_Ds_init_25 rfl (lv_at hl 1 rfl) ?_
    refine va_new (ci := 1) (fs := [.int 0, .int 0, .int 0, .int 0, .int 0, .int 0]) (C := "ClaimDesk$Transition") (T := T_Tr) (N := 6) S.1 S.2.1 S.2.2.2.2 in_Tr ty_Tr tk_Tr S.2.2.2.1 (S.2.2.2.2 _ lc_Ds_9) (S.2.2.2.2 _ lx_Tr) (S.2.2.2.2 _ ln_Tr) hK hP hD hS hA rfl (fun j hj => by rcases (show j = 0 ∨ j = 1 ∨ j = 2 ∨ j = 3 ∨ j = 4 ∨ j = 5 by omega) with rfl | rfl | rfl | rfl | rfl | rfl <;> rfl) (by show 1 + i + 1 ≤ 46; omega) (by show 24 + 6 * i + 6 ≤ 18330; omega) d_Ds_init_26 (fun q H hP hD hS => ?_)
    have hP : va_P G.1 clX ((h0, .inr (0, [.ref a1, .null, .null, .null, .int 0, .int 0, .int 0, .int 0, .int 0])) :: (a1, .inl (G.2.2.2.2.1, 24, .inr (.inr (.inr (.inr (rfT at_ i)))))) :: (tlE eT at_ i ++ [(q, eT)])) H := hP
    have hD : va_D A ((h0, .inr (0, [.ref a1, .null, .null, .null, .int 0, .int 0, .int 0, .int 0, .int 0])) :: (a1, .inl (G.2.2.2.2.1, 24, .inr (.inr (.inr (.inr (rfT at_ i)))))) :: (tlE eT at_ i ++ [(q, eT)])) := hD
    rw [tl_succ] at hP hD
    refine lv_dup S.1 S.2.1 d_Ds_init_29 rfl ?_
    refine va_callv (va_runIN (As := []) (rest := [.ref q, .int (nI i), .ref a1]) S (c_Tr_init l q) ⟨u_cN S.2.2.2.2 t_Tr_init ln_Tr hN.1.1 hd_Tr_init rfl rfl ⟨(Nat.le_of_ble_eq_true rfl), (Nat.le_of_ble_eq_true rfl)⟩, rfl, S.2.2.2.2 _ li_Tr_init⟩ ⟨fun a U g mk q => ⟨q.1, trivial⟩, fun _ _ _ => ⟨rfl, trivial⟩⟩ rfl rfl hl.1 rfl (lv_room (Nat.le_of_ble_eq_true rfl)) d_Ds_init_30 ⟨by show 1 + i + 1 + 0 ≤ 46; omega, by show 24 + 6 * i + 6 + 0 ≤ 18330; omega⟩) hS (fun q _ h => h.elim) (fun q h => h.elim) (fun u t H1 locs ht hvm hp hB hz1 hk1 hS => ?_)
    have hP := hP.kept (fun k y hy => hk1 y.1 ((hP k y hy).lt) (fun z => z))
    generalize H1 = H at hP hS ⊢
    refine va_astq S.1 S.2.1 hK hP hD hS 1 2 (i + 2) 1 (r := ("ClaimDesk$Transition", T_Tr, 6)) (v := q) (vs := [.int 0, .int 0, .int 0, .int 0, .int 0, .int 0]) rfl rfl (by show (tlE eT (va_up at_ i q) (i + 1))[i]? = _; rw [tl_last, show va_up at_ i q i = q from if_pos rfl]) rfl (vp_in_nI hi2 (by decide)) d_Ds_init_33 (fun H locs hP hD hS => ?_)
    have hP : va_P G.1 clX ((h0, .inr (0, [.ref a1, .null, .null, .null, .int 0, .int 0, .int 0, .int 0, .int 0])) :: (a1, .inl (G.2.2.2.2.1, 24, .inr (.inr (.inr (.inr (va_up (rfT at_ i) (nI i).toNatClampNeg (some q))))))) :: tlE eT (va_up at_ i q) (i + 1)) H := hP
    have hD : va_D A ((h0, .inr (0, [.ref a1, .null, .null, .null, .int 0, .int 0, .int 0, .int 0, .int 0])) :: (a1, .inl (G.2.2.2.2.1, 24, .inr (.inr (.inr (.inr (va_up (rfT at_ i) (nI i).toNatClampNeg (some q))))))) :: tlE eT (va_up at_ i q) (i + 1)) := hD
    rw [rfT_succ (by omega)] at hP hD
    refine lv_iinc (v := nI (i + 1)) (lv' := [(1, .int (nI (i + 1))), (0, .ref h0)]) S.1 S.2.1 d_Ds_init_34 hl (k := 1) rfl (nI_1 _) (by decide) rfl (fun ls hl => ?_)
    refine lv_goto (tgt := 15) S.1 S.2.1 d_Ds_init_37 (by decide) ?_
    exact ih1 (i + 1, va_up at_ i q) H locs ls _ _ (by omega) ⟨hi2, hP, hD, hS, ⟨by omega, by omega⟩, lv_sub hl [1, 0] rfl⟩
  · have hi2 : i = 24 := by have y := nle (a := 24) c1 (by omega) (by omega); omega
    subst hi2
    clear ih1
    refine lv_aload_n S.1 S.2.1 d_Ds_init_40 rfl (lv_at hl 0 rfl) ?_
    refine lv_bipush (v := (6 : Int32)) S.1 S.2.1 d_Ds_init_41 (by decide) ?_
    refine i_newT S hK hP hD hS hA 3 rfl lc_Ds_16 hN.2.2 6 (by decide) (by decide) (by decide) (Nat.le_of_ble_eq_true rfl) (Nat.le_of_ble_eq_true rfl) d_Ds_init_43 (fun a2 H hP hD hS => ?_)
    have pm : List.Perm ((h0, .inr (0, [.ref a1, .null, .null, .null, .int 0, .int 0, .int 0, .int 0, .int 0])) :: (a1, .inl (G.2.2.2.2.1, 24, .inr (.inr (.inr (.inr (rfT at_ 24)))))) :: (tlE eT at_ 24 ++ [(a2, .inl (G.2.2.2.2.2, 6, .inr (.inr (.inr (.inr (fun _ => none))))))])) ((h0, .inr (0, [.ref a1, .null, .null, .null, .int 0, .int 0, .int 0, .int 0, .int 0])) :: (a1, .inl (G.2.2.2.2.1, 24, .inr (.inr (.inr (.inr (rfT at_ 24)))))) :: (a2, .inl (G.2.2.2.2.2, 6, .inr (.inr (.inr (.inr (fun _ => none)))))) :: tlE eT at_ 24) := ((List.perm_append_comm (l₁ := tlE eT at_ 24) (l₂ := [(a2, .inl (G.2.2.2.2.2, 6, .inr (.inr (.inr (.inr (fun _ => none))))))])).cons _).cons _
    have hP : va_P G.1 clX ((h0, .inr (0, [.ref a1, .null, .null, .null, .int 0, .int 0, .int 0, .int 0, .int 0])) :: (a1, .inl (G.2.2.2.2.1, 24, .inr (.inr (.inr (.inr (rfT at_ 24)))))) :: (a2, .inl (G.2.2.2.2.2, 6, .inr (.inr (.inr (.inr (fun _ => none)))))) :: tlE eT at_ 24) H := P_perm pm hP
    have hD : va_D A ((h0, .inr (0, [.ref a1, .null, .null, .null, .int 0, .int 0, .int 0, .int 0, .int 0])) :: (a1, .inl (G.2.2.2.2.1, 24, .inr (.inr (.inr (.inr (rfT at_ 24)))))) :: (a2, .inl (G.2.2.2.2.2, 6, .inr (.inr (.inr (.inr (fun _ => none)))))) :: tlE eT at_ 24) := D_perm pm hD
    refine W.widen (k := 26) (n := 174) (Nat.le_of_ble_eq_true rfl) (Nat.le_of_ble_eq_true rfl) ?_
    refine va_putF (D := G.1) (ci := 0) (v := .ref a2) (ty := ty_Ds 1) (C := "ClaimDesk") (T := T_Ds) (N := 9) S.1 S.2.1 S.2.2.2.2 in_Ds ty_Ds tk_Ds nm_Ds S.2.2.2.1 hK hP hD hS 0 rfl rfl 1 (by decide) (S.2.2.2.2 _ lf_Ds_18) (fun _ h9 => h9) rfl (hin rfl) rfl (by decide +kernel) rfl rfl (Nat.le_of_ble_eq_true rfl) d_Ds_init_46 (fun H locs hP hD hS => ?_)
    rw [en] at hP hD
    refine lv_iconst (v := (0 : Int32)) S.1 S.2.1 d_Ds_init_49 (by decide) ?_
    refine lv_istore_n (lv' := [(1, .int (0 : Int32)), (0, .ref h0)]) S.1 S.2.1 d_Ds_init_50 rfl hl (by decide) rfl (fun ls hl => ?_)
    have ea : tlE eT at_ 24 = tlE eT at_ 24 ++ tlE eC (fun _ => 0) 0 := (List.append_nil _).symm
    rw [ea] at hP hD
    refine i_loop (σ := Nat × (Nat → Nat)) (fun x H locs ls cells slots => match x with | (i, ac) => i ≤ 6 ∧ va_P G.1 clX ((h0, .inr (0, [.ref a1, .ref a2, .null, .null, .int 0, .int 0, .int 0, .int 0, .int 0])) :: (a1, .inl (G.2.2.2.2.1, 24, .inr (.inr (.inr (.inr (rfT at_ 24)))))) :: (a2, .inl (G.2.2.2.2.2, 6, .inr (.inr (.inr (.inr (rfT ac i)))))) :: (tlE eT at_ 24 ++ tlE eC ac i)) H ∧ va_D A ((h0, .inr (0, [.ref a1, .ref a2, .null, .null, .int 0, .int 0, .int 0, .int 0, .int 0])) :: (a1, .inl (G.2.2.2.2.1, 24, .inr (.inr (.inr (.inr (rfT at_ 24)))))) :: (a2, .inl (G.2.2.2.2.2, 6, .inr (.inr (.inr (.inr (rfT ac i)))))) :: (tlE eT at_ 24 ++ tlE eC ac i)) ∧ va_S A s_.heap H locs ∧ (cells = 26 + i ∧ slots = 174 + 3 * i) ∧ lv_has ls 2 [(0, .ref h0), (1, .int (nI i))]) (fun x => match x with | (i, _) => 6 - i) ?_ (0, fun _ => 0) ⟨Nat.zero_le _, hP, hD, hS, ⟨rfl, rfl⟩, lv_sub hl [1, 0] rfl⟩
    intro x H locs ls cells slots hI ih2
    obtain ⟨i, ac⟩ := x
    obtain ⟨hi, hP, hD, hS, ⟨rfl, rfl⟩, hl⟩ := hI
    dsimp only at ih2
    refine lv_iload_n S.1 S.2.1 d_Ds_init_51 rfl (lv_at hl 1 rfl) ?_
    refine lv_bipush (v := (6 : Int32)) S.1 S.2.1 d_Ds_init_52 (by decide) ?_
    refine lv_icmp_ge (tgt := 76) S.1 S.2.1 d_Ds_init_54 (by decide) (fun c1 => ?_) (fun c1 => ?_)
    rotate_left
    · have hi2 : i < 6 := nlt (a := 6) c1 (by omega) (by omega)
      refine lv_aload_n S.1 S.2.1 d_Ds_init_57 rfl (lv_at hl 0 rfl) ?_
      refine va_get (D := G.1) (ci := 0) (v := .ref a2) (C := "ClaimDesk") (T := T_Ds) (N := 9) S.1 S.2.1 S.2.2.2.2 in_Ds S.2.2.2.1 hK hP 0 rfl rfl 1 (by decide) (S.2.2.2.2 _ lf_Ds_18) (fun _ h9 => h9) rfl d_Ds_init_58 ?_
      refine lv_iload_n S.1 S.2.1 d_Ds_init_61 rfl (lv_at hl 1 rfl) ?_
      refine va_new (ci := 2) (fs := [.int 0, .int 0, .int 0]) (C := "ClaimDesk$Claim") (T := T_Cm) (N := 3) S.1 S.2.1 S.2.2.2.2 in_Cm ty_Cm tk_Cm S.2.2.2.1 (S.2.2.2.2 _ lc_Ds_16) (S.2.2.2.2 _ lx_Cm) (S.2.2.2.2 _ ln_Cm) hK hP hD hS hA rfl (fun j hj => by rcases (show j = 0 ∨ j = 1 ∨ j = 2 by omega) with rfl | rfl | rfl <;> rfl) (by show 26 + i + 1 ≤ 46; omega) (by show 174 + 3 * i + 3 ≤ 18330; omega) d_Ds_init_62 (fun q H hP hD hS => ?_)
      have hP : va_P G.1 clX ((h0, .inr (0, [.ref a1, .ref a2, .null, .null, .int 0, .int 0, .int 0, .int 0, .int 0])) :: (a1, .inl (G.2.2.2.2.1, 24, .inr (.inr (.inr (.inr (rfT at_ 24)))))) :: (a2, .inl (G.2.2.2.2.2, 6, .inr (.inr (.inr (.inr (rfT ac i)))))) :: ((tlE eT at_ 24 ++ tlE eC ac i) ++ [(q, eC)])) H := hP
      have hD : va_D A ((h0, .inr (0, [.ref a1, .ref a2, .null, .null, .int 0, .int 0, .int 0, .int 0, .int 0])) :: (a1, .inl (G.2.2.2.2.1, 24, .inr (.inr (.inr (.inr (rfT at_ 24)))))) :: (a2, .inl (G.2.2.2.2.2, 6, .inr (.inr (.inr (.inr (rfT ac i)))))) :: ((tlE eT at_ 24 ++ tlE eC ac i) ++ [(q, eC)])) := hD
      rw [List.append_assoc, tl_succ] at hP hD
      refine lv_dup S.1 S.2.1 d_Ds_init_65 rfl ?_
      refine va_callv (va_runIN (As := []) (rest := [.ref q, .int (nI i), .ref a2]) S (c_Cm_init l q) ⟨u_cN S.2.2.2.2 t_Cm_init ln_Cm hN.1.2.1 hd_Cm_init rfl rfl ⟨(Nat.le_of_ble_eq_true rfl), (Nat.le_of_ble_eq_true rfl)⟩, rfl, S.2.2.2.2 _ li_Cm_init⟩ ⟨fun a U g mk q => ⟨q.1, trivial⟩, fun _ _ _ => ⟨rfl, trivial⟩⟩ rfl rfl hl.1 rfl (lv_room (Nat.le_of_ble_eq_true rfl)) d_Ds_init_66 ⟨by show 26 + i + 1 + 0 ≤ 46; omega, by show 174 + 3 * i + 3 + 0 ≤ 18330; omega⟩) hS (fun q _ h => h.elim) (fun q h => h.elim) (fun u t H1 locs ht hvm hp hB hz1 hk1 hS => ?_)
      have hP := hP.kept (fun k y hy => hk1 y.1 ((hP k y hy).lt) (fun z => z))
      generalize H1 = H at hP hS ⊢
      refine va_astq S.1 S.2.1 hK hP hD hS 2 3 (24 + i + 3) 2 (r := ("ClaimDesk$Claim", T_Cm, 3)) (v := q) (vs := [.int 0, .int 0, .int 0]) rfl rfl (by show (tlE eT at_ 24 ++ tlE eC (va_up ac i q) (i + 1))[24 + i]? = _; rw [List.getElem?_append_right (by simp [tlE]), show 24 + i - (tlE eT at_ 24).length = i by simp [tlE], tl_last, show va_up ac i q i = q from if_pos rfl]) rfl (vp_in_nI hi2 (by decide)) d_Ds_init_69 (fun H locs hP hD hS => ?_)
      have hP : va_P G.1 clX ((h0, .inr (0, [.ref a1, .ref a2, .null, .null, .int 0, .int 0, .int 0, .int 0, .int 0])) :: (a1, .inl (G.2.2.2.2.1, 24, .inr (.inr (.inr (.inr (rfT at_ 24)))))) :: (a2, .inl (G.2.2.2.2.2, 6, .inr (.inr (.inr (.inr (va_up (rfT ac i) (nI i).toNatClampNeg (some q))))))) :: (tlE eT at_ 24 ++ tlE eC (va_up ac i q) (i + 1))) H := hP
      have hD : va_D A ((h0, .inr (0, [.ref a1, .ref a2, .null, .null, .int 0, .int 0, .int 0, .int 0, .int 0])) :: (a1, .inl (G.2.2.2.2.1, 24, .inr (.inr (.inr (.inr (rfT at_ 24)))))) :: (a2, .inl (G.2.2.2.2.2, 6, .inr (.inr (.inr (.inr (va_up (rfT ac i) (nI i).toNatClampNeg (some q))))))) :: (tlE eT at_ 24 ++ tlE eC (va_up ac i q) (i + 1))) := hD
      rw [rfT_succ (by omega)] at hP hD
      refine lv_iinc (v := nI (i + 1)) (lv' := [(1, .int (nI (i + 1))), (0, .ref h0)]) S.1 S.2.1 d_Ds_init_70 hl (k := 1) rfl (nI_1 _) (by decide) rfl (fun ls hl => ?_)
      refine lv_goto (tgt := 51) S.1 S.2.1 d_Ds_init_73 (by decide) ?_
      exact ih2 (i + 1, va_up ac i q) H locs ls _ _ (by omega) ⟨hi2, hP, hD, hS, ⟨by omega, by omega⟩, lv_sub hl [1, 0] rfl⟩
    · have hi2 : i = 6 := by have y := nle (a := 6) c1 (by omega) (by omega); omega
      subst hi2
      clear ih2
      refine lv_aload_n S.1 S.2.1 d_Ds_init_76 rfl (lv_at hl 0 rfl) ?_
      refine va_new (ci := 3) (fs := [.null, .null, .null, .null, .null, .null, .null, .null, .null, .int 0]) (C := "ClaimDesk$Space") (T := T_Sp) (N := 10) S.1 S.2.1 S.2.2.2.2 in_Sp ty_Sp tk_Sp S.2.2.2.1 (S.2.2.2.2 _ lc_Ds_23) (S.2.2.2.2 _ lx_Sp) (S.2.2.2.2 _ ln_Sp) hK hP hD hS hA rfl (fun j hj => by rcases (show j = 0 ∨ j = 1 ∨ j = 2 ∨ j = 3 ∨ j = 4 ∨ j = 5 ∨ j = 6 ∨ j = 7 ∨ j = 8 ∨ j = 9 by omega) with rfl | rfl | rfl | rfl | rfl | rfl | rfl | rfl | rfl | rfl <;> rfl) (Nat.le_of_ble_eq_true rfl) (Nat.le_of_ble_eq_true rfl) d_Ds_init_77 (fun qs H hP hD hS => ?_)
      have hP : va_P G.1 clX (((h0, .inr (0, [.ref a1, .ref a2, .null, .null, .int 0, .int 0, .int 0, .int 0, .int 0])) :: (a1, .inl (G.2.2.2.2.1, 24, .inr (.inr (.inr (.inr (rfT at_ 24)))))) :: (a2, .inl (G.2.2.2.2.2, 6, .inr (.inr (.inr (.inr (rfT ac 6)))))) :: (tlE eT at_ 24 ++ tlE eC ac 6)) ++ [(qs, .inr (3, [.null, .null, .null, .null, .null, .null, .null, .null, .null, .int 0]))]) H := hP
      have hD : va_D A (((h0, .inr (0, [.ref a1, .ref a2, .null, .null, .int 0, .int 0, .int 0, .int 0, .int 0])) :: (a1, .inl (G.2.2.2.2.1, 24, .inr (.inr (.inr (.inr (rfT at_ 24)))))) :: (a2, .inl (G.2.2.2.2.2, 6, .inr (.inr (.inr (.inr (rfT ac 6)))))) :: (tlE eT at_ 24 ++ tlE eC ac 6)) ++ [(qs, .inr (3, [.null, .null, .null, .null, .null, .null, .null, .null, .null, .int 0]))]) := hD
      refine W.widen (k := 33) (n := 202) (Nat.le_of_ble_eq_true rfl) (Nat.le_of_ble_eq_true rfl) ?_
      refine lv_dup S.1 S.2.1 d_Ds_init_80 rfl ?_
      have hPc := P_last hP
      have hFc := A_one (ec := .inr (3, [.null, .null, .null, .null, .null, .null, .null, .null, .null, .int 0])) (D_last hD) hS hA
      refine va_callv (va_runIN (As := []) (rest := [.ref qs, .ref h0]) S (c_Sp_init l G qs H.size) ⟨u_cN S.2.2.2.2 t_Sp_init ln_Sp hN.1.2.2.1 hd_Sp_init rfl rfl ⟨(Nat.le_of_ble_eq_true rfl), (Nat.le_of_ble_eq_true rfl)⟩, rfl, S.2.2.2.2 _ li_Sp_init⟩ ⟨fun a U g mk q => by obtain ⟨q0, q1, qP, qK, qD⟩ := q; exact ⟨q0, q1, qP, va_K.moved (u := U) (U := U.calling g mk a) (Vm.Alike.refl U.vm) qK, qD⟩, fun U hU hW => ⟨rfl, by rw [hU], by rw [hU]; exact hPc, va_K.moved hW.alike hK, D_one⟩⟩ rfl rfl hl.1 rfl (lv_room (Nat.le_of_ble_eq_true rfl)) d_Ds_init_81 ⟨(Nat.le_of_ble_eq_true rfl), (Nat.le_of_ble_eq_true rfl)⟩) hS (fun q _ h => hFc q h) hFc (fun us t H1 locs ht hvm hp hB hz1 hk1 hS => ?_)
      obtain ⟨hP1, hD1⟩ := hB
      rw [ht] at hP1
      obtain ⟨hP, hD⟩ := i_join hP hD hk1 hFc hP1 hD1
      generalize H1 = H at hP hS ⊢
      have hP : va_P G.1 clX ((h0, .inr (0, [.ref a1, .ref a2, .null, .null, .int 0, .int 0, .int 0, .int 0, .int 0])) :: (a1, .inl (G.2.2.2.2.1, 24, .inr (.inr (.inr (.inr (rfT at_ 24)))))) :: (a2, .inl (G.2.2.2.2.2, 6, .inr (.inr (.inr (.inr (rfT ac 6)))))) :: ((tlE eT at_ 24 ++ tlE eC ac 6) ++ [(qs, .inr (3, [.ref (us 0), .ref (us 1), .ref (us 2), .ref (us 3), .ref (us 4), .ref (us 5), .ref (us 6), .ref (us 7), .ref (us 8), .int 0])), (us 0, .inl (G.2.2.1, 300, .inl (fun _ => 0))), (us 1, .inl (G.2.2.1, 300, .inl (fun _ => 0))), (us 2, .inl (G.2.2.1, 300, .inl (fun _ => 0))), (us 3, .inl (G.2.2.1, 300, .inl (fun _ => 0))), (us 4, .inl (G.2.2.1, 300, .inl (fun _ => 0))), (us 5, .inl (G.2.2.1, 7200, .inl (fun _ => 0))), (us 6, .inl (G.2.2.1, 300, .inl (fun _ => 0))), (us 7, .inl (G.2.2.1, 7200, .inl (fun _ => 0))), (us 8, .inl (G.2.2.1, 1024, .inl (fun _ => 0)))])) H := hP
      have hD : va_D A ((h0, .inr (0, [.ref a1, .ref a2, .null, .null, .int 0, .int 0, .int 0, .int 0, .int 0])) :: (a1, .inl (G.2.2.2.2.1, 24, .inr (.inr (.inr (.inr (rfT at_ 24)))))) :: (a2, .inl (G.2.2.2.2.2, 6, .inr (.inr (.inr (.inr (rfT ac 6)))))) :: ((tlE eT at_ 24 ++ tlE eC ac 6) ++ [(qs, .inr (3, [.ref (us 0), .ref (us 1), .ref (us 2), .ref (us 3), .ref (us 4), .ref (us 5), .ref (us 6), .ref (us 7), .ref (us 8), .int 0])), (us 0, .inl (G.2.2.1, 300, .inl (fun _ => 0))), (us 1, .inl (G.2.2.1, 300, .inl (fun _ => 0))), (us 2, .inl (G.2.2.1, 300, .inl (fun _ => 0))), (us 3, .inl (G.2.2.1, 300, .inl (fun _ => 0))), (us 4, .inl (G.2.2.1, 300, .inl (fun _ => 0))), (us 5, .inl (G.2.2.1, 7200, .inl (fun _ => 0))), (us 6, .inl (G.2.2.1, 300, .inl (fun _ => 0))), (us 7, .inl (G.2.2.1, 7200, .inl (fun _ => 0))), (us 8, .inl (G.2.2.1, 1024, .inl (fun _ => 0)))])) := hD
      refine W.widen (k := 42) (n := 17426) (Nat.le_of_ble_eq_true rfl) (Nat.le_of_ble_eq_true rfl) ?_
      refine va_putF (D := G.1) (ci := 0) (v := .ref qs) (ty := ty_Ds 2) (C := "ClaimDesk") (T := T_Ds) (N := 9) S.1 S.2.1 S.2.2.2.2 in_Ds ty_Ds tk_Ds nm_Ds S.2.2.2.1 hK hP hD hS 0 rfl rfl 2 (by decide) (S.2.2.2.2 _ lf_Ds_26) (fun _ h9 => h9) rfl (hin rfl) rfl (by decide +kernel) rfl rfl (Nat.le_of_ble_eq_true rfl) d_Ds_init_84 (fun H locs hP hD hS => ?_)
      have hP : va_P G.1 clX ((h0, .inr (0, [.ref a1, .ref a2, .ref qs, .null, .int 0, .int 0, .int 0, .int 0, .int 0])) :: (a1, .inl (G.2.2.2.2.1, 24, .inr (.inr (.inr (.inr (rfT at_ 24)))))) :: (a2, .inl (G.2.2.2.2.2, 6, .inr (.inr (.inr (.inr (rfT ac 6)))))) :: ((tlE eT at_ 24 ++ tlE eC ac 6) ++ [(qs, .inr (3, [.ref (us 0), .ref (us 1), .ref (us 2), .ref (us 3), .ref (us 4), .ref (us 5), .ref (us 6), .ref (us 7), .ref (us 8), .int 0])), (us 0, .inl (G.2.2.1, 300, .inl (fun _ => 0))), (us 1, .inl (G.2.2.1, 300, .inl (fun _ => 0))), (us 2, .inl (G.2.2.1, 300, .inl (fun _ => 0))), (us 3, .inl (G.2.2.1, 300, .inl (fun _ => 0))), (us 4, .inl (G.2.2.1, 300, .inl (fun _ => 0))), (us 5, .inl (G.2.2.1, 7200, .inl (fun _ => 0))), (us 6, .inl (G.2.2.1, 300, .inl (fun _ => 0))), (us 7, .inl (G.2.2.1, 7200, .inl (fun _ => 0))), (us 8, .inl (G.2.2.1, 1024, .inl (fun _ => 0)))])) H := hP
      have hD : va_D A ((h0, .inr (0, [.ref a1, .ref a2, .ref qs, .null, .int 0, .int 0, .int 0, .int 0, .int 0])) :: (a1, .inl (G.2.2.2.2.1, 24, .inr (.inr (.inr (.inr (rfT at_ 24)))))) :: (a2, .inl (G.2.2.2.2.2, 6, .inr (.inr (.inr (.inr (rfT ac 6)))))) :: ((tlE eT at_ 24 ++ tlE eC ac 6) ++ [(qs, .inr (3, [.ref (us 0), .ref (us 1), .ref (us 2), .ref (us 3), .ref (us 4), .ref (us 5), .ref (us 6), .ref (us 7), .ref (us 8), .int 0])), (us 0, .inl (G.2.2.1, 300, .inl (fun _ => 0))), (us 1, .inl (G.2.2.1, 300, .inl (fun _ => 0))), (us 2, .inl (G.2.2.1, 300, .inl (fun _ => 0))), (us 3, .inl (G.2.2.1, 300, .inl (fun _ => 0))), (us 4, .inl (G.2.2.1, 300, .inl (fun _ => 0))), (us 5, .inl (G.2.2.1, 7200, .inl (fun _ => 0))), (us 6, .inl (G.2.2.1, 300, .inl (fun _ => 0))), (us 7, .inl (G.2.2.1, 7200, .inl (fun _ => 0))), (us 8, .inl (G.2.2.1, 1024, .inl (fun _ => 0)))])) := hD
      refine lv_aload_n S.1 S.2.1 d_Ds_init_87 rfl (lv_at hl 0 rfl) ?_
      refine va_new (ci := 4) (fs := [.null, .null, .null, .int 0]) (C := "ClaimDesk$Avoidance") (T := T_Av) (N := 4) S.1 S.2.1 S.2.2.2.2 in_Av ty_Av tk_Av S.2.2.2.1 (S.2.2.2.2 _ lc_Ds_30) (S.2.2.2.2 _ lx_Av) (S.2.2.2.2 _ ln_Av) hK hP hD hS hA rfl (fun j hj => by rcases (show j = 0 ∨ j = 1 ∨ j = 2 ∨ j = 3 by omega) with rfl | rfl | rfl | rfl <;> rfl) (Nat.le_of_ble_eq_true rfl) (Nat.le_of_ble_eq_true rfl) d_Ds_init_88 (fun qv H hP hD hS => ?_)
      have hP : va_P G.1 clX (((h0, .inr (0, [.ref a1, .ref a2, .ref qs, .null, .int 0, .int 0, .int 0, .int 0, .int 0])) :: (a1, .inl (G.2.2.2.2.1, 24, .inr (.inr (.inr (.inr (rfT at_ 24)))))) :: (a2, .inl (G.2.2.2.2.2, 6, .inr (.inr (.inr (.inr (rfT ac 6)))))) :: ((tlE eT at_ 24 ++ tlE eC ac 6) ++ [(qs, .inr (3, [.ref (us 0), .ref (us 1), .ref (us 2), .ref (us 3), .ref (us 4), .ref (us 5), .ref (us 6), .ref (us 7), .ref (us 8), .int 0])), (us 0, .inl (G.2.2.1, 300, .inl (fun _ => 0))), (us 1, .inl (G.2.2.1, 300, .inl (fun _ => 0))), (us 2, .inl (G.2.2.1, 300, .inl (fun _ => 0))), (us 3, .inl (G.2.2.1, 300, .inl (fun _ => 0))), (us 4, .inl (G.2.2.1, 300, .inl (fun _ => 0))), (us 5, .inl (G.2.2.1, 7200, .inl (fun _ => 0))), (us 6, .inl (G.2.2.1, 300, .inl (fun _ => 0))), (us 7, .inl (G.2.2.1, 7200, .inl (fun _ => 0))), (us 8, .inl (G.2.2.1, 1024, .inl (fun _ => 0)))])) ++ [(qv, .inr (4, [.null, .null, .null, .int 0]))]) H := hP
      have hD : va_D A (((h0, .inr (0, [.ref a1, .ref a2, .ref qs, .null, .int 0, .int 0, .int 0, .int 0, .int 0])) :: (a1, .inl (G.2.2.2.2.1, 24, .inr (.inr (.inr (.inr (rfT at_ 24)))))) :: (a2, .inl (G.2.2.2.2.2, 6, .inr (.inr (.inr (.inr (rfT ac 6)))))) :: ((tlE eT at_ 24 ++ tlE eC ac 6) ++ [(qs, .inr (3, [.ref (us 0), .ref (us 1), .ref (us 2), .ref (us 3), .ref (us 4), .ref (us 5), .ref (us 6), .ref (us 7), .ref (us 8), .int 0])), (us 0, .inl (G.2.2.1, 300, .inl (fun _ => 0))), (us 1, .inl (G.2.2.1, 300, .inl (fun _ => 0))), (us 2, .inl (G.2.2.1, 300, .inl (fun _ => 0))), (us 3, .inl (G.2.2.1, 300, .inl (fun _ => 0))), (us 4, .inl (G.2.2.1, 300, .inl (fun _ => 0))), (us 5, .inl (G.2.2.1, 7200, .inl (fun _ => 0))), (us 6, .inl (G.2.2.1, 300, .inl (fun _ => 0))), (us 7, .inl (G.2.2.1, 7200, .inl (fun _ => 0))), (us 8, .inl (G.2.2.1, 1024, .inl (fun _ => 0)))])) ++ [(qv, .inr (4, [.null, .null, .null, .int 0]))]) := hD
      refine W.widen (k := 43) (n := 17430) (Nat.le_of_ble_eq_true rfl) (Nat.le_of_ble_eq_true rfl) ?_
      refine lv_dup S.1 S.2.1 d_Ds_init_91 rfl ?_
      have hPc := P_last hP
      have hFc := A_one (ec := .inr (4, [.null, .null, .null, .int 0])) (D_last hD) hS hA
      refine va_callv (va_runIN (As := []) (rest := [.ref qv, .ref h0]) S (c_Av_init l G qv H.size) ⟨u_cN S.2.2.2.2 t_Av_init ln_Av hN.1.2.2.2 hd_Av_init rfl rfl ⟨(Nat.le_of_ble_eq_true rfl), (Nat.le_of_ble_eq_true rfl)⟩, rfl, S.2.2.2.2 _ li_Av_init⟩ ⟨fun a U g mk q => by obtain ⟨q0, q1, qP, qK, qD⟩ := q; exact ⟨q0, q1, qP, va_K.moved (u := U) (U := U.calling g mk a) (Vm.Alike.refl U.vm) qK, qD⟩, fun U hU hW => ⟨rfl, by rw [hU], by rw [hU]; exact hPc, va_K.moved hW.alike hK, D_one⟩⟩ rfl rfl hl.1 rfl (lv_room (Nat.le_of_ble_eq_true rfl)) d_Ds_init_92 ⟨(Nat.le_of_ble_eq_true rfl), (Nat.le_of_ble_eq_true rfl)⟩) hS (fun q _ h => hFc q h) hFc (fun uv t H1 locs ht hvm hp hB hz1 hk1 hS => ?_)
      obtain ⟨hP1, hD1⟩ := hB
      rw [ht] at hP1
      obtain ⟨hP, hD⟩ := i_join hP hD hk1 hFc hP1 hD1
      generalize H1 = H at hP hS ⊢
      have hP : va_P G.1 clX ((h0, .inr (0, [.ref a1, .ref a2, .ref qs, .null, .int 0, .int 0, .int 0, .int 0, .int 0])) :: (a1, .inl (G.2.2.2.2.1, 24, .inr (.inr (.inr (.inr (rfT at_ 24)))))) :: (a2, .inl (G.2.2.2.2.2, 6, .inr (.inr (.inr (.inr (rfT ac 6)))))) :: (((tlE eT at_ 24 ++ tlE eC ac 6) ++ [(qs, .inr (3, [.ref (us 0), .ref (us 1), .ref (us 2), .ref (us 3), .ref (us 4), .ref (us 5), .ref (us 6), .ref (us 7), .ref (us 8), .int 0])), (us 0, .inl (G.2.2.1, 300, .inl (fun _ => 0))), (us 1, .inl (G.2.2.1, 300, .inl (fun _ => 0))), (us 2, .inl (G.2.2.1, 300, .inl (fun _ => 0))), (us 3, .inl (G.2.2.1, 300, .inl (fun _ => 0))), (us 4, .inl (G.2.2.1, 300, .inl (fun _ => 0))), (us 5, .inl (G.2.2.1, 7200, .inl (fun _ => 0))), (us 6, .inl (G.2.2.1, 300, .inl (fun _ => 0))), (us 7, .inl (G.2.2.1, 7200, .inl (fun _ => 0))), (us 8, .inl (G.2.2.1, 1024, .inl (fun _ => 0)))]) ++ [(qv, .inr (4, [.ref (uv 0), .ref (uv 1), .ref (uv 2), .int 0])), (uv 0, .inl (G.2.2.2.1, 300, .inl (fun _ => 0))), (uv 1, .inl (G.2.2.1, 300, .inl (fun _ => 0))), (uv 2, .inl (G.2.2.1, 300, .inl (fun _ => 0)))])) H := hP
      have hD : va_D A ((h0, .inr (0, [.ref a1, .ref a2, .ref qs, .null, .int 0, .int 0, .int 0, .int 0, .int 0])) :: (a1, .inl (G.2.2.2.2.1, 24, .inr (.inr (.inr (.inr (rfT at_ 24)))))) :: (a2, .inl (G.2.2.2.2.2, 6, .inr (.inr (.inr (.inr (rfT ac 6)))))) :: (((tlE eT at_ 24 ++ tlE eC ac 6) ++ [(qs, .inr (3, [.ref (us 0), .ref (us 1), .ref (us 2), .ref (us 3), .ref (us 4), .ref (us 5), .ref (us 6), .ref (us 7), .ref (us 8), .int 0])), (us 0, .inl (G.2.2.1, 300, .inl (fun _ => 0))), (us 1, .inl (G.2.2.1, 300, .inl (fun _ => 0))), (us 2, .inl (G.2.2.1, 300, .inl (fun _ => 0))), (us 3, .inl (G.2.2.1, 300, .inl (fun _ => 0))), (us 4, .inl (G.2.2.1, 300, .inl (fun _ => 0))), (us 5, .inl (G.2.2.1, 7200, .inl (fun _ => 0))), (us 6, .inl (G.2.2.1, 300, .inl (fun _ => 0))), (us 7, .inl (G.2.2.1, 7200, .inl (fun _ => 0))), (us 8, .inl (G.2.2.1, 1024, .inl (fun _ => 0)))]) ++ [(qv, .inr (4, [.ref (uv 0), .ref (uv 1), .ref (uv 2), .int 0])), (uv 0, .inl (G.2.2.2.1, 300, .inl (fun _ => 0))), (uv 1, .inl (G.2.2.1, 300, .inl (fun _ => 0))), (uv 2, .inl (G.2.2.1, 300, .inl (fun _ => 0)))])) := hD
      refine W.widen (k := 46) (n := 18330) (Nat.le_of_ble_eq_true rfl) (Nat.le_of_ble_eq_true rfl) ?_
      refine va_putF (D := G.1) (ci := 0) (v := .ref qv) (ty := ty_Ds 3) (C := "ClaimDesk") (T := T_Ds) (N := 9) S.1 S.2.1 S.2.2.2.2 in_Ds ty_Ds tk_Ds nm_Ds S.2.2.2.1 hK hP hD hS 0 rfl rfl 3 (by decide) (S.2.2.2.2 _ lf_Ds_33) (fun _ h9 => h9) rfl (hin rfl) rfl (by decide +kernel) rfl rfl (Nat.le_of_ble_eq_true rfl) d_Ds_init_95 (fun H locs hP hD hS => ?_)
      have hP : va_P G.1 clX ((h0, .inr (0, [.ref a1, .ref a2, .ref qs, .ref qv, .int 0, .int 0, .int 0, .int 0, .int 0])) :: (a1, .inl (G.2.2.2.2.1, 24, .inr (.inr (.inr (.inr (rfT at_ 24)))))) :: (a2, .inl (G.2.2.2.2.2, 6, .inr (.inr (.inr (.inr (rfT ac 6)))))) :: (((tlE eT at_ 24 ++ tlE eC ac 6) ++ [(qs, .inr (3, [.ref (us 0), .ref (us 1), .ref (us 2), .ref (us 3), .ref (us 4), .ref (us 5), .ref (us 6), .ref (us 7), .ref (us 8), .int 0])), (us 0, .inl (G.2.2.1, 300, .inl (fun _ => 0))), (us 1, .inl (G.2.2.1, 300, .inl (fun _ => 0))), (us 2, .inl (G.2.2.1, 300, .inl (fun _ => 0))), (us 3, .inl (G.2.2.1, 300, .inl (fun _ => 0))), (us 4, .inl (G.2.2.1, 300, .inl (fun _ => 0))), (us 5, .inl (G.2.2.1, 7200, .inl (fun _ => 0))), (us 6, .inl (G.2.2.1, 300, .inl (fun _ => 0))), (us 7, .inl (G.2.2.1, 7200, .inl (fun _ => 0))), (us 8, .inl (G.2.2.1, 1024, .inl (fun _ => 0)))]) ++ [(qv, .inr (4, [.ref (uv 0), .ref (uv 1), .ref (uv 2), .int 0])), (uv 0, .inl (G.2.2.2.1, 300, .inl (fun _ => 0))), (uv 1, .inl (G.2.2.1, 300, .inl (fun _ => 0))), (uv 2, .inl (G.2.2.1, 300, .inl (fun _ => 0)))])) H := hP
      have hD : va_D A ((h0, .inr (0, [.ref a1, .ref a2, .ref qs, .ref qv, .int 0, .int 0, .int 0, .int 0, .int 0])) :: (a1, .inl (G.2.2.2.2.1, 24, .inr (.inr (.inr (.inr (rfT at_ 24)))))) :: (a2, .inl (G.2.2.2.2.2, 6, .inr (.inr (.inr (.inr (rfT ac 6)))))) :: (((tlE eT at_ 24 ++ tlE eC ac 6) ++ [(qs, .inr (3, [.ref (us 0), .ref (us 1), .ref (us 2), .ref (us 3), .ref (us 4), .ref (us 5), .ref (us 6), .ref (us 7), .ref (us 8), .int 0])), (us 0, .inl (G.2.2.1, 300, .inl (fun _ => 0))), (us 1, .inl (G.2.2.1, 300, .inl (fun _ => 0))), (us 2, .inl (G.2.2.1, 300, .inl (fun _ => 0))), (us 3, .inl (G.2.2.1, 300, .inl (fun _ => 0))), (us 4, .inl (G.2.2.1, 300, .inl (fun _ => 0))), (us 5, .inl (G.2.2.1, 7200, .inl (fun _ => 0))), (us 6, .inl (G.2.2.1, 300, .inl (fun _ => 0))), (us 7, .inl (G.2.2.1, 7200, .inl (fun _ => 0))), (us 8, .inl (G.2.2.1, 1024, .inl (fun _ => 0)))]) ++ [(qv, .inr (4, [.ref (uv 0), .ref (uv 1), .ref (uv 2), .int 0])), (uv 0, .inl (G.2.2.2.1, 300, .inl (fun _ => 0))), (uv 1, .inl (G.2.2.1, 300, .inl (fun _ => 0))), (uv 2, .inl (G.2.2.1, 300, .inl (fun _ => 0)))])) := hD
      exact W.vret S.1 S.2.1 hr (fun t ht hW => ⟨⟨adX h0 a1 a2 qs qv us uv at_ ac, rfl, rfl, by rw [ht]; exact (fin_X hP hD).1, (fin_X hP hD).2⟩, hS.F ht⟩) hS.2.2 d_Ds_init_98 hlk
