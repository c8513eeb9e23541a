def bt (x : Int32) (i : Nat) : Bool := x.toBitVec.getLsbD i
theorem b_ext {x y : Int32} (h : ∀ i, i < 32 → bt x i = bt y i) : x = y := Int32.toBitVec_inj.mp (BitVec.eq_of_getLsbD_eq (fun i hi => h i hi))
theorem b_or (x y : Int32) (i : Nat) : bt (x ||| y) i = (bt x i || bt y i) := by unfold bt; rw [Int32.toBitVec_or, BitVec.getLsbD_or]
theorem b_and (x y : Int32) (i : Nat) : bt (x &&& y) i = (bt x i && bt y i) := by unfold bt; rw [Int32.toBitVec_and, BitVec.getLsbD_and]
theorem b_xor (x y : Int32) (i : Nat) : bt (x ^^^ y) i = (bt x i ^^ bt y i) := by unfold bt; rw [Int32.toBitVec_xor, BitVec.getLsbD_xor]
theorem b_big {x : Int32} {i : Nat} (h : 32 ≤ i) : bt x i = false := BitVec.getLsbD_of_ge _ _ h
theorem b_255 (i : Nat) : bt 255 i = decide (i < 8) := by
  rcases Nat.lt_or_ge i 32 with h | h
  · exact (by decide +kernel : ∀ i, i < 32 → bt 255 i = decide (i < 8)) i h
  · rw [b_big h, decide_eq_false (by omega)]
theorem b_65535 (i : Nat) : bt 65535 i = decide (i < 16) := by
  rcases Nat.lt_or_ge i 32 with h | h
  · exact (by decide +kernel : ∀ i, i < 32 → bt 65535 i = decide (i < 16)) i h
  · rw [b_big h, decide_eq_false (by omega)]
theorem b_m1 : ∀ i, i < 32 → bt (-1) i = true := by decide +kernel
theorem b_0 (i : Nat) : bt 0 i = false := BitVec.getLsbD_zero
theorem s_l : ∀ n, n < 32 → ((nI n &&& 31).toBitVec.smod 32).toNat = n := by decide +kernel
theorem s_u : ∀ n, n < 32 → (((nI n).toUInt32 &&& Int32.toUInt32 31).toBitVec % 32).toNat = n := by decide +kernel
theorem b_shl (n : Nat) (hn : n < 32) (x : Int32) {i : Nat} (hi : i < 32) : bt (x <<< (nI n &&& 31)) i = (decide (n ≤ i) && bt x (i - n)) := by
  unfold bt
  rw [Int32.toBitVec_shiftLeft]
  show (x.toBitVec <<< ((nI n &&& 31).toBitVec.smod 32).toNat).getLsbD i = _
  rw [s_l n hn, BitVec.getLsbD_shiftLeft]
  rcases Nat.lt_or_ge i n with h | h
  · simp [h, Nat.not_le.mpr h]
  · simp [hi, h, Nat.not_lt.mpr h]
theorem b_ushr (n : Nat) (hn : n < 32) (x : Int32) (i : Nat) : bt ((x.toUInt32 >>> ((nI n).toUInt32 &&& Int32.toUInt32 31)).toInt32) i = bt x (n + i) := by
  show (x.toUInt32 >>> ((nI n).toUInt32 &&& Int32.toUInt32 31)).toBitVec.getLsbD i = x.toUInt32.toBitVec.getLsbD (n + i)
  rw [UInt32.toBitVec_shiftRight]
  show (x.toUInt32.toBitVec >>> (((nI n).toUInt32 &&& Int32.toUInt32 31).toBitVec % 32).toNat).getLsbD i = _
  rw [s_u n hn, BitVec.getLsbD_ushiftRight]
theorem b_sshr (n : Nat) (hn : n < 32) (x : Int32) {i : Nat} (hi : i < 32) : bt (x >>> (nI n &&& 31)) i = if n + i < 32 then bt x (n + i) else bt x 31 := by
  unfold bt
  rw [Int32.toBitVec_shiftRight]
  show (x.toBitVec.sshiftRight ((nI n &&& 31).toBitVec.smod 32).toNat).getLsbD i = _
  rw [s_l n hn, BitVec.getLsbD_sshiftRight, BitVec.msb_eq_getLsbD_last]
  simp [hi]
theorem btN (n : Nat) {i : Nat} (hi : i < 32) : bt (nI n) i = n.testBit i := by
  show (BitVec.ofNat 32 n).getLsbD i = _
  rw [BitVec.getLsbD_ofNat, dt hi, Bool.true_and]
/-- the bits j to j + w - 1 of n are those of x -/
def pin (n x j w : Nat) : Nat := 2 ^ j * (2 ^ w * (n / 2 ^ (j + w)) + x) + n % 2 ^ j
theorem pin_bit {n x j w : Nat} (hx : x < 2 ^ w) (i : Nat) : (pin n x j w).testBit i = if i < j then n.testBit i else if i - j < w then x.testBit (i - j) else n.testBit i := by
  unfold pin
  rw [Nat.testBit_two_pow_mul_add _ (Nat.mod_lt _ (Nat.two_pow_pos j))]
  by_cases h : i < j
  · rw [if_pos h, if_pos h, Nat.testBit_mod_two_pow]; simp [h]
  · rw [if_neg h, if_neg h, Nat.testBit_two_pow_mul_add _ hx]
    by_cases h2 : i - j < w
    · rw [if_pos h2, if_pos h2]
    · rw [if_neg h2, if_neg h2, Nat.testBit_div_two_pow]
      congr 1
      omega
theorem pin_put {n x j w : Nat} (hx : x < 2 ^ w) (hj : j < 32) : ((nI n &&& ((nI (2 ^ w - 1) <<< (nI j &&& 31)) ^^^ (-1 : Int32))) ||| (nI x <<< (nI j &&& 31))) = nI (pin n x j w) := by
  apply b_ext
  intro i hi
  rw [b_or, b_and, b_xor, b_shl j hj _ hi, b_shl j hj _ hi, b_m1 i hi, btN n hi, btN _ hi, btN _ (by omega), btN _ (by omega), pin_bit hx, Nat.testBit_two_pow_sub_one]
  by_cases h : i < j
  · rw [if_pos h, df (by omega : ¬ j ≤ i)]; simp
  · rw [if_neg h, dt (by omega : j ≤ i)]
    by_cases h2 : i - j < w
    · rw [if_pos h2, dt h2]; simp
    · rw [if_neg h2, df h2, Nat.testBit_lt_two_pow (Nat.lt_of_lt_of_le hx (Nat.pow_le_pow_right (by decide) (by omega)))]; simp
theorem pin_or {n x j w : Nat} (hx : x < 2 ^ w) (hj : j < 32) (h0 : n / 2 ^ j % 2 ^ w = 0) : (nI n ||| (nI x <<< (nI j &&& 31))) = nI (pin n x j w) := by
  apply b_ext
  intro i hi
  rw [b_or, b_shl j hj _ hi, btN n hi, btN _ hi, btN _ (by omega), pin_bit hx]
  by_cases h : i < j
  · rw [if_pos h, df (by omega : ¬ j ≤ i)]; simp
  · rw [if_neg h, dt (by omega : j ≤ i)]
    by_cases h2 : i - j < w
    · have e : n.testBit i = false := by
        have h3 : (n / 2 ^ j % 2 ^ w).testBit (i - j) = false := by rw [h0]; exact Nat.zero_testBit _
        rw [Nat.testBit_mod_two_pow, Nat.testBit_div_two_pow, dt h2, show i - j + j = i by omega] at h3
        simpa using h3
      rw [if_pos h2, e]; simp
    · rw [if_neg h2, Nat.testBit_lt_two_pow (Nat.lt_of_lt_of_le hx (Nat.pow_le_pow_right (by decide) (by omega)))]; simp
theorem get_b {n j w : Nat} (hn : n < 2 ^ 31) (hj : j < 32) (hw : w ≤ 30) : (nI n >>> (nI j &&& 31)) &&& nI (2 ^ w - 1) = nI (n / 2 ^ j % 2 ^ w) := by
  have hp : 2 ^ w ≤ 2 ^ 30 := Nat.pow_le_pow_right (by decide) hw
  rw [pk_shrN hn _ j (s_l j hj)]
  exact pk_andN (Nat.lt_of_le_of_lt (Nat.div_le_self _ _) (by omega)) w (pk_tn (by omega))
/-! a state by its ten parts -/
def cok (c : Nat → Nat) : Prop := c 0 < 8 ∧ c 1 < 8 ∧ c 2 < 8 ∧ c 3 < 4 ∧ c 4 < 4 ∧ c 5 < 4 ∧ c 6 < 4 ∧ c 7 ≤ 2 ∧ c 8 < 4 ∧ c 9 < 4 ∧ (c 7 = 0 → c 8 = 0) ∧ (c 7 ≤ 1 → c 9 = 0)
def enX (c : Nat → Nat) : Nat := c 3 + 4 * c 4 + 16 * c 5 + 64 * c 6 + 256 * c 0 + 2048 * c 1 + 16384 * c 2 + 131072 * c 7 + 524288 * c 8 + 2097152 * c 9
def enM (c : Nat → Nat) : Nat := c 0 + 8 * c 1 + 64 * c 2 + 512 * c 3 + 2048 * c 4 + 8192 * c 5 + 32768 * c 6 + 131072 * c 7 + 524288 * c 8 + 2097152 * c 9
theorem enX_lt {c : Nat → Nat} (h : cok c) : enX c < 8388608 := by unfold cok at h; unfold enX; omega
theorem enM_lt {c : Nat → Nat} (h : cok c) : enM c < 8388608 := by unfold cok at h; unfold enM; omega
theorem cv_en {c : Nat → Nat} (h : cok c) : cvI (nI (enX c)) = nI (enM c) := by
  unfold cvI
  rw [pk_tn (by have := enX_lt h; omega)]
  congr 1
  unfold cok at h
  unfold cvN enX enM
  omega
theorem vst_of {c : Nat → Nat} (h : cok c) : vst (nI (enX c)) := by
  refine ⟨enX c, rfl, enX_lt h, ?_⟩
  unfold cok at h
  unfold enX
  omega
def dcm (m : Nat) : Nat → Nat := fun j => match j with | 0 => m / 256 % 8 | 1 => m / 2048 % 8 | 2 => m / 16384 % 8 | 3 => m % 4 | 4 => m / 4 % 4 | 5 => m / 16 % 4 | 6 => m / 64 % 4 | 7 => m / 131072 % 4 | 8 => m / 524288 % 4 | _ => m / 2097152 % 4
theorem vst_to {x : Int32} (h : vst x) : ∃ c, cok c ∧ x = nI (enX c) := by
  obtain ⟨m, rfl, hm, h⟩ := h
  have e0 : dcm m 0 = m / 256 % 8 := rfl
  have e1 : dcm m 1 = m / 2048 % 8 := rfl
  have e2 : dcm m 2 = m / 16384 % 8 := rfl
  have e3 : dcm m 3 = m % 4 := rfl
  have e4 : dcm m 4 = m / 4 % 4 := rfl
  have e5 : dcm m 5 = m / 16 % 4 := rfl
  have e6 : dcm m 6 = m / 64 % 4 := rfl
  have e7 : dcm m 7 = m / 131072 % 4 := rfl
  have e8 : dcm m 8 = m / 524288 % 4 := rfl
  have e9 : dcm m 9 = m / 2097152 % 4 := rfl
  refine ⟨dcm m, ?_, ?_⟩
  · unfold cok; omega
  · congr 1; unfold enX; omega
theorem cv_inj {x y : Int32} (hx : vst x) (hy : vst y) (h : cvI x = cvI y) : x = y := by
  obtain ⟨c, hc, rfl⟩ := vst_to hx
  obtain ⟨d, hd, rfl⟩ := vst_to hy
  rw [cv_en hc, cv_en hd] at h
  have e := (nI_eq (by have := enM_lt hc; omega) (by have := enM_lt hd; omega)).mp h
  congr 1
  unfold cok at hc hd
  unfold enM at e
  unfold enX
  omega
section EN
variable {c : Nat → Nat}
theorem up_s {f : Nat → Nat} {k v : Nat} : va_up f k v k = v := if_pos rfl
theorem up_n {f : Nat → Nat} {k v j : Nat} (h : j ≠ k) : va_up f k v j = f j := if_neg h
theorem m2 (v : Nat) : (2 : Int32) * nI v = nI (2 * v) := pk_mul 2 v
theorem m3 (v : Nat) : (3 : Int32) * nI v = nI (3 * v) := pk_mul 3 v
theorem p8 (v : Nat) : (8 : Int32) + nI v = nI (8 + v) := nI_add 8 v
theorem p9 (v : Nat) : (9 : Int32) + nI v = nI (9 + v) := nI_add 9 v
theorem p19 (v : Nat) : (19 : Int32) + nI v = nI (19 + v) := nI_add 19 v
theorem cs4 {P : Nat → Prop} (h0 : P 0) (h1 : P 1) (h2 : P 2) (h3 : P 3) {v : Nat} (hv : v < 4) : P v := by
  rcases (show v = 0 ∨ v = 1 ∨ v = 2 ∨ v = 3 by omega) with rfl | rfl | rfl | rfl <;> assumption
theorem cs3 {P : Nat → Prop} (h0 : P 0) (h1 : P 1) (h2 : P 2) {v : Nat} (hv : v < 3) : P v := by
  rcases (show v = 0 ∨ v = 1 ∨ v = 2 by omega) with rfl | rfl | rfl <;> assumption
theorem cs2 {P : Nat → Prop} (h0 : P 0) (h1 : P 1) {v : Nat} (hv : v < 2) : P v := by
  rcases (show v = 0 ∨ v = 1 by omega) with rfl | rfl <;> assumption
theorem x_var (h : cok c) {v : Nat} (hv : v < 4) : s_Pk_variable (nI (enX c)) (nI v) = nI (c (3 + v)) := by
  have hl := enX_lt h
  unfold cok at h
  unfold s_Pk_variable
  rw [m2]
  refine (get_b (j := 2 * v) (w := 2) (by omega) (by omega) (by omega)).trans ?_
  congr 1
  refine cs4 (P := fun v => enX c / 2 ^ (2 * v) % 2 ^ 2 = c (3 + v)) ?_ ?_ ?_ ?_ hv <;> (show enX c / _ % _ = _; unfold enX; simp only [Nat.reduceAdd, Nat.reduceMul, Nat.reducePow]; omega)
theorem x_pl (h : cok c) {v : Nat} (hv : v < 3) : s_Pk_place (nI (enX c)) (nI v) = nI (c (v)) := by
  have hl := enX_lt h
  unfold cok at h
  unfold s_Pk_place
  rw [m3, p8]
  refine (get_b (j := 8 + 3 * v) (w := 3) (by omega) (by omega) (by omega)).trans ?_
  congr 1
  refine cs3 (P := fun v => enX c / 2 ^ (8 + 3 * v) % 2 ^ 3 = c (v)) ?_ ?_ ?_ hv <;> (show enX c / _ % _ = _; unfold enX; simp only [Nat.reduceAdd, Nat.reduceMul, Nat.reducePow]; omega)
theorem m_var (h : cok c) {v : Nat} (hv : v < 4) : s_Mo_valueOf (nI (enM c)) (nI v) = nI (c (3 + v)) := by
  have hl := enM_lt h
  unfold cok at h
  unfold s_Mo_valueOf
  rw [m2, p9]
  refine (get_b (j := 9 + 2 * v) (w := 2) (by omega) (by omega) (by omega)).trans ?_
  congr 1
  refine cs4 (P := fun v => enM c / 2 ^ (9 + 2 * v) % 2 ^ 2 = c (3 + v)) ?_ ?_ ?_ ?_ hv <;> (show enM c / _ % _ = _; unfold enM; simp only [Nat.reduceAdd, Nat.reduceMul, Nat.reducePow]; omega)
theorem m_pl (h : cok c) {v : Nat} (hv : v < 3) : s_Mo_placeOf (nI (enM c)) (nI v) = nI (c (v)) := by
  have hl := enM_lt h
  unfold cok at h
  unfold s_Mo_placeOf
  rw [m3]
  refine (get_b (j := 3 * v) (w := 3) (by omega) (by omega) (by omega)).trans ?_
  congr 1
  refine cs3 (P := fun v => enM c / 2 ^ (3 * v) % 2 ^ 3 = c (v)) ?_ ?_ ?_ hv <;> (show enM c / _ % _ = _; unfold enM; simp only [Nat.reduceAdd, Nat.reduceMul, Nat.reducePow]; omega)
theorem m_ch (h : cok c) {v : Nat} (hv : v < 2) : s_Mo_inChannel (nI (enM c)) (nI v) = nI (c (8 + v)) := by
  have hl := enM_lt h
  unfold cok at h
  unfold s_Mo_inChannel
  rw [m2, p19]
  refine (get_b (j := 19 + 2 * v) (w := 2) (by omega) (by omega) (by omega)).trans ?_
  congr 1
  refine cs2 (P := fun v => enM c / 2 ^ (19 + 2 * v) % 2 ^ 2 = c (8 + v)) ?_ ?_ hv <;> (show enM c / _ % _ = _; unfold enM; simp only [Nat.reduceAdd, Nat.reduceMul, Nat.reducePow]; omega)
theorem x_ln (h : cok c) : s_Pk_channelLength (nI (enX c)) = nI (c 7) := by
  have hl := enX_lt h
  unfold cok at h
  unfold s_Pk_channelLength
  refine (get_b (j := 17) (w := 2) (by omega) (by omega) (by omega)).trans ?_
  congr 1
  show enX c / 131072 % 4 = c 7
  unfold enX; omega
theorem m_ln (h : cok c) : s_Mo_sent (nI (enM c)) = nI (c 7) := by
  have hl := enM_lt h
  unfold cok at h
  unfold s_Mo_sent
  refine (get_b (j := 17) (w := 2) (by omega) (by omega) (by omega)).trans ?_
  congr 1
  show enM c / 131072 % 4 = c 7
  unfold enM; omega
theorem x_ch (h : cok c) {v : Nat} (hv : v < 2) : ((nI (enX c) >>> (((19 : Int32) + ((2 : Int32) * nI v)) &&& 31)) &&& (3 : Int32)) = nI (c (8 + v)) := by
  have hl := enX_lt h
  unfold cok at h
  rw [m2, p19]
  refine (get_b (j := 19 + 2 * v) (w := 2) (by omega) (by omega) (by omega)).trans ?_
  congr 1
  refine cs2 (P := fun v => enX c / 2 ^ (19 + 2 * v) % 2 ^ 2 = c (8 + v)) ?_ ?_ hv <;> (show enX c / _ % _ = _; unfold enX; simp only [Nat.reduceAdd, Nat.reduceMul, Nat.reducePow]; omega)
theorem x_cv (h : cok c) {v : Nat} (hv : v < 2) : s_Pk_channelValue (nI (enX c)) (nI v) = if v < c 7 then nI (c (8 + v)) else (-2 : Int32) := by
  unfold s_Pk_channelValue
  rw [x_ln h, x_ch h hv]
  have h7 : c 7 ≤ 2 := h.2.2.2.2.2.2.2.1
  by_cases q : v < c 7
  · rw [if_pos q, if_neg (nI_ge q (by omega))]
  · rw [if_neg q, if_pos (nI_le (by omega) (by omega))]
theorem x_sv (h : cok c) {v x : Nat} (hv : v < 4) (hx : x < 4) : s_Pk_withVariable (nI (enX c)) (nI v) (nI x) = nI (enX (va_up c (3 + v) x)) := by
  unfold cok at h
  unfold s_Pk_withVariable
  rw [m2]
  refine (pin_put (n := enX c) (x := x) (j := 2 * v) (w := 2) hx (by omega)).trans ?_
  congr 1
  refine cs4 (P := fun v => pin (enX c) x (2 * v) 2 = enX (va_up c (3 + v) x)) ?_ ?_ ?_ ?_ hv <;> (show 2 ^ _ * (2 ^ _ * (enX c / 2 ^ _) + x) + enX c % 2 ^ _ = _; unfold enX va_up; simp only [Nat.reduceAdd, Nat.reduceEqDiff, Nat.reduceMul, Nat.reducePow, if_true, if_false, reduceIte]; omega)
theorem x_sp (h : cok c) {v x : Nat} (hv : v < 3) (hx : x < 8) : s_Pk_withPlace (nI (enX c)) (nI v) (nI x) = nI (enX (va_up c (v) x)) := by
  unfold cok at h
  unfold s_Pk_withPlace
  rw [m3, p8]
  refine (pin_put (n := enX c) (x := x) (j := 8 + 3 * v) (w := 3) hx (by omega)).trans ?_
  congr 1
  refine cs3 (P := fun v => pin (enX c) x (8 + 3 * v) 3 = enX (va_up c (v) x)) ?_ ?_ ?_ hv <;> (show 2 ^ _ * (2 ^ _ * (enX c / 2 ^ _) + x) + enX c % 2 ^ _ = _; unfold enX va_up; simp only [Nat.reduceAdd, Nat.reduceEqDiff, Nat.reduceMul, Nat.reducePow, if_true, if_false, reduceIte]; omega)
theorem m_sv (h : cok c) {v x : Nat} (hv : v < 4) (hx : x < 4) : s_Mo_with (nI (enM c)) (nI v) (nI x) = nI (enM (va_up c (3 + v) x)) := by
  unfold cok at h
  unfold s_Mo_with
  rw [m2, p9]
  refine (pin_put (n := enM c) (x := x) (j := 9 + 2 * v) (w := 2) hx (by omega)).trans ?_
  congr 1
  refine cs4 (P := fun v => pin (enM c) x (9 + 2 * v) 2 = enM (va_up c (3 + v) x)) ?_ ?_ ?_ ?_ hv <;> (show 2 ^ _ * (2 ^ _ * (enM c / 2 ^ _) + x) + enM c % 2 ^ _ = _; unfold enM va_up; simp only [Nat.reduceAdd, Nat.reduceEqDiff, Nat.reduceMul, Nat.reducePow, if_true, if_false, reduceIte]; omega)
theorem m_sp (h : cok c) {v x : Nat} (hv : v < 3) (hx : x < 8) : ((nI (enM c) &&& (((7 : Int32) <<< (((3 : Int32) * nI v) &&& 31)) ^^^ (-1 : Int32))) ||| (nI x <<< (((3 : Int32) * nI v) &&& 31))) = nI (enM (va_up c (v) x)) := by
  unfold cok at h
  rw [m3]
  refine (pin_put (n := enM c) (x := x) (j := 3 * v) (w := 3) hx (by omega)).trans ?_
  congr 1
  refine cs3 (P := fun v => pin (enM c) x (3 * v) 3 = enM (va_up c (v) x)) ?_ ?_ ?_ hv <;> (show 2 ^ _ * (2 ^ _ * (enM c / 2 ^ _) + x) + enM c % 2 ^ _ = _; unfold enM va_up; simp only [Nat.reduceAdd, Nat.reduceEqDiff, Nat.reduceMul, Nat.reducePow, if_true, if_false, reduceIte]; omega)
end EN
