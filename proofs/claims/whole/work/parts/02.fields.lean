def T_Tr : u_T := fun k => match k with
  | 0 => ("ClaimDesk$Transition", "process", "I", false)
  | 1 => ("ClaimDesk$Transition", "from", "I", false)
  | 2 => ("ClaimDesk$Transition", "to", "I", false)
  | 3 => ("ClaimDesk$Transition", "kind", "I", false)
  | 4 => ("ClaimDesk$Transition", "a", "I", false)
  | _ => ("ClaimDesk$Transition", "b", "I", false)
def ty_Tr : Nat → FieldType := fun k => match k with
  | 0 => .int
  | 1 => .int
  | 2 => .int
  | 3 => .int
  | 4 => .int
  | _ => .int
theorem nm_Tr : ∀ a, a < 6 → ∀ b, b < 6 → a ≠ b → (T_Tr a).2.1 ≠ (T_Tr b).2.1 := by decide +kernel
theorem tk_Tr : ∀ k, k < 6 → parseFieldDescriptor (T_Tr k).2.2.1 = some (ty_Tr k) := by decide +kernel
theorem in_Tr : ∀ w ∈ u_ws "ClaimDesk$Transition" T_Tr 6, w ∈ tbl := by
  intro w hw
  obtain ⟨k, hk, rfl⟩ := List.mem_map.mp hw
  have hk : k < 6 := List.mem_range.mp hk
  match k, hk with
  | 0, _ => exact tb_1 31 rfl rfl
  | 1, _ => exact tb_1 33 rfl rfl
  | 2, _ => exact tb_1 35 rfl rfl
  | 3, _ => exact tb_1 37 rfl rfl
  | 4, _ => exact tb_1 39 rfl rfl
  | 5, _ => exact tb_1 41 rfl rfl
  | k + 6, h => exact absurd h (by omega)
def T_Cm : u_T := fun k => match k with
  | 0 => ("ClaimDesk$Claim", "sort", "I", false)
  | 1 => ("ClaimDesk$Claim", "a", "I", false)
  | _ => ("ClaimDesk$Claim", "b", "I", false)
def ty_Cm : Nat → FieldType := fun k => match k with
  | 0 => .int
  | 1 => .int
  | _ => .int
theorem nm_Cm : ∀ a, a < 3 → ∀ b, b < 3 → a ≠ b → (T_Cm a).2.1 ≠ (T_Cm b).2.1 := by decide +kernel
theorem tk_Cm : ∀ k, k < 3 → parseFieldDescriptor (T_Cm k).2.2.1 = some (ty_Cm k) := by decide +kernel
theorem in_Cm : ∀ w ∈ u_ws "ClaimDesk$Claim" T_Cm 3, w ∈ tbl := by
  intro w hw
  obtain ⟨k, hk, rfl⟩ := List.mem_map.mp hw
  have hk : k < 3 := List.mem_range.mp hk
  match k, hk with
  | 0, _ => exact tb_1 54 rfl rfl
  | 1, _ => exact tb_1 56 rfl rfl
  | 2, _ => exact tb_1 58 rfl rfl
  | k + 3, h => exact absurd h (by omega)
def T_Sp : u_T := fun k => match k with
  | 0 => ("ClaimDesk$Space", "states", "[I", true)
  | 1 => ("ClaimDesk$Space", "foundFrom", "[I", true)
  | 2 => ("ClaimDesk$Space", "foundBy", "[I", true)
  | 3 => ("ClaimDesk$Space", "lengths", "[I", true)
  | 4 => ("ClaimDesk$Space", "openCounts", "[I", true)
  | 5 => ("ClaimDesk$Space", "next", "[I", true)
  | 6 => ("ClaimDesk$Space", "lastInto", "[I", true)
  | 7 => ("ClaimDesk$Space", "pairsBefore", "[I", true)
  | 8 => ("ClaimDesk$Space", "slots", "[I", true)
  | _ => ("ClaimDesk$Space", "size", "I", false)
def ty_Sp : Nat → FieldType := fun k => match k with
  | 0 => .array .int
  | 1 => .array .int
  | 2 => .array .int
  | 3 => .array .int
  | 4 => .array .int
  | 5 => .array .int
  | 6 => .array .int
  | 7 => .array .int
  | 8 => .array .int
  | _ => .int
theorem nm_Sp : ∀ a, a < 10 → ∀ b, b < 10 → a ≠ b → (T_Sp a).2.1 ≠ (T_Sp b).2.1 := by decide +kernel
theorem tk_Sp : ∀ k, k < 10 → parseFieldDescriptor (T_Sp k).2.2.1 = some (ty_Sp k) := by decide +kernel
theorem in_Sp : ∀ w ∈ u_ws "ClaimDesk$Space" T_Sp 10, w ∈ tbl := by
  intro w hw
  obtain ⟨k, hk, rfl⟩ := List.mem_map.mp hw
  have hk : k < 10 := List.mem_range.mp hk
  match k, hk with
  | 0, _ => exact tb_1 77 rfl rfl
  | 1, _ => exact tb_1 79 rfl rfl
  | 2, _ => exact tb_1 81 rfl rfl
  | 3, _ => exact tb_1 83 rfl rfl
  | 4, _ => exact tb_1 85 rfl rfl
  | 5, _ => exact tb_1 87 rfl rfl
  | 6, _ => exact tb_1 89 rfl rfl
  | 7, _ => exact tb_1 91 rfl rfl
  | 8, _ => exact tb_1 93 rfl rfl
  | 9, _ => exact tb_1 95 rfl rfl
  | k + 10, h => exact absurd h (by omega)
def T_Av : u_T := fun k => match k with
  | 0 => ("ClaimDesk$Avoidance", "ruledOut", "[Z", true)
  | 1 => ("ClaimDesk$Avoidance", "left", "[I", true)
  | 2 => ("ClaimDesk$Avoidance", "waiting", "[I", true)
  | _ => ("ClaimDesk$Avoidance", "waitingCount", "I", false)
def ty_Av : Nat → FieldType := fun k => match k with
  | 0 => .array .boolean
  | 1 => .array .int
  | 2 => .array .int
  | _ => .int
theorem nm_Av : ∀ a, a < 4 → ∀ b, b < 4 → a ≠ b → (T_Av a).2.1 ≠ (T_Av b).2.1 := by decide +kernel
theorem tk_Av : ∀ k, k < 4 → parseFieldDescriptor (T_Av k).2.2.1 = some (ty_Av k) := by decide +kernel
theorem in_Av : ∀ w ∈ u_ws "ClaimDesk$Avoidance" T_Av 4, w ∈ tbl := by
  intro w hw
  obtain ⟨k, hk, rfl⟩ := List.mem_map.mp hw
  have hk : k < 4 := List.mem_range.mp hk
  match k, hk with
  | 0, _ => exact tb_1 109 rfl rfl
  | 1, _ => exact tb_1 111 rfl rfl
  | 2, _ => exact tb_1 113 rfl rfl
  | 3, _ => exact tb_1 115 rfl rfl
  | k + 4, h => exact absurd h (by omega)
def T_Ds : u_T := fun k => match k with
  | 0 => ("ClaimDesk", "transitions", "[LClaimDesk$Transition;", true)
  | 1 => ("ClaimDesk", "claims", "[LClaimDesk$Claim;", true)
  | 2 => ("ClaimDesk", "space", "LClaimDesk$Space;", true)
  | 3 => ("ClaimDesk", "avoidance", "LClaimDesk$Avoidance;", true)
  | 4 => ("ClaimDesk", "transitionCount", "I", false)
  | 5 => ("ClaimDesk", "claimCount", "I", false)
  | 6 => ("ClaimDesk", "firstState", "I", false)
  | 7 => ("ClaimDesk", "stateNow", "I", false)
  | _ => ("ClaimDesk", "steps", "I", false)
def ty_Ds : Nat → FieldType := fun k => match k with
  | 0 => .array (.object "ClaimDesk$Transition")
  | 1 => .array (.object "ClaimDesk$Claim")
  | 2 => .object "ClaimDesk$Space"
  | 3 => .object "ClaimDesk$Avoidance"
  | 4 => .int
  | 5 => .int
  | 6 => .int
  | 7 => .int
  | _ => .int
theorem nm_Ds : ∀ a, a < 9 → ∀ b, b < 9 → a ≠ b → (T_Ds a).2.1 ≠ (T_Ds b).2.1 := by decide +kernel
theorem tk_Ds : ∀ k, k < 9 → parseFieldDescriptor (T_Ds k).2.2.1 = some (ty_Ds k) := by decide +kernel
theorem in_Ds : ∀ w ∈ u_ws "ClaimDesk" T_Ds 9, w ∈ tbl := by
  intro w hw
  obtain ⟨k, hk, rfl⟩ := List.mem_map.mp hw
  have hk : k < 9 := List.mem_range.mp hk
  match k, hk with
  | 0, _ => exact tb_1 128 rfl rfl
  | 1, _ => exact tb_1 130 rfl rfl
  | 2, _ => exact tb_1 132 rfl rfl
  | 3, _ => exact tb_1 134 rfl rfl
  | 4, _ => exact tb_1 136 rfl rfl
  | 5, _ => exact tb_1 138 rfl rfl
  | 6, _ => exact tb_1 140 rfl rfl
  | 7, _ => exact tb_1 142 rfl rfl
  | 8, _ => exact tb_1 144 rfl rfl
  | k + 9, h => exact absurd h (by omega)
def T_Mo : u_T := fun k => match k with
  | 0 => ("ClaimDeskModel", "who", "[I", true)
  | 1 => ("ClaimDeskModel", "from", "[I", true)
  | 2 => ("ClaimDeskModel", "to", "[I", true)
  | 3 => ("ClaimDeskModel", "op", "[I", true)
  | 4 => ("ClaimDeskModel", "sort", "[I", true)
  | 5 => ("ClaimDeskModel", "first", "[I", true)
  | 6 => ("ClaimDeskModel", "second", "[I", true)
  | 7 => ("ClaimDeskModel", "transitions", "I", false)
  | 8 => ("ClaimDeskModel", "claims", "I", false)
  | 9 => ("ClaimDeskModel", "values", "I", false)
  | 10 => ("ClaimDeskModel", "now", "I", false)
  | 11 => ("ClaimDeskModel", "steps", "I", false)
  | 12 => ("ClaimDeskModel", "space", "[I", true)
  | 13 => ("ClaimDeskModel", "above", "[I", true)
  | 14 => ("ClaimDeskModel", "by", "[I", true)
  | 15 => ("ClaimDeskModel", "far", "[I", true)
  | 16 => ("ClaimDeskModel", "stays", "[Z", true)
  | 17 => ("ClaimDeskModel", "many", "I", false)
  | _ => ("ClaimDeskModel", "isSpace", "Z", false)
def ty_Mo : Nat → FieldType := fun k => match k with
  | 0 => .array .int
  | 1 => .array .int
  | 2 => .array .int
  | 3 => .array .int
  | 4 => .array .int
  | 5 => .array .int
  | 6 => .array .int
  | 7 => .int
  | 8 => .int
  | 9 => .int
  | 10 => .int
  | 11 => .int
  | 12 => .array .int
  | 13 => .array .int
  | 14 => .array .int
  | 15 => .array .int
  | 16 => .array .boolean
  | 17 => .int
  | _ => .boolean
theorem nm_Mo : ∀ a, a < 19 → ∀ b, b < 19 → a ≠ b → (T_Mo a).2.1 ≠ (T_Mo b).2.1 := by decide +kernel
theorem tk_Mo : ∀ k, k < 19 → parseFieldDescriptor (T_Mo k).2.2.1 = some (ty_Mo k) := by decide +kernel
theorem in_Mo : ∀ w ∈ u_ws "ClaimDeskModel" T_Mo 19, w ∈ tbl := by
  intro w hw
  obtain ⟨k, hk, rfl⟩ := List.mem_map.mp hw
  have hk : k < 19 := List.mem_range.mp hk
  match k, hk with
  | 0, _ => exact tb_2 233 rfl rfl
  | 1, _ => exact tb_2 235 rfl rfl
  | 2, _ => exact tb_2 237 rfl rfl
  | 3, _ => exact tb_2 239 rfl rfl
  | 4, _ => exact tb_3 1 rfl rfl
  | 5, _ => exact tb_3 3 rfl rfl
  | 6, _ => exact tb_3 5 rfl rfl
  | 7, _ => exact tb_3 7 rfl rfl
  | 8, _ => exact tb_3 9 rfl rfl
  | 9, _ => exact tb_3 11 rfl rfl
  | 10, _ => exact tb_3 13 rfl rfl
  | 11, _ => exact tb_3 15 rfl rfl
  | 12, _ => exact tb_3 17 rfl rfl
  | 13, _ => exact tb_3 19 rfl rfl
  | 14, _ => exact tb_3 21 rfl rfl
  | 15, _ => exact tb_3 23 rfl rfl
  | 16, _ => exact tb_3 25 rfl rfl
  | 17, _ => exact tb_3 27 rfl rfl
  | 18, _ => exact tb_3 29 rfl rfl
  | k + 19, h => exact absurd h (by omega)
