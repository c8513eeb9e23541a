-- ===== PART A: goes FIRST, ahead of the names: the tables' words, and 'selects' of the private methods out of them =====
/-- a private method of a class that the tables say can be made, by its rows of tables_1 -/
def lw_okq (q : MethodName × Nat) : Prop := (q.1.cls ≠ "java/lang/invoke/MethodHandle" ∧ q.1.cls ≠ "java/lang/invoke/VarHandle") ∧ Cond.instantiable q.1.cls q.2 ∈ tables_1 ∧ Cond.privateMethod q.1 ∈ tables_1 ∧ Cond.instanceMethod q.1 ∈ tables_1
theorem lw_p0 : lw_okq (⟨"ClaimDesk", "returnToFirst", "()V"⟩, 9) := ⟨⟨by decide +kernel, by decide +kernel⟩, List.mem_of_getElem? (i := 11) (by decide +kernel), List.mem_of_getElem? (i := 158) (by decide +kernel), List.mem_of_getElem? (i := 159) (by decide +kernel)⟩
theorem lw_p1 : lw_okq (⟨"ClaimDesk$Space", "append", "(IIII)V"⟩, 10) := ⟨⟨by decide +kernel, by decide +kernel⟩, List.mem_of_getElem? (i := 62) (by decide +kernel), List.mem_of_getElem? (i := 209) (by decide +kernel), List.mem_of_getElem? (i := 210) (by decide +kernel)⟩
theorem lw_p2 : lw_okq (⟨"ClaimDesk$Space", "putIntoSlot", "(II)V"⟩, 10) := ⟨⟨by decide +kernel, by decide +kernel⟩, List.mem_of_getElem? (i := 62) (by decide +kernel), List.mem_of_getElem? (i := 213) (by decide +kernel), List.mem_of_getElem? (i := 214) (by decide +kernel)⟩
theorem lw_p3 : lw_okq (⟨"ClaimDesk$Space", "goOnFrom", "(I[LClaimDesk$Transition;I)Z"⟩, 10) := ⟨⟨by decide +kernel, by decide +kernel⟩, List.mem_of_getElem? (i := 62) (by decide +kernel), List.mem_of_getElem? (i := 221) (by decide +kernel), List.mem_of_getElem? (i := 222) (by decide +kernel)⟩
theorem lw_p4 : lw_okq (⟨"ClaimDesk$Transition", "allows", "(I)Z"⟩, 6) := ⟨⟨by decide +kernel, by decide +kernel⟩, List.mem_of_getElem? (i := 20) (by decide +kernel), List.mem_of_getElem? (i := 232) (by decide +kernel), List.mem_of_getElem? (i := 233) (by decide +kernel)⟩
theorem lw_p5 : lw_okq (⟨"ClaimDesk$Transition", "withEffect", "(I)I"⟩, 6) := ⟨⟨by decide +kernel, by decide +kernel⟩, List.mem_of_getElem? (i := 20) (by decide +kernel), List.mem_of_getElem? (i := 246) (by decide +kernel), List.mem_of_getElem? (i := 247) (by decide +kernel)⟩
theorem lw_p6 : lw_okq (⟨"ClaimDesk$Space", "numberFor", "(III)I"⟩, 10) := ⟨⟨by decide +kernel, by decide +kernel⟩, List.mem_of_getElem? (i := 62) (by decide +kernel), List.mem_of_getElem? (i := 268) (by decide +kernel), List.mem_of_getElem? (i := 269) (by decide +kernel)⟩
theorem lw_p7 : lw_okq (⟨"ClaimDesk$Space", "join", "(III)V"⟩, 10) := ⟨⟨by decide +kernel, by decide +kernel⟩, List.mem_of_getElem? (i := 62) (by decide +kernel), List.mem_of_getElem? (i := 276) (by decide +kernel), List.mem_of_getElem? (i := 277) (by decide +kernel)⟩
theorem lw_p8 : lw_okq (⟨"ClaimDesk$Avoidance", "ruleOut", "(I)V"⟩, 4) := ⟨⟨by decide +kernel, by decide +kernel⟩, List.mem_of_getElem? (i := 100) (by decide +kernel), List.mem_of_getElem? (i := 334) (by decide +kernel), List.mem_of_getElem? (i := 335) (by decide +kernel)⟩
theorem lw_p9 : lw_okq (⟨"ClaimDesk$Avoidance", "closeWaysInto", "(ILClaimDesk$Space;)V"⟩, 4) := ⟨⟨by decide +kernel, by decide +kernel⟩, List.mem_of_getElem? (i := 100) (by decide +kernel), List.mem_of_getElem? (i := 338) (by decide +kernel), List.mem_of_getElem? (i := 339) (by decide +kernel)⟩
theorem lw_p10 : lw_okq (⟨"ClaimDesk$Space", "isNewNext", "(II)Z"⟩, 10) := ⟨⟨by decide +kernel, by decide +kernel⟩, List.mem_of_getElem? (i := 62) (by decide +kernel), List.mem_of_getElem? (i := 384) (by decide +kernel), List.mem_of_getElem? (i := 385) (by decide +kernel)⟩
theorem lw_p11 : lw_okq (⟨"ClaimDesk", "openNow", "()I"⟩, 9) := ⟨⟨by decide +kernel, by decide +kernel⟩, List.mem_of_getElem? (i := 11) (by decide +kernel), List.mem_of_getElem? (i := 412) (by decide +kernel), List.mem_of_getElem? (i := 413) (by decide +kernel)⟩
theorem lw_p12 : lw_okq (⟨"ClaimDesk", "failingNow", "()I"⟩, 9) := ⟨⟨by decide +kernel, by decide +kernel⟩, List.mem_of_getElem? (i := 11) (by decide +kernel), List.mem_of_getElem? (i := 417) (by decide +kernel), List.mem_of_getElem? (i := 418) (by decide +kernel)⟩
theorem lw_p13 : lw_okq (⟨"ClaimDeskModel", "first", "()I"⟩, 19) := ⟨⟨by decide +kernel, by decide +kernel⟩, List.mem_of_getElem? (i := 445) (by decide +kernel), List.mem_of_getElem? (i := 451) (by decide +kernel), List.mem_of_getElem? (i := 452) (by decide +kernel)⟩
theorem lw_p14 : lw_okq (⟨"ClaimDeskModel", "set", "(IIIII)V"⟩, 19) := ⟨⟨by decide +kernel, by decide +kernel⟩, List.mem_of_getElem? (i := 445) (by decide +kernel), List.mem_of_getElem? (i := 527) (by decide +kernel), List.mem_of_getElem? (i := 528) (by decide +kernel)⟩
theorem lw_p15 : lw_okq (⟨"ClaimDeskModel", "isOpen", "(II)Z"⟩, 19) := ⟨⟨by decide +kernel, by decide +kernel⟩, List.mem_of_getElem? (i := 445) (by decide +kernel), List.mem_of_getElem? (i := 547) (by decide +kernel), List.mem_of_getElem? (i := 548) (by decide +kernel)⟩
def lw_privs_1 : List (MethodName × Nat) := [(⟨"ClaimDesk", "returnToFirst", "()V"⟩, 9), (⟨"ClaimDesk$Space", "append", "(IIII)V"⟩, 10), (⟨"ClaimDesk$Space", "putIntoSlot", "(II)V"⟩, 10), (⟨"ClaimDesk$Space", "goOnFrom", "(I[LClaimDesk$Transition;I)Z"⟩, 10), (⟨"ClaimDesk$Transition", "allows", "(I)Z"⟩, 6), (⟨"ClaimDesk$Transition", "withEffect", "(I)I"⟩, 6), (⟨"ClaimDesk$Space", "numberFor", "(III)I"⟩, 10), (⟨"ClaimDesk$Space", "join", "(III)V"⟩, 10), (⟨"ClaimDesk$Avoidance", "ruleOut", "(I)V"⟩, 4), (⟨"ClaimDesk$Avoidance", "closeWaysInto", "(ILClaimDesk$Space;)V"⟩, 4), (⟨"ClaimDesk$Space", "isNewNext", "(II)Z"⟩, 10), (⟨"ClaimDesk", "openNow", "()I"⟩, 9), (⟨"ClaimDesk", "failingNow", "()I"⟩, 9), (⟨"ClaimDeskModel", "first", "()I"⟩, 19), (⟨"ClaimDeskModel", "set", "(IIIII)V"⟩, 19), (⟨"ClaimDeskModel", "isOpen", "(II)Z"⟩, 19)]
theorem lw_r1 : ∀ q ∈ lw_privs_1, lw_okq q := List.forall_mem_cons.mpr ⟨lw_p0, List.forall_mem_cons.mpr ⟨lw_p1, List.forall_mem_cons.mpr ⟨lw_p2, List.forall_mem_cons.mpr ⟨lw_p3, List.forall_mem_cons.mpr ⟨lw_p4, List.forall_mem_cons.mpr ⟨lw_p5, List.forall_mem_cons.mpr ⟨lw_p6, List.forall_mem_cons.mpr ⟨lw_p7, List.forall_mem_cons.mpr ⟨lw_p8, List.forall_mem_cons.mpr ⟨lw_p9, List.forall_mem_cons.mpr ⟨lw_p10, List.forall_mem_cons.mpr ⟨lw_p11, List.forall_mem_cons.mpr ⟨lw_p12, List.forall_mem_cons.mpr ⟨lw_p13, List.forall_mem_cons.mpr ⟨lw_p14, List.forall_mem_cons.mpr ⟨lw_p15, fun _ h => absurd h List.not_mem_nil⟩⟩⟩⟩⟩⟩⟩⟩⟩⟩⟩⟩⟩⟩⟩⟩
theorem lw_p16 : lw_okq (⟨"ClaimDeskModel", "leads", "(II)I"⟩, 19) := ⟨⟨by decide +kernel, by decide +kernel⟩, List.mem_of_getElem? (i := 445) (by decide +kernel), List.mem_of_getElem? (i := 560) (by decide +kernel), List.mem_of_getElem? (i := 561) (by decide +kernel)⟩
theorem lw_p17 : lw_okq (⟨"ClaimDeskModel", "find", "(I)I"⟩, 19) := ⟨⟨by decide +kernel, by decide +kernel⟩, List.mem_of_getElem? (i := 445) (by decide +kernel), List.mem_of_getElem? (i := 572) (by decide +kernel), List.mem_of_getElem? (i := 573) (by decide +kernel)⟩
theorem lw_p18 : lw_okq (⟨"ClaimDeskModel", "failsIn", "(II)Z"⟩, 19) := ⟨⟨by decide +kernel, by decide +kernel⟩, List.mem_of_getElem? (i := 445) (by decide +kernel), List.mem_of_getElem? (i := 580) (by decide +kernel), List.mem_of_getElem? (i := 581) (by decide +kernel)⟩
theorem lw_p19 : lw_okq (⟨"ClaimDeskModel", "openIn", "(I)I"⟩, 19) := ⟨⟨by decide +kernel, by decide +kernel⟩, List.mem_of_getElem? (i := 445) (by decide +kernel), List.mem_of_getElem? (i := 588) (by decide +kernel), List.mem_of_getElem? (i := 589) (by decide +kernel)⟩
theorem lw_p20 : lw_okq (⟨"ClaimDeskModel", "goesOn", "(I)Z"⟩, 19) := ⟨⟨by decide +kernel, by decide +kernel⟩, List.mem_of_getElem? (i := 445) (by decide +kernel), List.mem_of_getElem? (i := 599) (by decide +kernel), List.mem_of_getElem? (i := 600) (by decide +kernel)⟩
theorem lw_p21 : lw_okq (⟨"ClaimDeskModel", "isState", "(I)Z"⟩, 19) := ⟨⟨by decide +kernel, by decide +kernel⟩, List.mem_of_getElem? (i := 445) (by decide +kernel), List.mem_of_getElem? (i := 607) (by decide +kernel), List.mem_of_getElem? (i := 608) (by decide +kernel)⟩
theorem lw_p22 : lw_okq (⟨"ClaimDeskModel", "told", "(II)I"⟩, 19) := ⟨⟨by decide +kernel, by decide +kernel⟩, List.mem_of_getElem? (i := 445) (by decide +kernel), List.mem_of_getElem? (i := 615) (by decide +kernel), List.mem_of_getElem? (i := 616) (by decide +kernel)⟩
def lw_privs_2 : List (MethodName × Nat) := [(⟨"ClaimDeskModel", "leads", "(II)I"⟩, 19), (⟨"ClaimDeskModel", "find", "(I)I"⟩, 19), (⟨"ClaimDeskModel", "failsIn", "(II)Z"⟩, 19), (⟨"ClaimDeskModel", "openIn", "(I)I"⟩, 19), (⟨"ClaimDeskModel", "goesOn", "(I)Z"⟩, 19), (⟨"ClaimDeskModel", "isState", "(I)Z"⟩, 19), (⟨"ClaimDeskModel", "told", "(II)I"⟩, 19)]
theorem lw_r2 : ∀ q ∈ lw_privs_2, lw_okq q := List.forall_mem_cons.mpr ⟨lw_p16, List.forall_mem_cons.mpr ⟨lw_p17, List.forall_mem_cons.mpr ⟨lw_p18, List.forall_mem_cons.mpr ⟨lw_p19, List.forall_mem_cons.mpr ⟨lw_p20, List.forall_mem_cons.mpr ⟨lw_p21, List.forall_mem_cons.mpr ⟨lw_p22, fun _ h => absurd h List.not_mem_nil⟩⟩⟩⟩⟩⟩⟩
def lw_privs : List (MethodName × Nat) := lw_privs_1 ++ (lw_privs_2)
def lw_tbl : List Cond := k2_sels lw_privs ++ tables_1
theorem lw_privs_ok : ∀ q ∈ lw_privs, lw_okq q := by
  show ∀ q ∈ lw_privs_1 ++ (lw_privs_2), lw_okq q
  exact List.forall_mem_append.mpr ⟨lw_r1, lw_r2⟩
/-! one word list for all methods: the good words of the tables -/
def tbl : List Cond := lw_tbl.filter goodWord
theorem tb_of {w : Cond} (i : Nat) (h : lw_tbl[i]? = some w) (hg : goodWord w = true) : w ∈ tbl := List.mem_filter.mpr ⟨List.mem_of_getElem? h, hg⟩
theorem tb_1 {w : Cond} (i : Nat) (h : tables_1_1[i]? = some w) (hg : goodWord w = true) : w ∈ tbl := List.mem_filter.mpr ⟨List.mem_append_right _ (List.mem_append_left _ (List.mem_of_getElem? h)), hg⟩
theorem tb_2 {w : Cond} (i : Nat) (h : tables_1_2[i]? = some w) (hg : goodWord w = true) : w ∈ tbl := List.mem_filter.mpr ⟨List.mem_append_right _ (List.mem_append_right _ (List.mem_append_left _ (List.mem_of_getElem? h))), hg⟩
theorem tb_3 {w : Cond} (i : Nat) (h : tables_1_3[i]? = some w) (hg : goodWord w = true) : w ∈ tbl := List.mem_filter.mpr ⟨List.mem_append_right _ (List.mem_append_right _ (List.mem_append_right _ (List.mem_of_getElem? h))), hg⟩
theorem tb_in : ∀ w ∈ tbl, w ∈ lw_tbl := fun _ h => (List.mem_filter.mp h).1
theorem tb_good : GoodIn tbl tbl := fun _ h => ⟨h, good_of_word (List.mem_filter.mp h).2⟩
theorem tb_good1 {y : MethodName} {bytes : ByteArray} {maxL : Nat} {ret : Option FieldType} (h : Cond.code y bytes maxL ret ∈ tbl) : GoodIn tbl (Cond.code y bytes maxL ret :: tbl) := fun w hw => (List.mem_cons.mp hw).elim (fun e => e ▸ tb_good _ h) (tb_good w)
abbrev y_Ds_init : MethodName := ⟨"ClaimDesk", "<init>", "()V"⟩
abbrev b_Ds_init : ByteArray := prog_1_method_1_code
theorem t_Ds_init : Cond.code y_Ds_init b_Ds_init 2 none ∈ tbl := tb_1 14 rfl rfl
theorem hd_Ds_init : y_Ds_init.cls ≠ "java/lang/invoke/MethodHandle" ∧ y_Ds_init.cls ≠ "java/lang/invoke/VarHandle" ∧ (parseMethodDescriptor y_Ds_init.desc).map (fun d => d.parameters.length) = some 0 := by decide +kernel
abbrev y_Ob_init : MethodName := ⟨"java/lang/Object", "<init>", "()V"⟩
abbrev b_Ob_init : ByteArray := object_method_1_code
theorem t_Ob_init : Cond.code y_Ob_init b_Ob_init 1 none ∈ tbl := tb_1 17 rfl rfl
theorem hd_Ob_init : y_Ob_init.cls ≠ "java/lang/invoke/MethodHandle" ∧ y_Ob_init.cls ≠ "java/lang/invoke/VarHandle" ∧ (parseMethodDescriptor y_Ob_init.desc).map (fun d => d.parameters.length) = some 0 := by decide +kernel
abbrev y_Tr_init : MethodName := ⟨"ClaimDesk$Transition", "<init>", "()V"⟩
abbrev b_Tr_init : ByteArray := prog_6_method_1_code
theorem t_Tr_init : Cond.code y_Tr_init b_Tr_init 1 none ∈ tbl := tb_1 23 rfl rfl
theorem hd_Tr_init : y_Tr_init.cls ≠ "java/lang/invoke/MethodHandle" ∧ y_Tr_init.cls ≠ "java/lang/invoke/VarHandle" ∧ (parseMethodDescriptor y_Tr_init.desc).map (fun d => d.parameters.length) = some 0 := by decide +kernel
abbrev y_Cm_init : MethodName := ⟨"ClaimDesk$Claim", "<init>", "()V"⟩
abbrev b_Cm_init : ByteArray := prog_3_method_1_code
theorem t_Cm_init : Cond.code y_Cm_init b_Cm_init 1 none ∈ tbl := tb_1 49 rfl rfl
theorem hd_Cm_init : y_Cm_init.cls ≠ "java/lang/invoke/MethodHandle" ∧ y_Cm_init.cls ≠ "java/lang/invoke/VarHandle" ∧ (parseMethodDescriptor y_Cm_init.desc).map (fun d => d.parameters.length) = some 0 := by decide +kernel
abbrev y_Sp_init : MethodName := ⟨"ClaimDesk$Space", "<init>", "()V"⟩
abbrev b_Sp_init : ByteArray := prog_5_method_1_code
theorem t_Sp_init : Cond.code y_Sp_init b_Sp_init 1 none ∈ tbl := tb_1 65 rfl rfl
theorem hd_Sp_init : y_Sp_init.cls ≠ "java/lang/invoke/MethodHandle" ∧ y_Sp_init.cls ≠ "java/lang/invoke/VarHandle" ∧ (parseMethodDescriptor y_Sp_init.desc).map (fun d => d.parameters.length) = some 0 := by decide +kernel
abbrev y_Av_init : MethodName := ⟨"ClaimDesk$Avoidance", "<init>", "()V"⟩
abbrev b_Av_init : ByteArray := prog_2_method_1_code
theorem t_Av_init : Cond.code y_Av_init b_Av_init 1 none ∈ tbl := tb_1 103 rfl rfl
theorem hd_Av_init : y_Av_init.cls ≠ "java/lang/invoke/MethodHandle" ∧ y_Av_init.cls ≠ "java/lang/invoke/VarHandle" ∧ (parseMethodDescriptor y_Av_init.desc).map (fun d => d.parameters.length) = some 0 := by decide +kernel
abbrev y_Ds_begin : MethodName := ⟨"ClaimDesk", "begin", "(I)Z"⟩
abbrev b_Ds_begin : ByteArray := prog_1_method_2_code
theorem t_Ds_begin : Cond.code y_Ds_begin b_Ds_begin 2 (some .boolean) ∈ tbl := tb_1 150 rfl rfl
theorem hd_Ds_begin : y_Ds_begin.cls ≠ "java/lang/invoke/MethodHandle" ∧ y_Ds_begin.cls ≠ "java/lang/invoke/VarHandle" ∧ (parseMethodDescriptor y_Ds_begin.desc).map (fun d => d.parameters.length) = some 1 := by decide +kernel
abbrev y_Ds_isBelow : MethodName := ⟨"ClaimDesk", "isBelow", "(II)Z"⟩
abbrev b_Ds_isBelow : ByteArray := prog_1_method_20_code
theorem t_Ds_isBelow : Cond.code y_Ds_isBelow b_Ds_isBelow 2 (some .boolean) ∈ tbl := tb_1 153 rfl rfl
theorem hd_Ds_isBelow : y_Ds_isBelow.cls ≠ "java/lang/invoke/MethodHandle" ∧ y_Ds_isBelow.cls ≠ "java/lang/invoke/VarHandle" ∧ (parseMethodDescriptor y_Ds_isBelow.desc).map (fun d => d.parameters.length) = some 2 := by decide +kernel
abbrev y_Pk_first : MethodName := ⟨"ClaimDesk$Packed", "first", "(I)I"⟩
abbrev b_Pk_first : ByteArray := prog_4_method_2_code
theorem t_Pk_first : Cond.code y_Pk_first b_Pk_first 1 (some .int) ∈ tbl := tb_1 156 rfl rfl
theorem hd_Pk_first : y_Pk_first.cls ≠ "java/lang/invoke/MethodHandle" ∧ y_Pk_first.cls ≠ "java/lang/invoke/VarHandle" ∧ (parseMethodDescriptor y_Pk_first.desc).map (fun d => d.parameters.length) = some 1 := by decide +kernel
abbrev y_Ds_returnToFirst : MethodName := ⟨"ClaimDesk", "returnToFirst", "()V"⟩
abbrev b_Ds_returnToFirst : ByteArray := prog_1_method_17_code
theorem t_Ds_returnToFirst : Cond.code y_Ds_returnToFirst b_Ds_returnToFirst 1 none ∈ tbl := tb_1 160 rfl rfl
theorem hd_Ds_returnToFirst : y_Ds_returnToFirst.cls ≠ "java/lang/invoke/MethodHandle" ∧ y_Ds_returnToFirst.cls ≠ "java/lang/invoke/VarHandle" ∧ (parseMethodDescriptor y_Ds_returnToFirst.desc).map (fun d => d.parameters.length) = some 0 := by decide +kernel
abbrev y_Sp_forget : MethodName := ⟨"ClaimDesk$Space", "forget", "()V"⟩
abbrev b_Sp_forget : ByteArray := prog_5_method_2_code
theorem t_Sp_forget : Cond.code y_Sp_forget b_Sp_forget 1 none ∈ tbl := tb_1 164 rfl rfl
theorem hd_Sp_forget : y_Sp_forget.cls ≠ "java/lang/invoke/MethodHandle" ∧ y_Sp_forget.cls ≠ "java/lang/invoke/VarHandle" ∧ (parseMethodDescriptor y_Sp_forget.desc).map (fun d => d.parameters.length) = some 0 := by decide +kernel
abbrev y_Ds_add : MethodName := ⟨"ClaimDesk", "add", "(IIII)I"⟩
abbrev b_Ds_add : ByteArray := prog_1_method_3_code
theorem t_Ds_add : Cond.code y_Ds_add b_Ds_add 5 (some .int) ∈ tbl := tb_1 168 rfl rfl
theorem hd_Ds_add : y_Ds_add.cls ≠ "java/lang/invoke/MethodHandle" ∧ y_Ds_add.cls ≠ "java/lang/invoke/VarHandle" ∧ (parseMethodDescriptor y_Ds_add.desc).map (fun d => d.parameters.length) = some 4 := by decide +kernel
abbrev y_Tr_isAsSaid : MethodName := ⟨"ClaimDesk$Transition", "isAsSaid", "(IIII)Z"⟩
abbrev b_Tr_isAsSaid : ByteArray := prog_6_method_2_code
theorem t_Tr_isAsSaid : Cond.code y_Tr_isAsSaid b_Tr_isAsSaid 4 (some .boolean) ∈ tbl := tb_1 171 rfl rfl
theorem hd_Tr_isAsSaid : y_Tr_isAsSaid.cls ≠ "java/lang/invoke/MethodHandle" ∧ y_Tr_isAsSaid.cls ≠ "java/lang/invoke/VarHandle" ∧ (parseMethodDescriptor y_Tr_isAsSaid.desc).map (fun d => d.parameters.length) = some 4 := by decide +kernel
abbrev y_Tr_become : MethodName := ⟨"ClaimDesk$Transition", "become", "(IIII)V"⟩
abbrev b_Tr_become : ByteArray := prog_6_method_3_code
theorem t_Tr_become : Cond.code y_Tr_become b_Tr_become 5 none ∈ tbl := tb_1 176 rfl rfl
theorem hd_Tr_become : y_Tr_become.cls ≠ "java/lang/invoke/MethodHandle" ∧ y_Tr_become.cls ≠ "java/lang/invoke/VarHandle" ∧ (parseMethodDescriptor y_Tr_become.desc).map (fun d => d.parameters.length) = some 4 := by decide +kernel
abbrev y_Ds_change : MethodName := ⟨"ClaimDesk", "change", "(IIIII)Z"⟩
abbrev b_Ds_change : ByteArray := prog_1_method_4_code
theorem t_Ds_change : Cond.code y_Ds_change b_Ds_change 6 (some .boolean) ∈ tbl := tb_1 180 rfl rfl
theorem hd_Ds_change : y_Ds_change.cls ≠ "java/lang/invoke/MethodHandle" ∧ y_Ds_change.cls ≠ "java/lang/invoke/VarHandle" ∧ (parseMethodDescriptor y_Ds_change.desc).map (fun d => d.parameters.length) = some 5 := by decide +kernel
abbrev y_Ds_clear : MethodName := ⟨"ClaimDesk", "clear", "()I"⟩
abbrev b_Ds_clear : ByteArray := prog_1_method_5_code
theorem t_Ds_clear : Cond.code y_Ds_clear b_Ds_clear 2 (some .int) ∈ tbl := tb_1 184 rfl rfl
theorem hd_Ds_clear : y_Ds_clear.cls ≠ "java/lang/invoke/MethodHandle" ∧ y_Ds_clear.cls ≠ "java/lang/invoke/VarHandle" ∧ (parseMethodDescriptor y_Ds_clear.desc).map (fun d => d.parameters.length) = some 0 := by decide +kernel
abbrev y_Ds_claim : MethodName := ⟨"ClaimDesk", "claim", "(III)I"⟩
abbrev b_Ds_claim : ByteArray := prog_1_method_6_code
theorem t_Ds_claim : Cond.code y_Ds_claim b_Ds_claim 4 (some .int) ∈ tbl := tb_1 188 rfl rfl
theorem hd_Ds_claim : y_Ds_claim.cls ≠ "java/lang/invoke/MethodHandle" ∧ y_Ds_claim.cls ≠ "java/lang/invoke/VarHandle" ∧ (parseMethodDescriptor y_Ds_claim.desc).map (fun d => d.parameters.length) = some 3 := by decide +kernel
abbrev y_Cm_isAsSaid : MethodName := ⟨"ClaimDesk$Claim", "isAsSaid", "(III)Z"⟩
abbrev b_Cm_isAsSaid : ByteArray := prog_3_method_2_code
theorem t_Cm_isAsSaid : Cond.code y_Cm_isAsSaid b_Cm_isAsSaid 3 (some .boolean) ∈ tbl := tb_1 191 rfl rfl
theorem hd_Cm_isAsSaid : y_Cm_isAsSaid.cls ≠ "java/lang/invoke/MethodHandle" ∧ y_Cm_isAsSaid.cls ≠ "java/lang/invoke/VarHandle" ∧ (parseMethodDescriptor y_Cm_isAsSaid.desc).map (fun d => d.parameters.length) = some 3 := by decide +kernel
abbrev y_Cm_become : MethodName := ⟨"ClaimDesk$Claim", "become", "(III)V"⟩
abbrev b_Cm_become : ByteArray := prog_3_method_3_code
theorem t_Cm_become : Cond.code y_Cm_become b_Cm_become 4 none ∈ tbl := tb_1 196 rfl rfl
theorem hd_Cm_become : y_Cm_become.cls ≠ "java/lang/invoke/MethodHandle" ∧ y_Cm_become.cls ≠ "java/lang/invoke/VarHandle" ∧ (parseMethodDescriptor y_Cm_become.desc).map (fun d => d.parameters.length) = some 3 := by decide +kernel
abbrev y_Ds_explore : MethodName := ⟨"ClaimDesk", "explore", "()I"⟩
abbrev b_Ds_explore : ByteArray := prog_1_method_7_code
theorem t_Ds_explore : Cond.code y_Ds_explore b_Ds_explore 1 (some .int) ∈ tbl := tb_1 200 rfl rfl
theorem hd_Ds_explore : y_Ds_explore.cls ≠ "java/lang/invoke/MethodHandle" ∧ y_Ds_explore.cls ≠ "java/lang/invoke/VarHandle" ∧ (parseMethodDescriptor y_Ds_explore.desc).map (fun d => d.parameters.length) = some 0 := by decide +kernel
abbrev y_Sp_make : MethodName := ⟨"ClaimDesk$Space", "make", "(I[LClaimDesk$Transition;I)Z"⟩
abbrev b_Sp_make : ByteArray := prog_5_method_11_code
theorem t_Sp_make : Cond.code y_Sp_make b_Sp_make 5 (some .boolean) ∈ tbl := tb_1 204 rfl rfl
theorem hd_Sp_make : y_Sp_make.cls ≠ "java/lang/invoke/MethodHandle" ∧ y_Sp_make.cls ≠ "java/lang/invoke/VarHandle" ∧ (parseMethodDescriptor y_Sp_make.desc).map (fun d => d.parameters.length) = some 3 := by decide +kernel
abbrev y_Ar_fill : MethodName := ⟨"java/util/Arrays", "fill", "([II)V"⟩
abbrev b_Ar_fill : ByteArray := prog_10_method_103_code
theorem t_Ar_fill : Cond.code y_Ar_fill b_Ar_fill 4 none ∈ tbl := tb_1 207 rfl rfl
theorem hd_Ar_fill : y_Ar_fill.cls ≠ "java/lang/invoke/MethodHandle" ∧ y_Ar_fill.cls ≠ "java/lang/invoke/VarHandle" ∧ (parseMethodDescriptor y_Ar_fill.desc).map (fun d => d.parameters.length) = some 2 := by decide +kernel
abbrev y_Sp_append : MethodName := ⟨"ClaimDesk$Space", "append", "(IIII)V"⟩
abbrev b_Sp_append : ByteArray := prog_5_method_14_code
theorem t_Sp_append : Cond.code y_Sp_append b_Sp_append 5 none ∈ tbl := tb_1 211 rfl rfl
theorem hd_Sp_append : y_Sp_append.cls ≠ "java/lang/invoke/MethodHandle" ∧ y_Sp_append.cls ≠ "java/lang/invoke/VarHandle" ∧ (parseMethodDescriptor y_Sp_append.desc).map (fun d => d.parameters.length) = some 4 := by decide +kernel
abbrev y_Sp_putIntoSlot : MethodName := ⟨"ClaimDesk$Space", "putIntoSlot", "(II)V"⟩
abbrev b_Sp_putIntoSlot : ByteArray := prog_5_method_16_code
theorem t_Sp_putIntoSlot : Cond.code y_Sp_putIntoSlot b_Sp_putIntoSlot 5 none ∈ tbl := tb_1 215 rfl rfl
theorem hd_Sp_putIntoSlot : y_Sp_putIntoSlot.cls ≠ "java/lang/invoke/MethodHandle" ∧ y_Sp_putIntoSlot.cls ≠ "java/lang/invoke/VarHandle" ∧ (parseMethodDescriptor y_Sp_putIntoSlot.desc).map (fun d => d.parameters.length) = some 2 := by decide +kernel
abbrev y_Sp_slotFor : MethodName := ⟨"ClaimDesk$Space", "slotFor", "(II)I"⟩
abbrev b_Sp_slotFor : ByteArray := prog_5_method_18_code
theorem t_Sp_slotFor : Cond.code y_Sp_slotFor b_Sp_slotFor 2 (some .int) ∈ tbl := tb_1 218 rfl rfl
theorem hd_Sp_slotFor : y_Sp_slotFor.cls ≠ "java/lang/invoke/MethodHandle" ∧ y_Sp_slotFor.cls ≠ "java/lang/invoke/VarHandle" ∧ (parseMethodDescriptor y_Sp_slotFor.desc).map (fun d => d.parameters.length) = some 2 := by decide +kernel
abbrev y_Sp_goOnFrom : MethodName := ⟨"ClaimDesk$Space", "goOnFrom", "(I[LClaimDesk$Transition;I)Z"⟩
abbrev b_Sp_goOnFrom : ByteArray := prog_5_method_12_code
theorem t_Sp_goOnFrom : Cond.code y_Sp_goOnFrom b_Sp_goOnFrom 6 (some .boolean) ∈ tbl := tb_1 223 rfl rfl
theorem hd_Sp_goOnFrom : y_Sp_goOnFrom.cls ≠ "java/lang/invoke/MethodHandle" ∧ y_Sp_goOnFrom.cls ≠ "java/lang/invoke/VarHandle" ∧ (parseMethodDescriptor y_Sp_goOnFrom.desc).map (fun d => d.parameters.length) = some 3 := by decide +kernel
abbrev y_Tr_isOpenIn : MethodName := ⟨"ClaimDesk$Transition", "isOpenIn", "(I)Z"⟩
abbrev b_Tr_isOpenIn : ByteArray := prog_6_method_4_code
theorem t_Tr_isOpenIn : Cond.code y_Tr_isOpenIn b_Tr_isOpenIn 2 (some .boolean) ∈ tbl := tb_1 227 rfl rfl
theorem hd_Tr_isOpenIn : y_Tr_isOpenIn.cls ≠ "java/lang/invoke/MethodHandle" ∧ y_Tr_isOpenIn.cls ≠ "java/lang/invoke/VarHandle" ∧ (parseMethodDescriptor y_Tr_isOpenIn.desc).map (fun d => d.parameters.length) = some 1 := by decide +kernel
abbrev y_Pk_place : MethodName := ⟨"ClaimDesk$Packed", "place", "(II)I"⟩
abbrev b_Pk_place : ByteArray := prog_4_method_5_code
theorem t_Pk_place : Cond.code y_Pk_place b_Pk_place 2 (some .int) ∈ tbl := tb_1 230 rfl rfl
theorem hd_Pk_place : y_Pk_place.cls ≠ "java/lang/invoke/MethodHandle" ∧ y_Pk_place.cls ≠ "java/lang/invoke/VarHandle" ∧ (parseMethodDescriptor y_Pk_place.desc).map (fun d => d.parameters.length) = some 2 := by decide +kernel
abbrev y_Tr_allows : MethodName := ⟨"ClaimDesk$Transition", "allows", "(I)Z"⟩
abbrev b_Tr_allows : ByteArray := prog_6_method_5_code
theorem t_Tr_allows : Cond.code y_Tr_allows b_Tr_allows 2 (some .boolean) ∈ tbl := tb_1 234 rfl rfl
theorem hd_Tr_allows : y_Tr_allows.cls ≠ "java/lang/invoke/MethodHandle" ∧ y_Tr_allows.cls ≠ "java/lang/invoke/VarHandle" ∧ (parseMethodDescriptor y_Tr_allows.desc).map (fun d => d.parameters.length) = some 1 := by decide +kernel
abbrev y_Pk_variable : MethodName := ⟨"ClaimDesk$Packed", "variable", "(II)I"⟩
abbrev b_Pk_variable : ByteArray := prog_4_method_3_code
theorem t_Pk_variable : Cond.code y_Pk_variable b_Pk_variable 2 (some .int) ∈ tbl := tb_1 237 rfl rfl
theorem hd_Pk_variable : y_Pk_variable.cls ≠ "java/lang/invoke/MethodHandle" ∧ y_Pk_variable.cls ≠ "java/lang/invoke/VarHandle" ∧ (parseMethodDescriptor y_Pk_variable.desc).map (fun d => d.parameters.length) = some 2 := by decide +kernel
abbrev y_Pk_channelLength : MethodName := ⟨"ClaimDesk$Packed", "channelLength", "(I)I"⟩
abbrev b_Pk_channelLength : ByteArray := prog_4_method_7_code
theorem t_Pk_channelLength : Cond.code y_Pk_channelLength b_Pk_channelLength 1 (some .int) ∈ tbl := tb_2 0 rfl rfl
theorem hd_Pk_channelLength : y_Pk_channelLength.cls ≠ "java/lang/invoke/MethodHandle" ∧ y_Pk_channelLength.cls ≠ "java/lang/invoke/VarHandle" ∧ (parseMethodDescriptor y_Pk_channelLength.desc).map (fun d => d.parameters.length) = some 1 := by decide +kernel
abbrev y_Tr_leadsFrom : MethodName := ⟨"ClaimDesk$Transition", "leadsFrom", "(I)I"⟩
abbrev b_Tr_leadsFrom : ByteArray := prog_6_method_6_code
theorem t_Tr_leadsFrom : Cond.code y_Tr_leadsFrom b_Tr_leadsFrom 2 (some .int) ∈ tbl := tb_2 4 rfl rfl
theorem hd_Tr_leadsFrom : y_Tr_leadsFrom.cls ≠ "java/lang/invoke/MethodHandle" ∧ y_Tr_leadsFrom.cls ≠ "java/lang/invoke/VarHandle" ∧ (parseMethodDescriptor y_Tr_leadsFrom.desc).map (fun d => d.parameters.length) = some 1 := by decide +kernel
abbrev y_Tr_withEffect : MethodName := ⟨"ClaimDesk$Transition", "withEffect", "(I)I"⟩
abbrev b_Tr_withEffect : ByteArray := prog_6_method_7_code
theorem t_Tr_withEffect : Cond.code y_Tr_withEffect b_Tr_withEffect 3 (some .int) ∈ tbl := tb_2 8 rfl rfl
theorem hd_Tr_withEffect : y_Tr_withEffect.cls ≠ "java/lang/invoke/MethodHandle" ∧ y_Tr_withEffect.cls ≠ "java/lang/invoke/VarHandle" ∧ (parseMethodDescriptor y_Tr_withEffect.desc).map (fun d => d.parameters.length) = some 1 := by decide +kernel
abbrev y_Pk_withVariable : MethodName := ⟨"ClaimDesk$Packed", "withVariable", "(III)I"⟩
abbrev b_Pk_withVariable : ByteArray := prog_4_method_4_code
theorem t_Pk_withVariable : Cond.code y_Pk_withVariable b_Pk_withVariable 3 (some .int) ∈ tbl := tb_2 11 rfl rfl
theorem hd_Pk_withVariable : y_Pk_withVariable.cls ≠ "java/lang/invoke/MethodHandle" ∧ y_Pk_withVariable.cls ≠ "java/lang/invoke/VarHandle" ∧ (parseMethodDescriptor y_Pk_withVariable.desc).map (fun d => d.parameters.length) = some 3 := by decide +kernel
abbrev y_Pk_withSent : MethodName := ⟨"ClaimDesk$Packed", "withSent", "(II)I"⟩
abbrev b_Pk_withSent : ByteArray := prog_4_method_9_code
theorem t_Pk_withSent : Cond.code y_Pk_withSent b_Pk_withSent 3 (some .int) ∈ tbl := tb_2 14 rfl rfl
theorem hd_Pk_withSent : y_Pk_withSent.cls ≠ "java/lang/invoke/MethodHandle" ∧ y_Pk_withSent.cls ≠ "java/lang/invoke/VarHandle" ∧ (parseMethodDescriptor y_Pk_withSent.desc).map (fun d => d.parameters.length) = some 2 := by decide +kernel
abbrev y_Pk_withoutFirst : MethodName := ⟨"ClaimDesk$Packed", "withoutFirst", "(I)I"⟩
abbrev b_Pk_withoutFirst : ByteArray := prog_4_method_10_code
theorem t_Pk_withoutFirst : Cond.code y_Pk_withoutFirst b_Pk_withoutFirst 4 (some .int) ∈ tbl := tb_2 19 rfl rfl
theorem hd_Pk_withoutFirst : y_Pk_withoutFirst.cls ≠ "java/lang/invoke/MethodHandle" ∧ y_Pk_withoutFirst.cls ≠ "java/lang/invoke/VarHandle" ∧ (parseMethodDescriptor y_Pk_withoutFirst.desc).map (fun d => d.parameters.length) = some 1 := by decide +kernel
abbrev y_Pk_channelValue : MethodName := ⟨"ClaimDesk$Packed", "channelValue", "(II)I"⟩
abbrev b_Pk_channelValue : ByteArray := prog_4_method_8_code
theorem t_Pk_channelValue : Cond.code y_Pk_channelValue b_Pk_channelValue 2 (some .int) ∈ tbl := tb_2 23 rfl rfl
theorem hd_Pk_channelValue : y_Pk_channelValue.cls ≠ "java/lang/invoke/MethodHandle" ∧ y_Pk_channelValue.cls ≠ "java/lang/invoke/VarHandle" ∧ (parseMethodDescriptor y_Pk_channelValue.desc).map (fun d => d.parameters.length) = some 2 := by decide +kernel
abbrev y_Pk_withPlace : MethodName := ⟨"ClaimDesk$Packed", "withPlace", "(III)I"⟩
abbrev b_Pk_withPlace : ByteArray := prog_4_method_6_code
theorem t_Pk_withPlace : Cond.code y_Pk_withPlace b_Pk_withPlace 4 (some .int) ∈ tbl := tb_2 26 rfl rfl
theorem hd_Pk_withPlace : y_Pk_withPlace.cls ≠ "java/lang/invoke/MethodHandle" ∧ y_Pk_withPlace.cls ≠ "java/lang/invoke/VarHandle" ∧ (parseMethodDescriptor y_Pk_withPlace.desc).map (fun d => d.parameters.length) = some 3 := by decide +kernel
abbrev y_Sp_numberFor : MethodName := ⟨"ClaimDesk$Space", "numberFor", "(III)I"⟩
abbrev b_Sp_numberFor : ByteArray := prog_5_method_13_code
theorem t_Sp_numberFor : Cond.code y_Sp_numberFor b_Sp_numberFor 5 (some .int) ∈ tbl := tb_2 30 rfl rfl
theorem hd_Sp_numberFor : y_Sp_numberFor.cls ≠ "java/lang/invoke/MethodHandle" ∧ y_Sp_numberFor.cls ≠ "java/lang/invoke/VarHandle" ∧ (parseMethodDescriptor y_Sp_numberFor.desc).map (fun d => d.parameters.length) = some 3 := by decide +kernel
abbrev y_Sp_numberOf : MethodName := ⟨"ClaimDesk$Space", "numberOf", "(I)I"⟩
abbrev b_Sp_numberOf : ByteArray := prog_5_method_17_code
theorem t_Sp_numberOf : Cond.code y_Sp_numberOf b_Sp_numberOf 4 (some .int) ∈ tbl := tb_2 34 rfl rfl
theorem hd_Sp_numberOf : y_Sp_numberOf.cls ≠ "java/lang/invoke/MethodHandle" ∧ y_Sp_numberOf.cls ≠ "java/lang/invoke/VarHandle" ∧ (parseMethodDescriptor y_Sp_numberOf.desc).map (fun d => d.parameters.length) = some 1 := by decide +kernel
abbrev y_Sp_join : MethodName := ⟨"ClaimDesk$Space", "join", "(III)V"⟩
abbrev b_Sp_join : ByteArray := prog_5_method_15_code
theorem t_Sp_join : Cond.code y_Sp_join b_Sp_join 5 none ∈ tbl := tb_2 38 rfl rfl
theorem hd_Sp_join : y_Sp_join.cls ≠ "java/lang/invoke/MethodHandle" ∧ y_Sp_join.cls ≠ "java/lang/invoke/VarHandle" ∧ (parseMethodDescriptor y_Sp_join.desc).map (fun d => d.parameters.length) = some 3 := by decide +kernel
abbrev y_Sp_size : MethodName := ⟨"ClaimDesk$Space", "size", "()I"⟩
abbrev b_Sp_size : ByteArray := prog_5_method_5_code
theorem t_Sp_size : Cond.code y_Sp_size b_Sp_size 1 (some .int) ∈ tbl := tb_2 43 rfl rfl
theorem hd_Sp_size : y_Sp_size.cls ≠ "java/lang/invoke/MethodHandle" ∧ y_Sp_size.cls ≠ "java/lang/invoke/VarHandle" ∧ (parseMethodDescriptor y_Sp_size.desc).map (fun d => d.parameters.length) = some 0 := by decide +kernel
abbrev y_Ds_fails : MethodName := ⟨"ClaimDesk", "fails", "(I)I"⟩
abbrev b_Ds_fails : ByteArray := prog_1_method_8_code
theorem t_Ds_fails : Cond.code y_Ds_fails b_Ds_fails 2 (some .int) ∈ tbl := tb_2 47 rfl rfl
theorem hd_Ds_fails : y_Ds_fails.cls ≠ "java/lang/invoke/MethodHandle" ∧ y_Ds_fails.cls ≠ "java/lang/invoke/VarHandle" ∧ (parseMethodDescriptor y_Ds_fails.desc).map (fun d => d.parameters.length) = some 1 := by decide +kernel
abbrev y_Sp_leastFailing : MethodName := ⟨"ClaimDesk$Space", "leastFailing", "(LClaimDesk$Claim;)I"⟩
abbrev b_Sp_leastFailing : ByteArray := prog_5_method_26_code
theorem t_Sp_leastFailing : Cond.code y_Sp_leastFailing b_Sp_leastFailing 3 (some .int) ∈ tbl := tb_2 51 rfl rfl
theorem hd_Sp_leastFailing : y_Sp_leastFailing.cls ≠ "java/lang/invoke/MethodHandle" ∧ y_Sp_leastFailing.cls ≠ "java/lang/invoke/VarHandle" ∧ (parseMethodDescriptor y_Sp_leastFailing.desc).map (fun d => d.parameters.length) = some 1 := by decide +kernel
abbrev y_Cm_failsIn : MethodName := ⟨"ClaimDesk$Claim", "failsIn", "(I)Z"⟩
abbrev b_Cm_failsIn : ByteArray := prog_3_method_4_code
theorem t_Cm_failsIn : Cond.code y_Cm_failsIn b_Cm_failsIn 2 (some .boolean) ∈ tbl := tb_2 55 rfl rfl
theorem hd_Cm_failsIn : y_Cm_failsIn.cls ≠ "java/lang/invoke/MethodHandle" ∧ y_Cm_failsIn.cls ≠ "java/lang/invoke/VarHandle" ∧ (parseMethodDescriptor y_Cm_failsIn.desc).map (fun d => d.parameters.length) = some 1 := by decide +kernel
abbrev y_Ds_stuck : MethodName := ⟨"ClaimDesk", "stuck", "(Z)I"⟩
abbrev b_Ds_stuck : ByteArray := prog_1_method_9_code
theorem t_Ds_stuck : Cond.code y_Ds_stuck b_Ds_stuck 2 (some .int) ∈ tbl := tb_2 62 rfl rfl
theorem hd_Ds_stuck : y_Ds_stuck.cls ≠ "java/lang/invoke/MethodHandle" ∧ y_Ds_stuck.cls ≠ "java/lang/invoke/VarHandle" ∧ (parseMethodDescriptor y_Ds_stuck.desc).map (fun d => d.parameters.length) = some 1 := by decide +kernel
abbrev y_Sp_leastStuck : MethodName := ⟨"ClaimDesk$Space", "leastStuck", "(Z)I"⟩
abbrev b_Sp_leastStuck : ByteArray := prog_5_method_27_code
theorem t_Sp_leastStuck : Cond.code y_Sp_leastStuck b_Sp_leastStuck 3 (some .int) ∈ tbl := tb_2 66 rfl rfl
theorem hd_Sp_leastStuck : y_Sp_leastStuck.cls ≠ "java/lang/invoke/MethodHandle" ∧ y_Sp_leastStuck.cls ≠ "java/lang/invoke/VarHandle" ∧ (parseMethodDescriptor y_Sp_leastStuck.desc).map (fun d => d.parameters.length) = some 1 := by decide +kernel
abbrev y_Pk_allAtLastPlace : MethodName := ⟨"ClaimDesk$Packed", "allAtLastPlace", "(I)Z"⟩
abbrev b_Pk_allAtLastPlace : ByteArray := prog_4_method_11_code
theorem t_Pk_allAtLastPlace : Cond.code y_Pk_allAtLastPlace b_Pk_allAtLastPlace 3 (some .boolean) ∈ tbl := tb_2 69 rfl rfl
theorem hd_Pk_allAtLastPlace : y_Pk_allAtLastPlace.cls ≠ "java/lang/invoke/MethodHandle" ∧ y_Pk_allAtLastPlace.cls ≠ "java/lang/invoke/VarHandle" ∧ (parseMethodDescriptor y_Pk_allAtLastPlace.desc).map (fun d => d.parameters.length) = some 1 := by decide +kernel
abbrev y_Ds_avoids : MethodName := ⟨"ClaimDesk", "avoids", "(II)I"⟩
abbrev b_Ds_avoids : ByteArray := prog_1_method_10_code
theorem t_Ds_avoids : Cond.code y_Ds_avoids b_Ds_avoids 3 (some .int) ∈ tbl := tb_2 74 rfl rfl
theorem hd_Ds_avoids : y_Ds_avoids.cls ≠ "java/lang/invoke/MethodHandle" ∧ y_Ds_avoids.cls ≠ "java/lang/invoke/VarHandle" ∧ (parseMethodDescriptor y_Ds_avoids.desc).map (fun d => d.parameters.length) = some 2 := by decide +kernel
abbrev y_Sp_isThere : MethodName := ⟨"ClaimDesk$Space", "isThere", "()Z"⟩
abbrev b_Sp_isThere : ByteArray := prog_5_method_3_code
theorem t_Sp_isThere : Cond.code y_Sp_isThere b_Sp_isThere 1 (some .boolean) ∈ tbl := tb_2 78 rfl rfl
theorem hd_Sp_isThere : y_Sp_isThere.cls ≠ "java/lang/invoke/MethodHandle" ∧ y_Sp_isThere.cls ≠ "java/lang/invoke/VarHandle" ∧ (parseMethodDescriptor y_Sp_isThere.desc).map (fun d => d.parameters.length) = some 0 := by decide +kernel
abbrev y_Av_find : MethodName := ⟨"ClaimDesk$Avoidance", "find", "(LClaimDesk$Space;LClaimDesk$Claim;)V"⟩
abbrev b_Av_find : ByteArray := prog_2_method_2_code
theorem t_Av_find : Cond.code y_Av_find b_Av_find 4 none ∈ tbl := tb_2 82 rfl rfl
theorem hd_Av_find : y_Av_find.cls ≠ "java/lang/invoke/MethodHandle" ∧ y_Av_find.cls ≠ "java/lang/invoke/VarHandle" ∧ (parseMethodDescriptor y_Av_find.desc).map (fun d => d.parameters.length) = some 2 := by decide +kernel
abbrev y_Sp_openIn : MethodName := ⟨"ClaimDesk$Space", "openIn", "(I)I"⟩
abbrev b_Sp_openIn : ByteArray := prog_5_method_7_code
theorem t_Sp_openIn : Cond.code y_Sp_openIn b_Sp_openIn 2 (some .int) ∈ tbl := tb_2 87 rfl rfl
theorem hd_Sp_openIn : y_Sp_openIn.cls ≠ "java/lang/invoke/MethodHandle" ∧ y_Sp_openIn.cls ≠ "java/lang/invoke/VarHandle" ∧ (parseMethodDescriptor y_Sp_openIn.desc).map (fun d => d.parameters.length) = some 1 := by decide +kernel
abbrev y_Sp_packed : MethodName := ⟨"ClaimDesk$Space", "packed", "(I)I"⟩
abbrev b_Sp_packed : ByteArray := prog_5_method_6_code
theorem t_Sp_packed : Cond.code y_Sp_packed b_Sp_packed 2 (some .int) ∈ tbl := tb_2 91 rfl rfl
theorem hd_Sp_packed : y_Sp_packed.cls ≠ "java/lang/invoke/MethodHandle" ∧ y_Sp_packed.cls ≠ "java/lang/invoke/VarHandle" ∧ (parseMethodDescriptor y_Sp_packed.desc).map (fun d => d.parameters.length) = some 1 := by decide +kernel
abbrev y_Av_ruleOut : MethodName := ⟨"ClaimDesk$Avoidance", "ruleOut", "(I)V"⟩
abbrev b_Av_ruleOut : ByteArray := prog_2_method_3_code
theorem t_Av_ruleOut : Cond.code y_Av_ruleOut b_Av_ruleOut 2 none ∈ tbl := tb_2 96 rfl rfl
theorem hd_Av_ruleOut : y_Av_ruleOut.cls ≠ "java/lang/invoke/MethodHandle" ∧ y_Av_ruleOut.cls ≠ "java/lang/invoke/VarHandle" ∧ (parseMethodDescriptor y_Av_ruleOut.desc).map (fun d => d.parameters.length) = some 1 := by decide +kernel
abbrev y_Av_closeWaysInto : MethodName := ⟨"ClaimDesk$Avoidance", "closeWaysInto", "(ILClaimDesk$Space;)V"⟩
abbrev b_Av_closeWaysInto : ByteArray := prog_2_method_4_code
theorem t_Av_closeWaysInto : Cond.code y_Av_closeWaysInto b_Av_closeWaysInto 6 none ∈ tbl := tb_2 100 rfl rfl
theorem hd_Av_closeWaysInto : y_Av_closeWaysInto.cls ≠ "java/lang/invoke/MethodHandle" ∧ y_Av_closeWaysInto.cls ≠ "java/lang/invoke/VarHandle" ∧ (parseMethodDescriptor y_Av_closeWaysInto.desc).map (fun d => d.parameters.length) = some 2 := by decide +kernel
abbrev y_Sp_lastPairInto : MethodName := ⟨"ClaimDesk$Space", "lastPairInto", "(I)I"⟩
abbrev b_Sp_lastPairInto : ByteArray := prog_5_method_9_code
theorem t_Sp_lastPairInto : Cond.code y_Sp_lastPairInto b_Sp_lastPairInto 2 (some .int) ∈ tbl := tb_2 104 rfl rfl
theorem hd_Sp_lastPairInto : y_Sp_lastPairInto.cls ≠ "java/lang/invoke/MethodHandle" ∧ y_Sp_lastPairInto.cls ≠ "java/lang/invoke/VarHandle" ∧ (parseMethodDescriptor y_Sp_lastPairInto.desc).map (fun d => d.parameters.length) = some 1 := by decide +kernel
abbrev y_Sp_pairBefore : MethodName := ⟨"ClaimDesk$Space", "pairBefore", "(I)I"⟩
abbrev b_Sp_pairBefore : ByteArray := prog_5_method_10_code
theorem t_Sp_pairBefore : Cond.code y_Sp_pairBefore b_Sp_pairBefore 2 (some .int) ∈ tbl := tb_2 108 rfl rfl
theorem hd_Sp_pairBefore : y_Sp_pairBefore.cls ≠ "java/lang/invoke/MethodHandle" ∧ y_Sp_pairBefore.cls ≠ "java/lang/invoke/VarHandle" ∧ (parseMethodDescriptor y_Sp_pairBefore.desc).map (fun d => d.parameters.length) = some 1 := by decide +kernel
abbrev y_Av_least : MethodName := ⟨"ClaimDesk$Avoidance", "least", "(LClaimDesk$Space;)I"⟩
abbrev b_Av_least : ByteArray := prog_2_method_5_code
theorem t_Av_least : Cond.code y_Av_least b_Av_least 3 (some .int) ∈ tbl := tb_2 112 rfl rfl
theorem hd_Av_least : y_Av_least.cls ≠ "java/lang/invoke/MethodHandle" ∧ y_Av_least.cls ≠ "java/lang/invoke/VarHandle" ∧ (parseMethodDescriptor y_Av_least.desc).map (fun d => d.parameters.length) = some 1 := by decide +kernel
abbrev y_Av_howMany : MethodName := ⟨"ClaimDesk$Avoidance", "howMany", "(LClaimDesk$Space;)I"⟩
abbrev b_Av_howMany : ByteArray := prog_2_method_6_code
theorem t_Av_howMany : Cond.code y_Av_howMany b_Av_howMany 4 (some .int) ∈ tbl := tb_2 116 rfl rfl
theorem hd_Av_howMany : y_Av_howMany.cls ≠ "java/lang/invoke/MethodHandle" ∧ y_Av_howMany.cls ≠ "java/lang/invoke/VarHandle" ∧ (parseMethodDescriptor y_Av_howMany.desc).map (fun d => d.parameters.length) = some 1 := by decide +kernel
abbrev y_Ds_way : MethodName := ⟨"ClaimDesk", "way", "(II)I"⟩
abbrev b_Ds_way : ByteArray := prog_1_method_11_code
theorem t_Ds_way : Cond.code y_Ds_way b_Ds_way 3 (some .int) ∈ tbl := tb_2 120 rfl rfl
theorem hd_Ds_way : y_Ds_way.cls ≠ "java/lang/invoke/MethodHandle" ∧ y_Ds_way.cls ≠ "java/lang/invoke/VarHandle" ∧ (parseMethodDescriptor y_Ds_way.desc).map (fun d => d.parameters.length) = some 2 := by decide +kernel
abbrev y_Sp_has : MethodName := ⟨"ClaimDesk$Space", "has", "(I)Z"⟩
abbrev b_Sp_has : ByteArray := prog_5_method_4_code
theorem t_Sp_has : Cond.code y_Sp_has b_Sp_has 2 (some .boolean) ∈ tbl := tb_2 124 rfl rfl
theorem hd_Sp_has : y_Sp_has.cls ≠ "java/lang/invoke/MethodHandle" ∧ y_Sp_has.cls ≠ "java/lang/invoke/VarHandle" ∧ (parseMethodDescriptor y_Sp_has.desc).map (fun d => d.parameters.length) = some 1 := by decide +kernel
abbrev y_Sp_wayLength : MethodName := ⟨"ClaimDesk$Space", "wayLength", "(I)I"⟩
abbrev b_Sp_wayLength : ByteArray := prog_5_method_8_code
theorem t_Sp_wayLength : Cond.code y_Sp_wayLength b_Sp_wayLength 2 (some .int) ∈ tbl := tb_2 129 rfl rfl
theorem hd_Sp_wayLength : y_Sp_wayLength.cls ≠ "java/lang/invoke/MethodHandle" ∧ y_Sp_wayLength.cls ≠ "java/lang/invoke/VarHandle" ∧ (parseMethodDescriptor y_Sp_wayLength.desc).map (fun d => d.parameters.length) = some 1 := by decide +kernel
abbrev y_Sp_wayStep : MethodName := ⟨"ClaimDesk$Space", "wayStep", "(II)I"⟩
abbrev b_Sp_wayStep : ByteArray := prog_5_method_19_code
theorem t_Sp_wayStep : Cond.code y_Sp_wayStep b_Sp_wayStep 5 (some .int) ∈ tbl := tb_2 133 rfl rfl
theorem hd_Sp_wayStep : y_Sp_wayStep.cls ≠ "java/lang/invoke/MethodHandle" ∧ y_Sp_wayStep.cls ≠ "java/lang/invoke/VarHandle" ∧ (parseMethodDescriptor y_Sp_wayStep.desc).map (fun d => d.parameters.length) = some 2 := by decide +kernel
abbrev y_Ds_state : MethodName := ⟨"ClaimDesk", "state", "(II)I"⟩
abbrev b_Ds_state : ByteArray := prog_1_method_12_code
theorem t_Ds_state : Cond.code y_Ds_state b_Ds_state 3 (some .int) ∈ tbl := tb_2 137 rfl rfl
theorem hd_Ds_state : y_Ds_state.cls ≠ "java/lang/invoke/MethodHandle" ∧ y_Ds_state.cls ≠ "java/lang/invoke/VarHandle" ∧ (parseMethodDescriptor y_Ds_state.desc).map (fun d => d.parameters.length) = some 2 := by decide +kernel
abbrev y_Sp_differentNext : MethodName := ⟨"ClaimDesk$Space", "differentNext", "(I)I"⟩
abbrev b_Sp_differentNext : ByteArray := prog_5_method_24_code
theorem t_Sp_differentNext : Cond.code y_Sp_differentNext b_Sp_differentNext 4 (some .int) ∈ tbl := tb_2 142 rfl rfl
theorem hd_Sp_differentNext : y_Sp_differentNext.cls ≠ "java/lang/invoke/MethodHandle" ∧ y_Sp_differentNext.cls ≠ "java/lang/invoke/VarHandle" ∧ (parseMethodDescriptor y_Sp_differentNext.desc).map (fun d => d.parameters.length) = some 1 := by decide +kernel
abbrev y_Sp_isNewNext : MethodName := ⟨"ClaimDesk$Space", "isNewNext", "(II)Z"⟩
abbrev b_Sp_isNewNext : ByteArray := prog_5_method_25_code
theorem t_Sp_isNewNext : Cond.code y_Sp_isNewNext b_Sp_isNewNext 5 (some .boolean) ∈ tbl := tb_2 146 rfl rfl
theorem hd_Sp_isNewNext : y_Sp_isNewNext.cls ≠ "java/lang/invoke/MethodHandle" ∧ y_Sp_isNewNext.cls ≠ "java/lang/invoke/VarHandle" ∧ (parseMethodDescriptor y_Sp_isNewNext.desc).map (fun d => d.parameters.length) = some 2 := by decide +kernel
abbrev y_Sp_firstNext : MethodName := ⟨"ClaimDesk$Space", "firstNext", "(I)I"⟩
abbrev b_Sp_firstNext : ByteArray := prog_5_method_23_code
theorem t_Sp_firstNext : Cond.code y_Sp_firstNext b_Sp_firstNext 4 (some .int) ∈ tbl := tb_2 150 rfl rfl
theorem hd_Sp_firstNext : y_Sp_firstNext.cls ≠ "java/lang/invoke/MethodHandle" ∧ y_Sp_firstNext.cls ≠ "java/lang/invoke/VarHandle" ∧ (parseMethodDescriptor y_Sp_firstNext.desc).map (fun d => d.parameters.length) = some 1 := by decide +kernel
abbrev y_Pk_part : MethodName := ⟨"ClaimDesk$Packed", "part", "(II)I"⟩
abbrev b_Pk_part : ByteArray := prog_4_method_12_code
theorem t_Pk_part : Cond.code y_Pk_part b_Pk_part 2 (some .int) ∈ tbl := tb_2 154 rfl rfl
theorem hd_Pk_part : y_Pk_part.cls ≠ "java/lang/invoke/MethodHandle" ∧ y_Pk_part.cls ≠ "java/lang/invoke/VarHandle" ∧ (parseMethodDescriptor y_Pk_part.desc).map (fun d => d.parameters.length) = some 2 := by decide +kernel
abbrev y_Ds_walk : MethodName := ⟨"ClaimDesk", "walk", "(I)Z"⟩
abbrev b_Ds_walk : ByteArray := prog_1_method_13_code
theorem t_Ds_walk : Cond.code y_Ds_walk b_Ds_walk 2 (some .boolean) ∈ tbl := tb_2 160 rfl rfl
theorem hd_Ds_walk : y_Ds_walk.cls ≠ "java/lang/invoke/MethodHandle" ∧ y_Ds_walk.cls ≠ "java/lang/invoke/VarHandle" ∧ (parseMethodDescriptor y_Ds_walk.desc).map (fun d => d.parameters.length) = some 1 := by decide +kernel
abbrev y_Ds_go : MethodName := ⟨"ClaimDesk", "go", "(I)Z"⟩
abbrev b_Ds_go : ByteArray := prog_1_method_14_code
theorem t_Ds_go : Cond.code y_Ds_go b_Ds_go 2 (some .boolean) ∈ tbl := tb_2 166 rfl rfl
theorem hd_Ds_go : y_Ds_go.cls ≠ "java/lang/invoke/MethodHandle" ∧ y_Ds_go.cls ≠ "java/lang/invoke/VarHandle" ∧ (parseMethodDescriptor y_Ds_go.desc).map (fun d => d.parameters.length) = some 1 := by decide +kernel
abbrev y_Ds_now : MethodName := ⟨"ClaimDesk", "now", "(I)I"⟩
abbrev b_Ds_now : ByteArray := prog_1_method_15_code
theorem t_Ds_now : Cond.code y_Ds_now b_Ds_now 2 (some .int) ∈ tbl := tb_2 170 rfl rfl
theorem hd_Ds_now : y_Ds_now.cls ≠ "java/lang/invoke/MethodHandle" ∧ y_Ds_now.cls ≠ "java/lang/invoke/VarHandle" ∧ (parseMethodDescriptor y_Ds_now.desc).map (fun d => d.parameters.length) = some 1 := by decide +kernel
abbrev y_Ds_openNow : MethodName := ⟨"ClaimDesk", "openNow", "()I"⟩
abbrev b_Ds_openNow : ByteArray := prog_1_method_18_code
theorem t_Ds_openNow : Cond.code y_Ds_openNow b_Ds_openNow 3 (some .int) ∈ tbl := tb_2 174 rfl rfl
theorem hd_Ds_openNow : y_Ds_openNow.cls ≠ "java/lang/invoke/MethodHandle" ∧ y_Ds_openNow.cls ≠ "java/lang/invoke/VarHandle" ∧ (parseMethodDescriptor y_Ds_openNow.desc).map (fun d => d.parameters.length) = some 0 := by decide +kernel
abbrev y_Ds_failingNow : MethodName := ⟨"ClaimDesk", "failingNow", "()I"⟩
abbrev b_Ds_failingNow : ByteArray := prog_1_method_19_code
theorem t_Ds_failingNow : Cond.code y_Ds_failingNow b_Ds_failingNow 3 (some .int) ∈ tbl := tb_2 179 rfl rfl
theorem hd_Ds_failingNow : y_Ds_failingNow.cls ≠ "java/lang/invoke/MethodHandle" ∧ y_Ds_failingNow.cls ≠ "java/lang/invoke/VarHandle" ∧ (parseMethodDescriptor y_Ds_failingNow.desc).map (fun d => d.parameters.length) = some 0 := by decide +kernel
abbrev y_Ds_count : MethodName := ⟨"ClaimDesk", "count", "(I)I"⟩
abbrev b_Ds_count : ByteArray := prog_1_method_16_code
theorem t_Ds_count : Cond.code y_Ds_count b_Ds_count 2 (some .int) ∈ tbl := tb_2 184 rfl rfl
theorem hd_Ds_count : y_Ds_count.cls ≠ "java/lang/invoke/MethodHandle" ∧ y_Ds_count.cls ≠ "java/lang/invoke/VarHandle" ∧ (parseMethodDescriptor y_Ds_count.desc).map (fun d => d.parameters.length) = some 1 := by decide +kernel
abbrev y_Sp_pairs : MethodName := ⟨"ClaimDesk$Space", "pairs", "()I"⟩
abbrev b_Sp_pairs : ByteArray := prog_5_method_21_code
theorem t_Sp_pairs : Cond.code y_Sp_pairs b_Sp_pairs 3 (some .int) ∈ tbl := tb_2 188 rfl rfl
theorem hd_Sp_pairs : y_Sp_pairs.cls ≠ "java/lang/invoke/MethodHandle" ∧ y_Sp_pairs.cls ≠ "java/lang/invoke/VarHandle" ∧ (parseMethodDescriptor y_Sp_pairs.desc).map (fun d => d.parameters.length) = some 0 := by decide +kernel
abbrev y_Sp_longestWay : MethodName := ⟨"ClaimDesk$Space", "longestWay", "()I"⟩
abbrev b_Sp_longestWay : ByteArray := prog_5_method_20_code
theorem t_Sp_longestWay : Cond.code y_Sp_longestWay b_Sp_longestWay 3 (some .int) ∈ tbl := tb_2 192 rfl rfl
theorem hd_Sp_longestWay : y_Sp_longestWay.cls ≠ "java/lang/invoke/MethodHandle" ∧ y_Sp_longestWay.cls ≠ "java/lang/invoke/VarHandle" ∧ (parseMethodDescriptor y_Sp_longestWay.desc).map (fun d => d.parameters.length) = some 0 := by decide +kernel
abbrev y_Ma_max : MethodName := ⟨"java/lang/Math", "max", "(II)I"⟩
abbrev b_Ma_max : ByteArray := prog_9_method_65_code
theorem t_Ma_max : Cond.code y_Ma_max b_Ma_max 2 (some .int) ∈ tbl := tb_2 195 rfl rfl
theorem hd_Ma_max : y_Ma_max.cls ≠ "java/lang/invoke/MethodHandle" ∧ y_Ma_max.cls ≠ "java/lang/invoke/VarHandle" ∧ (parseMethodDescriptor y_Ma_max.desc).map (fun d => d.parameters.length) = some 2 := by decide +kernel
abbrev y_Sp_stuckStates : MethodName := ⟨"ClaimDesk$Space", "stuckStates", "(Z)I"⟩
abbrev b_Sp_stuckStates : ByteArray := prog_5_method_28_code
theorem t_Sp_stuckStates : Cond.code y_Sp_stuckStates b_Sp_stuckStates 4 (some .int) ∈ tbl := tb_2 199 rfl rfl
theorem hd_Sp_stuckStates : y_Sp_stuckStates.cls ≠ "java/lang/invoke/MethodHandle" ∧ y_Sp_stuckStates.cls ≠ "java/lang/invoke/VarHandle" ∧ (parseMethodDescriptor y_Sp_stuckStates.desc).map (fun d => d.parameters.length) = some 1 := by decide +kernel
abbrev y_Sp_statesWhereOpen : MethodName := ⟨"ClaimDesk$Space", "statesWhereOpen", "(I)I"⟩
abbrev b_Sp_statesWhereOpen : ByteArray := prog_5_method_22_code
theorem t_Sp_statesWhereOpen : Cond.code y_Sp_statesWhereOpen b_Sp_statesWhereOpen 4 (some .int) ∈ tbl := tb_2 203 rfl rfl
theorem hd_Sp_statesWhereOpen : y_Sp_statesWhereOpen.cls ≠ "java/lang/invoke/MethodHandle" ∧ y_Sp_statesWhereOpen.cls ≠ "java/lang/invoke/VarHandle" ∧ (parseMethodDescriptor y_Sp_statesWhereOpen.desc).map (fun d => d.parameters.length) = some 1 := by decide +kernel
abbrev y_Mo_init : MethodName := ⟨"ClaimDeskModel", "<init>", "()V"⟩
abbrev b_Mo_init : ByteArray := prog_8_method_1_code
theorem t_Mo_init : Cond.code y_Mo_init b_Mo_init 1 none ∈ tbl := tb_2 208 rfl rfl
theorem hd_Mo_init : y_Mo_init.cls ≠ "java/lang/invoke/MethodHandle" ∧ y_Mo_init.cls ≠ "java/lang/invoke/VarHandle" ∧ (parseMethodDescriptor y_Mo_init.desc).map (fun d => d.parameters.length) = some 0 := by decide +kernel
abbrev y_Mo_first : MethodName := ⟨"ClaimDeskModel", "first", "()I"⟩
abbrev b_Mo_first : ByteArray := prog_8_method_3_code
theorem t_Mo_first : Cond.code y_Mo_first b_Mo_first 1 (some .int) ∈ tbl := tb_2 213 rfl rfl
theorem hd_Mo_first : y_Mo_first.cls ≠ "java/lang/invoke/MethodHandle" ∧ y_Mo_first.cls ≠ "java/lang/invoke/VarHandle" ∧ (parseMethodDescriptor y_Mo_first.desc).map (fun d => d.parameters.length) = some 0 := by decide +kernel
abbrev y_Mo_begin : MethodName := ⟨"ClaimDeskModel", "begin", "(I)Z"⟩
abbrev b_Mo_begin : ByteArray := prog_8_method_12_code
theorem t_Mo_begin : Cond.code y_Mo_begin b_Mo_begin 2 (some .boolean) ∈ tbl := tb_3 35 rfl rfl
theorem hd_Mo_begin : y_Mo_begin.cls ≠ "java/lang/invoke/MethodHandle" ∧ y_Mo_begin.cls ≠ "java/lang/invoke/VarHandle" ∧ (parseMethodDescriptor y_Mo_begin.desc).map (fun d => d.parameters.length) = some 1 := by decide +kernel
abbrev y_Mo_in : MethodName := ⟨"ClaimDeskModel", "in", "(III)Z"⟩
abbrev b_Mo_in : ByteArray := prog_8_method_2_code
theorem t_Mo_in : Cond.code y_Mo_in b_Mo_in 3 (some .boolean) ∈ tbl := tb_3 38 rfl rfl
theorem hd_Mo_in : y_Mo_in.cls ≠ "java/lang/invoke/MethodHandle" ∧ y_Mo_in.cls ≠ "java/lang/invoke/VarHandle" ∧ (parseMethodDescriptor y_Mo_in.desc).map (fun d => d.parameters.length) = some 3 := by decide +kernel
abbrev y_Mo_add : MethodName := ⟨"ClaimDeskModel", "add", "(IIII)I"⟩
abbrev b_Mo_add : ByteArray := prog_8_method_15_code
theorem t_Mo_add : Cond.code y_Mo_add b_Mo_add 5 (some .int) ∈ tbl := tb_3 42 rfl rfl
theorem hd_Mo_add : y_Mo_add.cls ≠ "java/lang/invoke/MethodHandle" ∧ y_Mo_add.cls ≠ "java/lang/invoke/VarHandle" ∧ (parseMethodDescriptor y_Mo_add.desc).map (fun d => d.parameters.length) = some 4 := by decide +kernel
abbrev y_Mo_isGood : MethodName := ⟨"ClaimDeskModel", "isGood", "(IIII)Z"⟩
abbrev b_Mo_isGood : ByteArray := prog_8_method_13_code
theorem t_Mo_isGood : Cond.code y_Mo_isGood b_Mo_isGood 4 (some .boolean) ∈ tbl := tb_3 45 rfl rfl
theorem hd_Mo_isGood : y_Mo_isGood.cls ≠ "java/lang/invoke/MethodHandle" ∧ y_Mo_isGood.cls ≠ "java/lang/invoke/VarHandle" ∧ (parseMethodDescriptor y_Mo_isGood.desc).map (fun d => d.parameters.length) = some 4 := by decide +kernel
abbrev y_Mo_set : MethodName := ⟨"ClaimDeskModel", "set", "(IIIII)V"⟩
abbrev b_Mo_set : ByteArray := prog_8_method_14_code
theorem t_Mo_set : Cond.code y_Mo_set b_Mo_set 6 none ∈ tbl := tb_3 49 rfl rfl
theorem hd_Mo_set : y_Mo_set.cls ≠ "java/lang/invoke/MethodHandle" ∧ y_Mo_set.cls ≠ "java/lang/invoke/VarHandle" ∧ (parseMethodDescriptor y_Mo_set.desc).map (fun d => d.parameters.length) = some 5 := by decide +kernel
abbrev y_Mo_change : MethodName := ⟨"ClaimDeskModel", "change", "(IIIII)Z"⟩
abbrev b_Mo_change : ByteArray := prog_8_method_16_code
theorem t_Mo_change : Cond.code y_Mo_change b_Mo_change 6 (some .boolean) ∈ tbl := tb_3 53 rfl rfl
theorem hd_Mo_change : y_Mo_change.cls ≠ "java/lang/invoke/MethodHandle" ∧ y_Mo_change.cls ≠ "java/lang/invoke/VarHandle" ∧ (parseMethodDescriptor y_Mo_change.desc).map (fun d => d.parameters.length) = some 5 := by decide +kernel
abbrev y_Mo_clear : MethodName := ⟨"ClaimDeskModel", "clear", "()I"⟩
abbrev b_Mo_clear : ByteArray := prog_8_method_17_code
theorem t_Mo_clear : Cond.code y_Mo_clear b_Mo_clear 2 (some .int) ∈ tbl := tb_3 57 rfl rfl
theorem hd_Mo_clear : y_Mo_clear.cls ≠ "java/lang/invoke/MethodHandle" ∧ y_Mo_clear.cls ≠ "java/lang/invoke/VarHandle" ∧ (parseMethodDescriptor y_Mo_clear.desc).map (fun d => d.parameters.length) = some 0 := by decide +kernel
abbrev y_Mo_claim : MethodName := ⟨"ClaimDeskModel", "claim", "(III)I"⟩
abbrev b_Mo_claim : ByteArray := prog_8_method_18_code
theorem t_Mo_claim : Cond.code y_Mo_claim b_Mo_claim 5 (some .int) ∈ tbl := tb_3 61 rfl rfl
theorem hd_Mo_claim : y_Mo_claim.cls ≠ "java/lang/invoke/MethodHandle" ∧ y_Mo_claim.cls ≠ "java/lang/invoke/VarHandle" ∧ (parseMethodDescriptor y_Mo_claim.desc).map (fun d => d.parameters.length) = some 3 := by decide +kernel
abbrev y_Mo_explore : MethodName := ⟨"ClaimDeskModel", "explore", "()I"⟩
abbrev b_Mo_explore : ByteArray := prog_8_method_21_code
theorem t_Mo_explore : Cond.code y_Mo_explore b_Mo_explore 4 (some .int) ∈ tbl := tb_3 65 rfl rfl
theorem hd_Mo_explore : y_Mo_explore.cls ≠ "java/lang/invoke/MethodHandle" ∧ y_Mo_explore.cls ≠ "java/lang/invoke/VarHandle" ∧ (parseMethodDescriptor y_Mo_explore.desc).map (fun d => d.parameters.length) = some 0 := by decide +kernel
abbrev y_Mo_isOpen : MethodName := ⟨"ClaimDeskModel", "isOpen", "(II)Z"⟩
abbrev b_Mo_isOpen : ByteArray := prog_8_method_9_code
theorem t_Mo_isOpen : Cond.code y_Mo_isOpen b_Mo_isOpen 6 (some .boolean) ∈ tbl := tb_3 69 rfl rfl
theorem hd_Mo_isOpen : y_Mo_isOpen.cls ≠ "java/lang/invoke/MethodHandle" ∧ y_Mo_isOpen.cls ≠ "java/lang/invoke/VarHandle" ∧ (parseMethodDescriptor y_Mo_isOpen.desc).map (fun d => d.parameters.length) = some 2 := by decide +kernel
abbrev y_Mo_placeOf : MethodName := ⟨"ClaimDeskModel", "placeOf", "(II)I"⟩
abbrev b_Mo_placeOf : ByteArray := prog_8_method_4_code
theorem t_Mo_placeOf : Cond.code y_Mo_placeOf b_Mo_placeOf 2 (some .int) ∈ tbl := tb_3 72 rfl rfl
theorem hd_Mo_placeOf : y_Mo_placeOf.cls ≠ "java/lang/invoke/MethodHandle" ∧ y_Mo_placeOf.cls ≠ "java/lang/invoke/VarHandle" ∧ (parseMethodDescriptor y_Mo_placeOf.desc).map (fun d => d.parameters.length) = some 2 := by decide +kernel
abbrev y_Mo_valueOf : MethodName := ⟨"ClaimDeskModel", "valueOf", "(II)I"⟩
abbrev b_Mo_valueOf : ByteArray := prog_8_method_5_code
theorem t_Mo_valueOf : Cond.code y_Mo_valueOf b_Mo_valueOf 2 (some .int) ∈ tbl := tb_3 75 rfl rfl
theorem hd_Mo_valueOf : y_Mo_valueOf.cls ≠ "java/lang/invoke/MethodHandle" ∧ y_Mo_valueOf.cls ≠ "java/lang/invoke/VarHandle" ∧ (parseMethodDescriptor y_Mo_valueOf.desc).map (fun d => d.parameters.length) = some 2 := by decide +kernel
abbrev y_Mo_sent : MethodName := ⟨"ClaimDeskModel", "sent", "(I)I"⟩
abbrev b_Mo_sent : ByteArray := prog_8_method_6_code
theorem t_Mo_sent : Cond.code y_Mo_sent b_Mo_sent 1 (some .int) ∈ tbl := tb_3 78 rfl rfl
theorem hd_Mo_sent : y_Mo_sent.cls ≠ "java/lang/invoke/MethodHandle" ∧ y_Mo_sent.cls ≠ "java/lang/invoke/VarHandle" ∧ (parseMethodDescriptor y_Mo_sent.desc).map (fun d => d.parameters.length) = some 1 := by decide +kernel
abbrev y_Mo_leads : MethodName := ⟨"ClaimDeskModel", "leads", "(II)I"⟩
abbrev b_Mo_leads : ByteArray := prog_8_method_10_code
theorem t_Mo_leads : Cond.code y_Mo_leads b_Mo_leads 10 (some .int) ∈ tbl := tb_3 82 rfl rfl
theorem hd_Mo_leads : y_Mo_leads.cls ≠ "java/lang/invoke/MethodHandle" ∧ y_Mo_leads.cls ≠ "java/lang/invoke/VarHandle" ∧ (parseMethodDescriptor y_Mo_leads.desc).map (fun d => d.parameters.length) = some 2 := by decide +kernel
abbrev y_Mo_with : MethodName := ⟨"ClaimDeskModel", "with", "(III)I"⟩
abbrev b_Mo_with : ByteArray := prog_8_method_8_code
theorem t_Mo_with : Cond.code y_Mo_with b_Mo_with 3 (some .int) ∈ tbl := tb_3 85 rfl rfl
theorem hd_Mo_with : y_Mo_with.cls ≠ "java/lang/invoke/MethodHandle" ∧ y_Mo_with.cls ≠ "java/lang/invoke/VarHandle" ∧ (parseMethodDescriptor y_Mo_with.desc).map (fun d => d.parameters.length) = some 3 := by decide +kernel
abbrev y_Mo_inChannel : MethodName := ⟨"ClaimDeskModel", "inChannel", "(II)I"⟩
abbrev b_Mo_inChannel : ByteArray := prog_8_method_7_code
theorem t_Mo_inChannel : Cond.code y_Mo_inChannel b_Mo_inChannel 2 (some .int) ∈ tbl := tb_3 89 rfl rfl
theorem hd_Mo_inChannel : y_Mo_inChannel.cls ≠ "java/lang/invoke/MethodHandle" ∧ y_Mo_inChannel.cls ≠ "java/lang/invoke/VarHandle" ∧ (parseMethodDescriptor y_Mo_inChannel.desc).map (fun d => d.parameters.length) = some 2 := by decide +kernel
abbrev y_Mo_find : MethodName := ⟨"ClaimDeskModel", "find", "(I)I"⟩
abbrev b_Mo_find : ByteArray := prog_8_method_20_code
theorem t_Mo_find : Cond.code y_Mo_find b_Mo_find 3 (some .int) ∈ tbl := tb_3 94 rfl rfl
theorem hd_Mo_find : y_Mo_find.cls ≠ "java/lang/invoke/MethodHandle" ∧ y_Mo_find.cls ≠ "java/lang/invoke/VarHandle" ∧ (parseMethodDescriptor y_Mo_find.desc).map (fun d => d.parameters.length) = some 1 := by decide +kernel
abbrev y_Mo_fails : MethodName := ⟨"ClaimDeskModel", "fails", "(I)I"⟩
abbrev b_Mo_fails : ByteArray := prog_8_method_23_code
theorem t_Mo_fails : Cond.code y_Mo_fails b_Mo_fails 3 (some .int) ∈ tbl := tb_3 98 rfl rfl
theorem hd_Mo_fails : y_Mo_fails.cls ≠ "java/lang/invoke/MethodHandle" ∧ y_Mo_fails.cls ≠ "java/lang/invoke/VarHandle" ∧ (parseMethodDescriptor y_Mo_fails.desc).map (fun d => d.parameters.length) = some 1 := by decide +kernel
abbrev y_Mo_failsIn : MethodName := ⟨"ClaimDeskModel", "failsIn", "(II)Z"⟩
abbrev b_Mo_failsIn : ByteArray := prog_8_method_19_code
theorem t_Mo_failsIn : Cond.code y_Mo_failsIn b_Mo_failsIn 5 (some .boolean) ∈ tbl := tb_3 102 rfl rfl
theorem hd_Mo_failsIn : y_Mo_failsIn.cls ≠ "java/lang/invoke/MethodHandle" ∧ y_Mo_failsIn.cls ≠ "java/lang/invoke/VarHandle" ∧ (parseMethodDescriptor y_Mo_failsIn.desc).map (fun d => d.parameters.length) = some 2 := by decide +kernel
abbrev y_Mo_stuck : MethodName := ⟨"ClaimDeskModel", "stuck", "(Z)I"⟩
abbrev b_Mo_stuck : ByteArray := prog_8_method_25_code
theorem t_Mo_stuck : Cond.code y_Mo_stuck b_Mo_stuck 3 (some .int) ∈ tbl := tb_3 106 rfl rfl
theorem hd_Mo_stuck : y_Mo_stuck.cls ≠ "java/lang/invoke/MethodHandle" ∧ y_Mo_stuck.cls ≠ "java/lang/invoke/VarHandle" ∧ (parseMethodDescriptor y_Mo_stuck.desc).map (fun d => d.parameters.length) = some 1 := by decide +kernel
abbrev y_Mo_openIn : MethodName := ⟨"ClaimDeskModel", "openIn", "(I)I"⟩
abbrev b_Mo_openIn : ByteArray := prog_8_method_11_code
theorem t_Mo_openIn : Cond.code y_Mo_openIn b_Mo_openIn 4 (some .int) ∈ tbl := tb_3 110 rfl rfl
theorem hd_Mo_openIn : y_Mo_openIn.cls ≠ "java/lang/invoke/MethodHandle" ∧ y_Mo_openIn.cls ≠ "java/lang/invoke/VarHandle" ∧ (parseMethodDescriptor y_Mo_openIn.desc).map (fun d => d.parameters.length) = some 1 := by decide +kernel
abbrev y_Mo_isDone : MethodName := ⟨"ClaimDeskModel", "isDone", "(I)Z"⟩
abbrev b_Mo_isDone : ByteArray := prog_8_method_24_code
theorem t_Mo_isDone : Cond.code y_Mo_isDone b_Mo_isDone 1 (some .boolean) ∈ tbl := tb_3 113 rfl rfl
theorem hd_Mo_isDone : y_Mo_isDone.cls ≠ "java/lang/invoke/MethodHandle" ∧ y_Mo_isDone.cls ≠ "java/lang/invoke/VarHandle" ∧ (parseMethodDescriptor y_Mo_isDone.desc).map (fun d => d.parameters.length) = some 1 := by decide +kernel
abbrev y_Mo_avoids : MethodName := ⟨"ClaimDeskModel", "avoids", "(II)I"⟩
abbrev b_Mo_avoids : ByteArray := prog_8_method_26_code
theorem t_Mo_avoids : Cond.code y_Mo_avoids b_Mo_avoids 7 (some .int) ∈ tbl := tb_3 117 rfl rfl
theorem hd_Mo_avoids : y_Mo_avoids.cls ≠ "java/lang/invoke/MethodHandle" ∧ y_Mo_avoids.cls ≠ "java/lang/invoke/VarHandle" ∧ (parseMethodDescriptor y_Mo_avoids.desc).map (fun d => d.parameters.length) = some 2 := by decide +kernel
abbrev y_Mo_goesOn : MethodName := ⟨"ClaimDeskModel", "goesOn", "(I)Z"⟩
abbrev b_Mo_goesOn : ByteArray := prog_8_method_27_code
theorem t_Mo_goesOn : Cond.code y_Mo_goesOn b_Mo_goesOn 5 (some .boolean) ∈ tbl := tb_3 121 rfl rfl
theorem hd_Mo_goesOn : y_Mo_goesOn.cls ≠ "java/lang/invoke/MethodHandle" ∧ y_Mo_goesOn.cls ≠ "java/lang/invoke/VarHandle" ∧ (parseMethodDescriptor y_Mo_goesOn.desc).map (fun d => d.parameters.length) = some 1 := by decide +kernel
abbrev y_Mo_way : MethodName := ⟨"ClaimDeskModel", "way", "(II)I"⟩
abbrev b_Mo_way : ByteArray := prog_8_method_28_code
theorem t_Mo_way : Cond.code y_Mo_way b_Mo_way 4 (some .int) ∈ tbl := tb_3 125 rfl rfl
theorem hd_Mo_way : y_Mo_way.cls ≠ "java/lang/invoke/MethodHandle" ∧ y_Mo_way.cls ≠ "java/lang/invoke/VarHandle" ∧ (parseMethodDescriptor y_Mo_way.desc).map (fun d => d.parameters.length) = some 2 := by decide +kernel
abbrev y_Mo_isState : MethodName := ⟨"ClaimDeskModel", "isState", "(I)Z"⟩
abbrev b_Mo_isState : ByteArray := prog_8_method_22_code
theorem t_Mo_isState : Cond.code y_Mo_isState b_Mo_isState 2 (some .boolean) ∈ tbl := tb_3 129 rfl rfl
theorem hd_Mo_isState : y_Mo_isState.cls ≠ "java/lang/invoke/MethodHandle" ∧ y_Mo_isState.cls ≠ "java/lang/invoke/VarHandle" ∧ (parseMethodDescriptor y_Mo_isState.desc).map (fun d => d.parameters.length) = some 1 := by decide +kernel
abbrev y_Mo_state : MethodName := ⟨"ClaimDeskModel", "state", "(II)I"⟩
abbrev b_Mo_state : ByteArray := prog_8_method_30_code
theorem t_Mo_state : Cond.code y_Mo_state b_Mo_state 8 (some .int) ∈ tbl := tb_3 133 rfl rfl
theorem hd_Mo_state : y_Mo_state.cls ≠ "java/lang/invoke/MethodHandle" ∧ y_Mo_state.cls ≠ "java/lang/invoke/VarHandle" ∧ (parseMethodDescriptor y_Mo_state.desc).map (fun d => d.parameters.length) = some 2 := by decide +kernel
abbrev y_Mo_told : MethodName := ⟨"ClaimDeskModel", "told", "(II)I"⟩
abbrev b_Mo_told : ByteArray := prog_8_method_29_code
theorem t_Mo_told : Cond.code y_Mo_told b_Mo_told 3 (some .int) ∈ tbl := tb_3 137 rfl rfl
theorem hd_Mo_told : y_Mo_told.cls ≠ "java/lang/invoke/MethodHandle" ∧ y_Mo_told.cls ≠ "java/lang/invoke/VarHandle" ∧ (parseMethodDescriptor y_Mo_told.desc).map (fun d => d.parameters.length) = some 2 := by decide +kernel
abbrev y_Mo_walk : MethodName := ⟨"ClaimDeskModel", "walk", "(I)Z"⟩
abbrev b_Mo_walk : ByteArray := prog_8_method_31_code
theorem t_Mo_walk : Cond.code y_Mo_walk b_Mo_walk 2 (some .boolean) ∈ tbl := tb_3 141 rfl rfl
theorem hd_Mo_walk : y_Mo_walk.cls ≠ "java/lang/invoke/MethodHandle" ∧ y_Mo_walk.cls ≠ "java/lang/invoke/VarHandle" ∧ (parseMethodDescriptor y_Mo_walk.desc).map (fun d => d.parameters.length) = some 1 := by decide +kernel
abbrev y_Mo_go : MethodName := ⟨"ClaimDeskModel", "go", "(I)Z"⟩
abbrev b_Mo_go : ByteArray := prog_8_method_32_code
theorem t_Mo_go : Cond.code y_Mo_go b_Mo_go 2 (some .boolean) ∈ tbl := tb_3 145 rfl rfl
theorem hd_Mo_go : y_Mo_go.cls ≠ "java/lang/invoke/MethodHandle" ∧ y_Mo_go.cls ≠ "java/lang/invoke/VarHandle" ∧ (parseMethodDescriptor y_Mo_go.desc).map (fun d => d.parameters.length) = some 1 := by decide +kernel
abbrev y_Mo_now : MethodName := ⟨"ClaimDeskModel", "now", "(I)I"⟩
abbrev b_Mo_now : ByteArray := prog_8_method_33_code
theorem t_Mo_now : Cond.code y_Mo_now b_Mo_now 4 (some .int) ∈ tbl := tb_3 149 rfl rfl
theorem hd_Mo_now : y_Mo_now.cls ≠ "java/lang/invoke/MethodHandle" ∧ y_Mo_now.cls ≠ "java/lang/invoke/VarHandle" ∧ (parseMethodDescriptor y_Mo_now.desc).map (fun d => d.parameters.length) = some 1 := by decide +kernel
abbrev y_Mo_count : MethodName := ⟨"ClaimDeskModel", "count", "(I)I"⟩
abbrev b_Mo_count : ByteArray := prog_8_method_34_code
theorem t_Mo_count : Cond.code y_Mo_count b_Mo_count 5 (some .int) ∈ tbl := tb_3 153 rfl rfl
theorem hd_Mo_count : y_Mo_count.cls ≠ "java/lang/invoke/MethodHandle" ∧ y_Mo_count.cls ≠ "java/lang/invoke/VarHandle" ∧ (parseMethodDescriptor y_Mo_count.desc).map (fun d => d.parameters.length) = some 1 := by decide +kernel
theorem ln_Lw : Cond.initialized "ClaimDeskLaw" ∈ tbl := tb_1 0 rfl rfl
theorem ln_Ds : Cond.initialized "ClaimDesk" ∈ tbl := tb_1 1 rfl rfl
theorem ln_Tr : Cond.initialized "ClaimDesk$Transition" ∈ tbl := tb_1 2 rfl rfl
theorem ln_Cm : Cond.initialized "ClaimDesk$Claim" ∈ tbl := tb_1 3 rfl rfl
theorem ln_Sp : Cond.initialized "ClaimDesk$Space" ∈ tbl := tb_1 4 rfl rfl
theorem ln_Av : Cond.initialized "ClaimDesk$Avoidance" ∈ tbl := tb_1 5 rfl rfl
theorem ln_Mo : Cond.initialized "ClaimDeskModel" ∈ tbl := tb_1 6 rfl rfl
theorem ln_Pk : Cond.initialized "ClaimDesk$Packed" ∈ tbl := tb_1 7 rfl rfl
theorem ln_Ar : Cond.initialized "java/util/Arrays" ∈ tbl := tb_1 8 rfl rfl
theorem ln_Ma : Cond.initialized "java/lang/Math" ∈ tbl := tb_1 9 rfl rfl
theorem lc_Lw_7 : Cond.classLink "ClaimDeskLaw" 7 "ClaimDesk" ∈ tbl := tb_1 10 rfl rfl
theorem lx_Ds : Cond.instantiable "ClaimDesk" 9 ∈ tbl := tb_1 11 rfl rfl
theorem lm_Lw_9 : Cond.methodLink "ClaimDeskLaw" 9 y_Ds_init ∈ tbl := tb_1 12 rfl rfl
theorem li_Ds_init : Cond.instanceMethod y_Ds_init ∈ tbl := tb_1 13 rfl rfl
theorem lm_Ds_3 : Cond.methodLink "ClaimDesk" 3 y_Ob_init ∈ tbl := tb_1 15 rfl rfl
theorem li_Ob_init : Cond.instanceMethod y_Ob_init ∈ tbl := tb_1 16 rfl rfl
theorem lc_Ds_9 : Cond.classLink "ClaimDesk" 9 "ClaimDesk$Transition" ∈ tbl := tb_1 18 rfl rfl
theorem lx_Tr : Cond.instantiable "ClaimDesk$Transition" 6 ∈ tbl := tb_1 20 rfl rfl
theorem li_Tr_init : Cond.instanceMethod y_Tr_init ∈ tbl := tb_1 22 rfl rfl
theorem lm_Tr_3 : Cond.methodLink "ClaimDesk$Transition" 3 y_Ob_init ∈ tbl := tb_1 24 rfl rfl
theorem lf_Tr_13 : Cond.fieldLink "ClaimDesk$Transition" 13 "ClaimDesk$Transition" "process" "I" ∈ tbl := tb_1 25 rfl rfl
theorem lf_Tr_19 : Cond.fieldLink "ClaimDesk$Transition" 19 "ClaimDesk$Transition" "from" "I" ∈ tbl := tb_1 26 rfl rfl
theorem lf_Tr_22 : Cond.fieldLink "ClaimDesk$Transition" 22 "ClaimDesk$Transition" "to" "I" ∈ tbl := tb_1 27 rfl rfl
theorem lf_Tr_25 : Cond.fieldLink "ClaimDesk$Transition" 25 "ClaimDesk$Transition" "kind" "I" ∈ tbl := tb_1 28 rfl rfl
theorem lf_Tr_28 : Cond.fieldLink "ClaimDesk$Transition" 28 "ClaimDesk$Transition" "a" "I" ∈ tbl := tb_1 29 rfl rfl
theorem lf_Tr_31 : Cond.fieldLink "ClaimDesk$Transition" 31 "ClaimDesk$Transition" "b" "I" ∈ tbl := tb_1 30 rfl rfl
theorem lc_Ds_16 : Cond.classLink "ClaimDesk" 16 "ClaimDesk$Claim" ∈ tbl := tb_1 44 rfl rfl
theorem lx_Cm : Cond.instantiable "ClaimDesk$Claim" 3 ∈ tbl := tb_1 46 rfl rfl
theorem li_Cm_init : Cond.instanceMethod y_Cm_init ∈ tbl := tb_1 48 rfl rfl
theorem lm_Cm_3 : Cond.methodLink "ClaimDesk$Claim" 3 y_Ob_init ∈ tbl := tb_1 50 rfl rfl
theorem lf_Cm_13 : Cond.fieldLink "ClaimDesk$Claim" 13 "ClaimDesk$Claim" "sort" "I" ∈ tbl := tb_1 51 rfl rfl
theorem lf_Cm_19 : Cond.fieldLink "ClaimDesk$Claim" 19 "ClaimDesk$Claim" "a" "I" ∈ tbl := tb_1 52 rfl rfl
theorem lf_Cm_22 : Cond.fieldLink "ClaimDesk$Claim" 22 "ClaimDesk$Claim" "b" "I" ∈ tbl := tb_1 53 rfl rfl
theorem lc_Ds_23 : Cond.classLink "ClaimDesk" 23 "ClaimDesk$Space" ∈ tbl := tb_1 61 rfl rfl
theorem lx_Sp : Cond.instantiable "ClaimDesk$Space" 10 ∈ tbl := tb_1 62 rfl rfl
theorem li_Sp_init : Cond.instanceMethod y_Sp_init ∈ tbl := tb_1 64 rfl rfl
theorem lm_Sp_3 : Cond.methodLink "ClaimDesk$Space" 3 y_Ob_init ∈ tbl := tb_1 66 rfl rfl
theorem lf_Sp_9 : Cond.fieldLink "ClaimDesk$Space" 9 "ClaimDesk$Space" "states" "[I" ∈ tbl := tb_1 67 rfl rfl
theorem lf_Sp_15 : Cond.fieldLink "ClaimDesk$Space" 15 "ClaimDesk$Space" "foundFrom" "[I" ∈ tbl := tb_1 68 rfl rfl
theorem lf_Sp_18 : Cond.fieldLink "ClaimDesk$Space" 18 "ClaimDesk$Space" "foundBy" "[I" ∈ tbl := tb_1 69 rfl rfl
theorem lf_Sp_21 : Cond.fieldLink "ClaimDesk$Space" 21 "ClaimDesk$Space" "lengths" "[I" ∈ tbl := tb_1 70 rfl rfl
theorem lf_Sp_24 : Cond.fieldLink "ClaimDesk$Space" 24 "ClaimDesk$Space" "openCounts" "[I" ∈ tbl := tb_1 71 rfl rfl
theorem lf_Sp_27 : Cond.fieldLink "ClaimDesk$Space" 27 "ClaimDesk$Space" "next" "[I" ∈ tbl := tb_1 72 rfl rfl
theorem lf_Sp_30 : Cond.fieldLink "ClaimDesk$Space" 30 "ClaimDesk$Space" "lastInto" "[I" ∈ tbl := tb_1 73 rfl rfl
theorem lf_Sp_33 : Cond.fieldLink "ClaimDesk$Space" 33 "ClaimDesk$Space" "pairsBefore" "[I" ∈ tbl := tb_1 74 rfl rfl
theorem lf_Sp_36 : Cond.fieldLink "ClaimDesk$Space" 36 "ClaimDesk$Space" "slots" "[I" ∈ tbl := tb_1 75 rfl rfl
theorem lf_Sp_39 : Cond.fieldLink "ClaimDesk$Space" 39 "ClaimDesk$Space" "size" "I" ∈ tbl := tb_1 76 rfl rfl
theorem la_int : Cond.arrayClass .int ∈ tbl := tb_1 98 rfl rfl
theorem lc_Ds_30 : Cond.classLink "ClaimDesk" 30 "ClaimDesk$Avoidance" ∈ tbl := tb_1 99 rfl rfl
theorem lx_Av : Cond.instantiable "ClaimDesk$Avoidance" 4 ∈ tbl := tb_1 100 rfl rfl
theorem li_Av_init : Cond.instanceMethod y_Av_init ∈ tbl := tb_1 102 rfl rfl
theorem lm_Av_3 : Cond.methodLink "ClaimDesk$Avoidance" 3 y_Ob_init ∈ tbl := tb_1 104 rfl rfl
theorem lf_Av_9 : Cond.fieldLink "ClaimDesk$Avoidance" 9 "ClaimDesk$Avoidance" "ruledOut" "[Z" ∈ tbl := tb_1 105 rfl rfl
theorem lf_Av_15 : Cond.fieldLink "ClaimDesk$Avoidance" 15 "ClaimDesk$Avoidance" "left" "[I" ∈ tbl := tb_1 106 rfl rfl
theorem lf_Av_19 : Cond.fieldLink "ClaimDesk$Avoidance" 19 "ClaimDesk$Avoidance" "waiting" "[I" ∈ tbl := tb_1 107 rfl rfl
theorem lf_Av_22 : Cond.fieldLink "ClaimDesk$Avoidance" 22 "ClaimDesk$Avoidance" "waitingCount" "I" ∈ tbl := tb_1 108 rfl rfl
theorem la_boolean : Cond.arrayClass .boolean ∈ tbl := tb_1 118 rfl rfl
theorem lf_Ds_11 : Cond.fieldLink "ClaimDesk" 11 "ClaimDesk" "transitions" "[LClaimDesk$Transition;" ∈ tbl := tb_1 119 rfl rfl
theorem lf_Ds_18 : Cond.fieldLink "ClaimDesk" 18 "ClaimDesk" "claims" "[LClaimDesk$Claim;" ∈ tbl := tb_1 120 rfl rfl
theorem lf_Ds_26 : Cond.fieldLink "ClaimDesk" 26 "ClaimDesk" "space" "LClaimDesk$Space;" ∈ tbl := tb_1 121 rfl rfl
theorem lf_Ds_33 : Cond.fieldLink "ClaimDesk" 33 "ClaimDesk" "avoidance" "LClaimDesk$Avoidance;" ∈ tbl := tb_1 122 rfl rfl
theorem lf_Ds_61 : Cond.fieldLink "ClaimDesk" 61 "ClaimDesk" "transitionCount" "I" ∈ tbl := tb_1 123 rfl rfl
theorem lf_Ds_68 : Cond.fieldLink "ClaimDesk" 68 "ClaimDesk" "claimCount" "I" ∈ tbl := tb_1 124 rfl rfl
theorem lf_Ds_47 : Cond.fieldLink "ClaimDesk" 47 "ClaimDesk" "firstState" "I" ∈ tbl := tb_1 125 rfl rfl
theorem lf_Ds_134 : Cond.fieldLink "ClaimDesk" 134 "ClaimDesk" "stateNow" "I" ∈ tbl := tb_1 126 rfl rfl
theorem lf_Ds_143 : Cond.fieldLink "ClaimDesk" 143 "ClaimDesk" "steps" "I" ∈ tbl := tb_1 127 rfl rfl
theorem lm_Lw_13 : Cond.methodLink "ClaimDeskLaw" 13 y_Ds_begin ∈ tbl := tb_1 147 rfl rfl
theorem li_Ds_begin : Cond.instanceMethod y_Ds_begin ∈ tbl := tb_1 148 rfl rfl
theorem ls_Ds_begin : Cond.selects "ClaimDesk" y_Ds_begin y_Ds_begin ∈ tbl := tb_1 149 rfl rfl
theorem lm_Ds_37 : Cond.methodLink "ClaimDesk" 37 y_Ds_isBelow ∈ tbl := tb_1 151 rfl rfl
theorem lt_Ds_isBelow : Cond.static y_Ds_isBelow ∈ tbl := tb_1 152 rfl rfl
theorem lm_Ds_41 : Cond.methodLink "ClaimDesk" 41 y_Pk_first ∈ tbl := tb_1 154 rfl rfl
theorem lt_Pk_first : Cond.static y_Pk_first ∈ tbl := tb_1 155 rfl rfl
theorem lm_Ds_51 : Cond.methodLink "ClaimDesk" 51 y_Ds_returnToFirst ∈ tbl := tb_1 157 rfl rfl
theorem li_Ds_returnToFirst : Cond.instanceMethod y_Ds_returnToFirst ∈ tbl := tb_1 159 rfl rfl
theorem lm_Ds_54 : Cond.methodLink "ClaimDesk" 54 y_Sp_forget ∈ tbl := tb_1 161 rfl rfl
theorem li_Sp_forget : Cond.instanceMethod y_Sp_forget ∈ tbl := tb_1 162 rfl rfl
theorem ls_Sp_forget : Cond.selects "ClaimDesk$Space" y_Sp_forget y_Sp_forget ∈ tbl := tb_1 163 rfl rfl
theorem lm_Lw_18 : Cond.methodLink "ClaimDeskLaw" 18 y_Ds_add ∈ tbl := tb_1 165 rfl rfl
theorem li_Ds_add : Cond.instanceMethod y_Ds_add ∈ tbl := tb_1 166 rfl rfl
theorem ls_Ds_add : Cond.selects "ClaimDesk" y_Ds_add y_Ds_add ∈ tbl := tb_1 167 rfl rfl
theorem lm_Ds_57 : Cond.methodLink "ClaimDesk" 57 y_Tr_isAsSaid ∈ tbl := tb_1 169 rfl rfl
theorem lt_Tr_isAsSaid : Cond.static y_Tr_isAsSaid ∈ tbl := tb_1 170 rfl rfl
theorem lm_Ds_64 : Cond.methodLink "ClaimDesk" 64 y_Tr_become ∈ tbl := tb_1 173 rfl rfl
theorem li_Tr_become : Cond.instanceMethod y_Tr_become ∈ tbl := tb_1 174 rfl rfl
theorem ls_Tr_become : Cond.selects "ClaimDesk$Transition" y_Tr_become y_Tr_become ∈ tbl := tb_1 175 rfl rfl
theorem lm_Lw_23 : Cond.methodLink "ClaimDeskLaw" 23 y_Ds_change ∈ tbl := tb_1 177 rfl rfl
theorem li_Ds_change : Cond.instanceMethod y_Ds_change ∈ tbl := tb_1 178 rfl rfl
theorem ls_Ds_change : Cond.selects "ClaimDesk" y_Ds_change y_Ds_change ∈ tbl := tb_1 179 rfl rfl
theorem lm_Lw_28 : Cond.methodLink "ClaimDeskLaw" 28 y_Ds_clear ∈ tbl := tb_1 181 rfl rfl
theorem li_Ds_clear : Cond.instanceMethod y_Ds_clear ∈ tbl := tb_1 182 rfl rfl
theorem ls_Ds_clear : Cond.selects "ClaimDesk" y_Ds_clear y_Ds_clear ∈ tbl := tb_1 183 rfl rfl
theorem lm_Lw_33 : Cond.methodLink "ClaimDeskLaw" 33 y_Ds_claim ∈ tbl := tb_1 185 rfl rfl
theorem li_Ds_claim : Cond.instanceMethod y_Ds_claim ∈ tbl := tb_1 186 rfl rfl
theorem ls_Ds_claim : Cond.selects "ClaimDesk" y_Ds_claim y_Ds_claim ∈ tbl := tb_1 187 rfl rfl
theorem lm_Ds_71 : Cond.methodLink "ClaimDesk" 71 y_Cm_isAsSaid ∈ tbl := tb_1 189 rfl rfl
theorem lt_Cm_isAsSaid : Cond.static y_Cm_isAsSaid ∈ tbl := tb_1 190 rfl rfl
theorem lm_Ds_74 : Cond.methodLink "ClaimDesk" 74 y_Cm_become ∈ tbl := tb_1 193 rfl rfl
theorem li_Cm_become : Cond.instanceMethod y_Cm_become ∈ tbl := tb_1 194 rfl rfl
theorem ls_Cm_become : Cond.selects "ClaimDesk$Claim" y_Cm_become y_Cm_become ∈ tbl := tb_1 195 rfl rfl
theorem lm_Lw_38 : Cond.methodLink "ClaimDeskLaw" 38 y_Ds_explore ∈ tbl := tb_1 197 rfl rfl
theorem li_Ds_explore : Cond.instanceMethod y_Ds_explore ∈ tbl := tb_1 198 rfl rfl
theorem ls_Ds_explore : Cond.selects "ClaimDesk" y_Ds_explore y_Ds_explore ∈ tbl := tb_1 199 rfl rfl
theorem lm_Ds_77 : Cond.methodLink "ClaimDesk" 77 y_Sp_make ∈ tbl := tb_1 201 rfl rfl
theorem li_Sp_make : Cond.instanceMethod y_Sp_make ∈ tbl := tb_1 202 rfl rfl
theorem ls_Sp_make : Cond.selects "ClaimDesk$Space" y_Sp_make y_Sp_make ∈ tbl := tb_1 203 rfl rfl
theorem lm_Sp_47 : Cond.methodLink "ClaimDesk$Space" 47 y_Ar_fill ∈ tbl := tb_1 205 rfl rfl
theorem lt_Ar_fill : Cond.static y_Ar_fill ∈ tbl := tb_1 206 rfl rfl
theorem lm_Sp_53 : Cond.methodLink "ClaimDesk$Space" 53 y_Sp_append ∈ tbl := tb_1 208 rfl rfl
theorem li_Sp_append : Cond.instanceMethod y_Sp_append ∈ tbl := tb_1 210 rfl rfl
theorem lm_Sp_85 : Cond.methodLink "ClaimDesk$Space" 85 y_Sp_putIntoSlot ∈ tbl := tb_1 212 rfl rfl
theorem li_Sp_putIntoSlot : Cond.instanceMethod y_Sp_putIntoSlot ∈ tbl := tb_1 214 rfl rfl
theorem lm_Sp_89 : Cond.methodLink "ClaimDesk$Space" 89 y_Sp_slotFor ∈ tbl := tb_1 216 rfl rfl
theorem lt_Sp_slotFor : Cond.static y_Sp_slotFor ∈ tbl := tb_1 217 rfl rfl
theorem lk_Sp_93 : Cond.constant "ClaimDesk$Space" 93 (-1640531535) ∈ tbl := tb_1 219 rfl rfl
theorem lm_Sp_57 : Cond.methodLink "ClaimDesk$Space" 57 y_Sp_goOnFrom ∈ tbl := tb_1 220 rfl rfl
theorem li_Sp_goOnFrom : Cond.instanceMethod y_Sp_goOnFrom ∈ tbl := tb_1 222 rfl rfl
theorem lm_Sp_64 : Cond.methodLink "ClaimDesk$Space" 64 y_Tr_isOpenIn ∈ tbl := tb_1 224 rfl rfl
theorem li_Tr_isOpenIn : Cond.instanceMethod y_Tr_isOpenIn ∈ tbl := tb_1 225 rfl rfl
theorem ls_Tr_isOpenIn : Cond.selects "ClaimDesk$Transition" y_Tr_isOpenIn y_Tr_isOpenIn ∈ tbl := tb_1 226 rfl rfl
theorem lm_Tr_34 : Cond.methodLink "ClaimDesk$Transition" 34 y_Pk_place ∈ tbl := tb_1 228 rfl rfl
theorem lt_Pk_place : Cond.static y_Pk_place ∈ tbl := tb_1 229 rfl rfl
theorem lm_Tr_40 : Cond.methodLink "ClaimDesk$Transition" 40 y_Tr_allows ∈ tbl := tb_1 231 rfl rfl
theorem li_Tr_allows : Cond.instanceMethod y_Tr_allows ∈ tbl := tb_1 233 rfl rfl
theorem lm_Tr_44 : Cond.methodLink "ClaimDesk$Transition" 44 y_Pk_variable ∈ tbl := tb_1 235 rfl rfl
theorem lt_Pk_variable : Cond.static y_Pk_variable ∈ tbl := tb_1 236 rfl rfl
theorem lm_Tr_47 : Cond.methodLink "ClaimDesk$Transition" 47 y_Pk_channelLength ∈ tbl := tb_1 238 rfl rfl
theorem lt_Pk_channelLength : Cond.static y_Pk_channelLength ∈ tbl := tb_1 239 rfl rfl
theorem lm_Sp_70 : Cond.methodLink "ClaimDesk$Space" 70 y_Tr_leadsFrom ∈ tbl := tb_2 1 rfl rfl
theorem li_Tr_leadsFrom : Cond.instanceMethod y_Tr_leadsFrom ∈ tbl := tb_2 2 rfl rfl
theorem ls_Tr_leadsFrom : Cond.selects "ClaimDesk$Transition" y_Tr_leadsFrom y_Tr_leadsFrom ∈ tbl := tb_2 3 rfl rfl
theorem lm_Tr_51 : Cond.methodLink "ClaimDesk$Transition" 51 y_Tr_withEffect ∈ tbl := tb_2 5 rfl rfl
theorem li_Tr_withEffect : Cond.instanceMethod y_Tr_withEffect ∈ tbl := tb_2 7 rfl rfl
theorem lm_Tr_58 : Cond.methodLink "ClaimDesk$Transition" 58 y_Pk_withVariable ∈ tbl := tb_2 9 rfl rfl
theorem lt_Pk_withVariable : Cond.static y_Pk_withVariable ∈ tbl := tb_2 10 rfl rfl
theorem lm_Tr_61 : Cond.methodLink "ClaimDesk$Transition" 61 y_Pk_withSent ∈ tbl := tb_2 12 rfl rfl
theorem lt_Pk_withSent : Cond.static y_Pk_withSent ∈ tbl := tb_2 13 rfl rfl
theorem lm_Pk_11 : Cond.methodLink "ClaimDesk$Packed" 11 y_Pk_channelLength ∈ tbl := tb_2 15 rfl rfl
theorem lk_Pk_15 : Cond.constant "ClaimDesk$Packed" 15 (131072) ∈ tbl := tb_2 16 rfl rfl
theorem lm_Tr_64 : Cond.methodLink "ClaimDesk$Transition" 64 y_Pk_withoutFirst ∈ tbl := tb_2 17 rfl rfl
theorem lt_Pk_withoutFirst : Cond.static y_Pk_withoutFirst ∈ tbl := tb_2 18 rfl rfl
theorem lk_Pk_16 : Cond.constant "ClaimDesk$Packed" 16 (131071) ∈ tbl := tb_2 20 rfl rfl
theorem lm_Tr_67 : Cond.methodLink "ClaimDesk$Transition" 67 y_Pk_channelValue ∈ tbl := tb_2 21 rfl rfl
theorem lt_Pk_channelValue : Cond.static y_Pk_channelValue ∈ tbl := tb_2 22 rfl rfl
theorem lm_Tr_54 : Cond.methodLink "ClaimDesk$Transition" 54 y_Pk_withPlace ∈ tbl := tb_2 24 rfl rfl
theorem lt_Pk_withPlace : Cond.static y_Pk_withPlace ∈ tbl := tb_2 25 rfl rfl
theorem lm_Sp_74 : Cond.methodLink "ClaimDesk$Space" 74 y_Sp_numberFor ∈ tbl := tb_2 27 rfl rfl
theorem li_Sp_numberFor : Cond.instanceMethod y_Sp_numberFor ∈ tbl := tb_2 29 rfl rfl
theorem lm_Sp_82 : Cond.methodLink "ClaimDesk$Space" 82 y_Sp_numberOf ∈ tbl := tb_2 31 rfl rfl
theorem li_Sp_numberOf : Cond.instanceMethod y_Sp_numberOf ∈ tbl := tb_2 32 rfl rfl
theorem ls_Sp_numberOf : Cond.selects "ClaimDesk$Space" y_Sp_numberOf y_Sp_numberOf ∈ tbl := tb_2 33 rfl rfl
theorem lm_Sp_78 : Cond.methodLink "ClaimDesk$Space" 78 y_Sp_join ∈ tbl := tb_2 35 rfl rfl
theorem li_Sp_join : Cond.instanceMethod y_Sp_join ∈ tbl := tb_2 37 rfl rfl
theorem lm_Sp_61 : Cond.methodLink "ClaimDesk$Space" 61 y_Sp_forget ∈ tbl := tb_2 39 rfl rfl
theorem lm_Ds_81 : Cond.methodLink "ClaimDesk" 81 y_Sp_size ∈ tbl := tb_2 40 rfl rfl
theorem li_Sp_size : Cond.instanceMethod y_Sp_size ∈ tbl := tb_2 41 rfl rfl
theorem ls_Sp_size : Cond.selects "ClaimDesk$Space" y_Sp_size y_Sp_size ∈ tbl := tb_2 42 rfl rfl
theorem lm_Lw_42 : Cond.methodLink "ClaimDeskLaw" 42 y_Ds_fails ∈ tbl := tb_2 44 rfl rfl
theorem li_Ds_fails : Cond.instanceMethod y_Ds_fails ∈ tbl := tb_2 45 rfl rfl
theorem ls_Ds_fails : Cond.selects "ClaimDesk" y_Ds_fails y_Ds_fails ∈ tbl := tb_2 46 rfl rfl
theorem lm_Ds_85 : Cond.methodLink "ClaimDesk" 85 y_Sp_leastFailing ∈ tbl := tb_2 48 rfl rfl
theorem li_Sp_leastFailing : Cond.instanceMethod y_Sp_leastFailing ∈ tbl := tb_2 49 rfl rfl
theorem ls_Sp_leastFailing : Cond.selects "ClaimDesk$Space" y_Sp_leastFailing y_Sp_leastFailing ∈ tbl := tb_2 50 rfl rfl
theorem lm_Sp_102 : Cond.methodLink "ClaimDesk$Space" 102 y_Cm_failsIn ∈ tbl := tb_2 52 rfl rfl
theorem li_Cm_failsIn : Cond.instanceMethod y_Cm_failsIn ∈ tbl := tb_2 53 rfl rfl
theorem ls_Cm_failsIn : Cond.selects "ClaimDesk$Claim" y_Cm_failsIn y_Cm_failsIn ∈ tbl := tb_2 54 rfl rfl
theorem lm_Cm_25 : Cond.methodLink "ClaimDesk$Claim" 25 y_Pk_variable ∈ tbl := tb_2 56 rfl rfl
theorem lm_Cm_31 : Cond.methodLink "ClaimDesk$Claim" 31 y_Pk_place ∈ tbl := tb_2 57 rfl rfl
theorem lm_Cm_34 : Cond.methodLink "ClaimDesk$Claim" 34 y_Pk_channelLength ∈ tbl := tb_2 58 rfl rfl
theorem lm_Lw_47 : Cond.methodLink "ClaimDeskLaw" 47 y_Ds_stuck ∈ tbl := tb_2 59 rfl rfl
theorem li_Ds_stuck : Cond.instanceMethod y_Ds_stuck ∈ tbl := tb_2 60 rfl rfl
theorem ls_Ds_stuck : Cond.selects "ClaimDesk" y_Ds_stuck y_Ds_stuck ∈ tbl := tb_2 61 rfl rfl
theorem lm_Ds_89 : Cond.methodLink "ClaimDesk" 89 y_Sp_leastStuck ∈ tbl := tb_2 63 rfl rfl
theorem li_Sp_leastStuck : Cond.instanceMethod y_Sp_leastStuck ∈ tbl := tb_2 64 rfl rfl
theorem ls_Sp_leastStuck : Cond.selects "ClaimDesk$Space" y_Sp_leastStuck y_Sp_leastStuck ∈ tbl := tb_2 65 rfl rfl
theorem lm_Sp_107 : Cond.methodLink "ClaimDesk$Space" 107 y_Pk_allAtLastPlace ∈ tbl := tb_2 67 rfl rfl
theorem lt_Pk_allAtLastPlace : Cond.static y_Pk_allAtLastPlace ∈ tbl := tb_2 68 rfl rfl
theorem lm_Pk_17 : Cond.methodLink "ClaimDesk$Packed" 17 y_Pk_place ∈ tbl := tb_2 70 rfl rfl
theorem lm_Lw_52 : Cond.methodLink "ClaimDeskLaw" 52 y_Ds_avoids ∈ tbl := tb_2 71 rfl rfl
theorem li_Ds_avoids : Cond.instanceMethod y_Ds_avoids ∈ tbl := tb_2 72 rfl rfl
theorem ls_Ds_avoids : Cond.selects "ClaimDesk" y_Ds_avoids y_Ds_avoids ∈ tbl := tb_2 73 rfl rfl
theorem lm_Ds_93 : Cond.methodLink "ClaimDesk" 93 y_Sp_isThere ∈ tbl := tb_2 75 rfl rfl
theorem li_Sp_isThere : Cond.instanceMethod y_Sp_isThere ∈ tbl := tb_2 76 rfl rfl
theorem ls_Sp_isThere : Cond.selects "ClaimDesk$Space" y_Sp_isThere y_Sp_isThere ∈ tbl := tb_2 77 rfl rfl
theorem lm_Ds_97 : Cond.methodLink "ClaimDesk" 97 y_Av_find ∈ tbl := tb_2 79 rfl rfl
theorem li_Av_find : Cond.instanceMethod y_Av_find ∈ tbl := tb_2 80 rfl rfl
theorem ls_Av_find : Cond.selects "ClaimDesk$Avoidance" y_Av_find y_Av_find ∈ tbl := tb_2 81 rfl rfl
theorem lm_Av_26 : Cond.methodLink "ClaimDesk$Avoidance" 26 y_Sp_size ∈ tbl := tb_2 83 rfl rfl
theorem lm_Av_32 : Cond.methodLink "ClaimDesk$Avoidance" 32 y_Sp_openIn ∈ tbl := tb_2 84 rfl rfl
theorem li_Sp_openIn : Cond.instanceMethod y_Sp_openIn ∈ tbl := tb_2 85 rfl rfl
theorem ls_Sp_openIn : Cond.selects "ClaimDesk$Space" y_Sp_openIn y_Sp_openIn ∈ tbl := tb_2 86 rfl rfl
theorem lm_Av_36 : Cond.methodLink "ClaimDesk$Avoidance" 36 y_Sp_packed ∈ tbl := tb_2 88 rfl rfl
theorem li_Sp_packed : Cond.instanceMethod y_Sp_packed ∈ tbl := tb_2 89 rfl rfl
theorem ls_Sp_packed : Cond.selects "ClaimDesk$Space" y_Sp_packed y_Sp_packed ∈ tbl := tb_2 90 rfl rfl
theorem lm_Av_39 : Cond.methodLink "ClaimDesk$Avoidance" 39 y_Cm_failsIn ∈ tbl := tb_2 92 rfl rfl
theorem lm_Av_45 : Cond.methodLink "ClaimDesk$Avoidance" 45 y_Av_ruleOut ∈ tbl := tb_2 93 rfl rfl
theorem li_Av_ruleOut : Cond.instanceMethod y_Av_ruleOut ∈ tbl := tb_2 95 rfl rfl
theorem lm_Av_49 : Cond.methodLink "ClaimDesk$Avoidance" 49 y_Av_closeWaysInto ∈ tbl := tb_2 97 rfl rfl
theorem li_Av_closeWaysInto : Cond.instanceMethod y_Av_closeWaysInto ∈ tbl := tb_2 99 rfl rfl
theorem lm_Av_53 : Cond.methodLink "ClaimDesk$Avoidance" 53 y_Sp_lastPairInto ∈ tbl := tb_2 101 rfl rfl
theorem li_Sp_lastPairInto : Cond.instanceMethod y_Sp_lastPairInto ∈ tbl := tb_2 102 rfl rfl
theorem ls_Sp_lastPairInto : Cond.selects "ClaimDesk$Space" y_Sp_lastPairInto y_Sp_lastPairInto ∈ tbl := tb_2 103 rfl rfl
theorem lm_Av_56 : Cond.methodLink "ClaimDesk$Avoidance" 56 y_Sp_pairBefore ∈ tbl := tb_2 105 rfl rfl
theorem li_Sp_pairBefore : Cond.instanceMethod y_Sp_pairBefore ∈ tbl := tb_2 106 rfl rfl
theorem ls_Sp_pairBefore : Cond.selects "ClaimDesk$Space" y_Sp_pairBefore y_Sp_pairBefore ∈ tbl := tb_2 107 rfl rfl
theorem lm_Ds_101 : Cond.methodLink "ClaimDesk" 101 y_Av_least ∈ tbl := tb_2 109 rfl rfl
theorem li_Av_least : Cond.instanceMethod y_Av_least ∈ tbl := tb_2 110 rfl rfl
theorem ls_Av_least : Cond.selects "ClaimDesk$Avoidance" y_Av_least y_Av_least ∈ tbl := tb_2 111 rfl rfl
theorem lm_Ds_105 : Cond.methodLink "ClaimDesk" 105 y_Av_howMany ∈ tbl := tb_2 113 rfl rfl
theorem li_Av_howMany : Cond.instanceMethod y_Av_howMany ∈ tbl := tb_2 114 rfl rfl
theorem ls_Av_howMany : Cond.selects "ClaimDesk$Avoidance" y_Av_howMany y_Av_howMany ∈ tbl := tb_2 115 rfl rfl
theorem lm_Lw_57 : Cond.methodLink "ClaimDeskLaw" 57 y_Ds_way ∈ tbl := tb_2 117 rfl rfl
theorem li_Ds_way : Cond.instanceMethod y_Ds_way ∈ tbl := tb_2 118 rfl rfl
theorem ls_Ds_way : Cond.selects "ClaimDesk" y_Ds_way y_Ds_way ∈ tbl := tb_2 119 rfl rfl
theorem lm_Ds_108 : Cond.methodLink "ClaimDesk" 108 y_Sp_has ∈ tbl := tb_2 121 rfl rfl
theorem li_Sp_has : Cond.instanceMethod y_Sp_has ∈ tbl := tb_2 122 rfl rfl
theorem ls_Sp_has : Cond.selects "ClaimDesk$Space" y_Sp_has y_Sp_has ∈ tbl := tb_2 123 rfl rfl
theorem lm_Ds_112 : Cond.methodLink "ClaimDesk" 112 y_Sp_wayLength ∈ tbl := tb_2 126 rfl rfl
theorem li_Sp_wayLength : Cond.instanceMethod y_Sp_wayLength ∈ tbl := tb_2 127 rfl rfl
theorem ls_Sp_wayLength : Cond.selects "ClaimDesk$Space" y_Sp_wayLength y_Sp_wayLength ∈ tbl := tb_2 128 rfl rfl
theorem lm_Ds_115 : Cond.methodLink "ClaimDesk" 115 y_Sp_wayStep ∈ tbl := tb_2 130 rfl rfl
theorem li_Sp_wayStep : Cond.instanceMethod y_Sp_wayStep ∈ tbl := tb_2 131 rfl rfl
theorem ls_Sp_wayStep : Cond.selects "ClaimDesk$Space" y_Sp_wayStep y_Sp_wayStep ∈ tbl := tb_2 132 rfl rfl
theorem lm_Lw_61 : Cond.methodLink "ClaimDeskLaw" 61 y_Ds_state ∈ tbl := tb_2 134 rfl rfl
theorem li_Ds_state : Cond.instanceMethod y_Ds_state ∈ tbl := tb_2 135 rfl rfl
theorem ls_Ds_state : Cond.selects "ClaimDesk" y_Ds_state y_Ds_state ∈ tbl := tb_2 136 rfl rfl
theorem lm_Ds_119 : Cond.methodLink "ClaimDesk" 119 y_Sp_openIn ∈ tbl := tb_2 138 rfl rfl
theorem lm_Ds_122 : Cond.methodLink "ClaimDesk" 122 y_Sp_differentNext ∈ tbl := tb_2 139 rfl rfl
theorem li_Sp_differentNext : Cond.instanceMethod y_Sp_differentNext ∈ tbl := tb_2 140 rfl rfl
theorem ls_Sp_differentNext : Cond.selects "ClaimDesk$Space" y_Sp_differentNext y_Sp_differentNext ∈ tbl := tb_2 141 rfl rfl
theorem lm_Sp_99 : Cond.methodLink "ClaimDesk$Space" 99 y_Sp_isNewNext ∈ tbl := tb_2 143 rfl rfl
theorem li_Sp_isNewNext : Cond.instanceMethod y_Sp_isNewNext ∈ tbl := tb_2 145 rfl rfl
theorem lm_Ds_125 : Cond.methodLink "ClaimDesk" 125 y_Sp_firstNext ∈ tbl := tb_2 147 rfl rfl
theorem li_Sp_firstNext : Cond.instanceMethod y_Sp_firstNext ∈ tbl := tb_2 148 rfl rfl
theorem ls_Sp_firstNext : Cond.selects "ClaimDesk$Space" y_Sp_firstNext y_Sp_firstNext ∈ tbl := tb_2 149 rfl rfl
theorem lm_Ds_128 : Cond.methodLink "ClaimDesk" 128 y_Sp_packed ∈ tbl := tb_2 151 rfl rfl
theorem lm_Ds_131 : Cond.methodLink "ClaimDesk" 131 y_Pk_part ∈ tbl := tb_2 152 rfl rfl
theorem lt_Pk_part : Cond.static y_Pk_part ∈ tbl := tb_2 153 rfl rfl
theorem lm_Pk_21 : Cond.methodLink "ClaimDesk$Packed" 21 y_Pk_variable ∈ tbl := tb_2 155 rfl rfl
theorem lm_Pk_24 : Cond.methodLink "ClaimDesk$Packed" 24 y_Pk_channelValue ∈ tbl := tb_2 156 rfl rfl
theorem lm_Lw_65 : Cond.methodLink "ClaimDeskLaw" 65 y_Ds_walk ∈ tbl := tb_2 157 rfl rfl
theorem li_Ds_walk : Cond.instanceMethod y_Ds_walk ∈ tbl := tb_2 158 rfl rfl
theorem ls_Ds_walk : Cond.selects "ClaimDesk" y_Ds_walk y_Ds_walk ∈ tbl := tb_2 159 rfl rfl
theorem lm_Ds_137 : Cond.methodLink "ClaimDesk" 137 y_Tr_isOpenIn ∈ tbl := tb_2 161 rfl rfl
theorem lm_Ds_140 : Cond.methodLink "ClaimDesk" 140 y_Tr_leadsFrom ∈ tbl := tb_2 162 rfl rfl
theorem lm_Lw_69 : Cond.methodLink "ClaimDeskLaw" 69 y_Ds_go ∈ tbl := tb_2 163 rfl rfl
theorem li_Ds_go : Cond.instanceMethod y_Ds_go ∈ tbl := tb_2 164 rfl rfl
theorem ls_Ds_go : Cond.selects "ClaimDesk" y_Ds_go y_Ds_go ∈ tbl := tb_2 165 rfl rfl
theorem lm_Lw_73 : Cond.methodLink "ClaimDeskLaw" 73 y_Ds_now ∈ tbl := tb_2 167 rfl rfl
theorem li_Ds_now : Cond.instanceMethod y_Ds_now ∈ tbl := tb_2 168 rfl rfl
theorem ls_Ds_now : Cond.selects "ClaimDesk" y_Ds_now y_Ds_now ∈ tbl := tb_2 169 rfl rfl
theorem lm_Ds_146 : Cond.methodLink "ClaimDesk" 146 y_Ds_openNow ∈ tbl := tb_2 171 rfl rfl
theorem li_Ds_openNow : Cond.instanceMethod y_Ds_openNow ∈ tbl := tb_2 173 rfl rfl
theorem lm_Ds_149 : Cond.methodLink "ClaimDesk" 149 y_Sp_numberOf ∈ tbl := tb_2 175 rfl rfl
theorem lm_Ds_152 : Cond.methodLink "ClaimDesk" 152 y_Ds_failingNow ∈ tbl := tb_2 176 rfl rfl
theorem li_Ds_failingNow : Cond.instanceMethod y_Ds_failingNow ∈ tbl := tb_2 178 rfl rfl
theorem lm_Ds_167 : Cond.methodLink "ClaimDesk" 167 y_Cm_failsIn ∈ tbl := tb_2 180 rfl rfl
theorem lm_Lw_77 : Cond.methodLink "ClaimDeskLaw" 77 y_Ds_count ∈ tbl := tb_2 181 rfl rfl
theorem li_Ds_count : Cond.instanceMethod y_Ds_count ∈ tbl := tb_2 182 rfl rfl
theorem ls_Ds_count : Cond.selects "ClaimDesk" y_Ds_count y_Ds_count ∈ tbl := tb_2 183 rfl rfl
theorem lm_Ds_155 : Cond.methodLink "ClaimDesk" 155 y_Sp_pairs ∈ tbl := tb_2 185 rfl rfl
theorem li_Sp_pairs : Cond.instanceMethod y_Sp_pairs ∈ tbl := tb_2 186 rfl rfl
theorem ls_Sp_pairs : Cond.selects "ClaimDesk$Space" y_Sp_pairs y_Sp_pairs ∈ tbl := tb_2 187 rfl rfl
theorem lm_Ds_158 : Cond.methodLink "ClaimDesk" 158 y_Sp_longestWay ∈ tbl := tb_2 189 rfl rfl
theorem li_Sp_longestWay : Cond.instanceMethod y_Sp_longestWay ∈ tbl := tb_2 190 rfl rfl
theorem ls_Sp_longestWay : Cond.selects "ClaimDesk$Space" y_Sp_longestWay y_Sp_longestWay ∈ tbl := tb_2 191 rfl rfl
theorem lm_Sp_94 : Cond.methodLink "ClaimDesk$Space" 94 y_Ma_max ∈ tbl := tb_2 193 rfl rfl
theorem lt_Ma_max : Cond.static y_Ma_max ∈ tbl := tb_2 194 rfl rfl
theorem lm_Ds_161 : Cond.methodLink "ClaimDesk" 161 y_Sp_stuckStates ∈ tbl := tb_2 196 rfl rfl
theorem li_Sp_stuckStates : Cond.instanceMethod y_Sp_stuckStates ∈ tbl := tb_2 197 rfl rfl
theorem ls_Sp_stuckStates : Cond.selects "ClaimDesk$Space" y_Sp_stuckStates y_Sp_stuckStates ∈ tbl := tb_2 198 rfl rfl
theorem lm_Ds_164 : Cond.methodLink "ClaimDesk" 164 y_Sp_statesWhereOpen ∈ tbl := tb_2 200 rfl rfl
theorem li_Sp_statesWhereOpen : Cond.instanceMethod y_Sp_statesWhereOpen ∈ tbl := tb_2 201 rfl rfl
theorem ls_Sp_statesWhereOpen : Cond.selects "ClaimDesk$Space" y_Sp_statesWhereOpen y_Sp_statesWhereOpen ∈ tbl := tb_2 202 rfl rfl
theorem lc_Lw_10 : Cond.classLink "ClaimDeskLaw" 10 "ClaimDeskModel" ∈ tbl := tb_2 204 rfl rfl
theorem lx_Mo : Cond.instantiable "ClaimDeskModel" 19 ∈ tbl := tb_2 205 rfl rfl
theorem lm_Lw_12 : Cond.methodLink "ClaimDeskLaw" 12 y_Mo_init ∈ tbl := tb_2 206 rfl rfl
theorem li_Mo_init : Cond.instanceMethod y_Mo_init ∈ tbl := tb_2 207 rfl rfl
theorem lm_Mo_1 : Cond.methodLink "ClaimDeskModel" 1 y_Ob_init ∈ tbl := tb_2 209 rfl rfl
theorem lm_Mo_47 : Cond.methodLink "ClaimDeskModel" 47 y_Mo_first ∈ tbl := tb_2 210 rfl rfl
theorem li_Mo_first : Cond.instanceMethod y_Mo_first ∈ tbl := tb_2 212 rfl rfl
theorem lf_Mo_7 : Cond.fieldLink "ClaimDeskModel" 7 "ClaimDeskModel" "who" "[I" ∈ tbl := tb_2 214 rfl rfl
theorem lf_Mo_13 : Cond.fieldLink "ClaimDeskModel" 13 "ClaimDeskModel" "from" "[I" ∈ tbl := tb_2 215 rfl rfl
theorem lf_Mo_16 : Cond.fieldLink "ClaimDeskModel" 16 "ClaimDeskModel" "to" "[I" ∈ tbl := tb_2 216 rfl rfl
theorem lf_Mo_19 : Cond.fieldLink "ClaimDeskModel" 19 "ClaimDeskModel" "op" "[I" ∈ tbl := tb_2 217 rfl rfl
theorem lf_Mo_22 : Cond.fieldLink "ClaimDeskModel" 22 "ClaimDeskModel" "sort" "[I" ∈ tbl := tb_2 218 rfl rfl
theorem lf_Mo_25 : Cond.fieldLink "ClaimDeskModel" 25 "ClaimDeskModel" "first" "[I" ∈ tbl := tb_2 219 rfl rfl
theorem lf_Mo_28 : Cond.fieldLink "ClaimDeskModel" 28 "ClaimDeskModel" "second" "[I" ∈ tbl := tb_2 220 rfl rfl
theorem lf_Mo_77 : Cond.fieldLink "ClaimDeskModel" 77 "ClaimDeskModel" "transitions" "I" ∈ tbl := tb_2 221 rfl rfl
theorem lf_Mo_103 : Cond.fieldLink "ClaimDeskModel" 103 "ClaimDeskModel" "claims" "I" ∈ tbl := tb_2 222 rfl rfl
theorem lf_Mo_54 : Cond.fieldLink "ClaimDeskModel" 54 "ClaimDeskModel" "values" "I" ∈ tbl := tb_2 223 rfl rfl
theorem lf_Mo_50 : Cond.fieldLink "ClaimDeskModel" 50 "ClaimDeskModel" "now" "I" ∈ tbl := tb_2 224 rfl rfl
theorem lf_Mo_88 : Cond.fieldLink "ClaimDeskModel" 88 "ClaimDeskModel" "steps" "I" ∈ tbl := tb_2 225 rfl rfl
theorem lf_Mo_31 : Cond.fieldLink "ClaimDeskModel" 31 "ClaimDeskModel" "space" "[I" ∈ tbl := tb_2 226 rfl rfl
theorem lf_Mo_34 : Cond.fieldLink "ClaimDeskModel" 34 "ClaimDeskModel" "above" "[I" ∈ tbl := tb_2 227 rfl rfl
theorem lf_Mo_37 : Cond.fieldLink "ClaimDeskModel" 37 "ClaimDeskModel" "by" "[I" ∈ tbl := tb_2 228 rfl rfl
theorem lf_Mo_40 : Cond.fieldLink "ClaimDeskModel" 40 "ClaimDeskModel" "far" "[I" ∈ tbl := tb_2 229 rfl rfl
theorem lf_Mo_43 : Cond.fieldLink "ClaimDeskModel" 43 "ClaimDeskModel" "stays" "[Z" ∈ tbl := tb_2 230 rfl rfl
theorem lf_Mo_106 : Cond.fieldLink "ClaimDeskModel" 106 "ClaimDeskModel" "many" "I" ∈ tbl := tb_2 231 rfl rfl
theorem lf_Mo_91 : Cond.fieldLink "ClaimDeskModel" 91 "ClaimDeskModel" "isSpace" "Z" ∈ tbl := tb_2 232 rfl rfl
theorem lm_Lw_17 : Cond.methodLink "ClaimDeskLaw" 17 y_Mo_begin ∈ tbl := tb_3 32 rfl rfl
theorem li_Mo_begin : Cond.instanceMethod y_Mo_begin ∈ tbl := tb_3 33 rfl rfl
theorem ls_Mo_begin : Cond.selects "ClaimDeskModel" y_Mo_begin y_Mo_begin ∈ tbl := tb_3 34 rfl rfl
theorem lm_Mo_84 : Cond.methodLink "ClaimDeskModel" 84 y_Mo_in ∈ tbl := tb_3 36 rfl rfl
theorem lt_Mo_in : Cond.static y_Mo_in ∈ tbl := tb_3 37 rfl rfl
theorem lm_Lw_22 : Cond.methodLink "ClaimDeskLaw" 22 y_Mo_add ∈ tbl := tb_3 39 rfl rfl
theorem li_Mo_add : Cond.instanceMethod y_Mo_add ∈ tbl := tb_3 40 rfl rfl
theorem ls_Mo_add : Cond.selects "ClaimDeskModel" y_Mo_add y_Mo_add ∈ tbl := tb_3 41 rfl rfl
theorem lm_Mo_95 : Cond.methodLink "ClaimDeskModel" 95 y_Mo_isGood ∈ tbl := tb_3 43 rfl rfl
theorem lt_Mo_isGood : Cond.static y_Mo_isGood ∈ tbl := tb_3 44 rfl rfl
theorem lm_Mo_99 : Cond.methodLink "ClaimDeskModel" 99 y_Mo_set ∈ tbl := tb_3 46 rfl rfl
theorem li_Mo_set : Cond.instanceMethod y_Mo_set ∈ tbl := tb_3 48 rfl rfl
theorem lm_Lw_27 : Cond.methodLink "ClaimDeskLaw" 27 y_Mo_change ∈ tbl := tb_3 50 rfl rfl
theorem li_Mo_change : Cond.instanceMethod y_Mo_change ∈ tbl := tb_3 51 rfl rfl
theorem ls_Mo_change : Cond.selects "ClaimDeskModel" y_Mo_change y_Mo_change ∈ tbl := tb_3 52 rfl rfl
theorem lm_Lw_32 : Cond.methodLink "ClaimDeskLaw" 32 y_Mo_clear ∈ tbl := tb_3 54 rfl rfl
theorem li_Mo_clear : Cond.instanceMethod y_Mo_clear ∈ tbl := tb_3 55 rfl rfl
theorem ls_Mo_clear : Cond.selects "ClaimDeskModel" y_Mo_clear y_Mo_clear ∈ tbl := tb_3 56 rfl rfl
theorem lm_Lw_37 : Cond.methodLink "ClaimDeskLaw" 37 y_Mo_claim ∈ tbl := tb_3 58 rfl rfl
theorem li_Mo_claim : Cond.instanceMethod y_Mo_claim ∈ tbl := tb_3 59 rfl rfl
theorem ls_Mo_claim : Cond.selects "ClaimDeskModel" y_Mo_claim y_Mo_claim ∈ tbl := tb_3 60 rfl rfl
theorem lm_Lw_41 : Cond.methodLink "ClaimDeskLaw" 41 y_Mo_explore ∈ tbl := tb_3 62 rfl rfl
theorem li_Mo_explore : Cond.instanceMethod y_Mo_explore ∈ tbl := tb_3 63 rfl rfl
theorem ls_Mo_explore : Cond.selects "ClaimDeskModel" y_Mo_explore y_Mo_explore ∈ tbl := tb_3 64 rfl rfl
theorem lm_Mo_80 : Cond.methodLink "ClaimDeskModel" 80 y_Mo_isOpen ∈ tbl := tb_3 66 rfl rfl
theorem li_Mo_isOpen : Cond.instanceMethod y_Mo_isOpen ∈ tbl := tb_3 68 rfl rfl
theorem lm_Mo_57 : Cond.methodLink "ClaimDeskModel" 57 y_Mo_placeOf ∈ tbl := tb_3 70 rfl rfl
theorem lt_Mo_placeOf : Cond.static y_Mo_placeOf ∈ tbl := tb_3 71 rfl rfl
theorem lm_Mo_61 : Cond.methodLink "ClaimDeskModel" 61 y_Mo_valueOf ∈ tbl := tb_3 73 rfl rfl
theorem lt_Mo_valueOf : Cond.static y_Mo_valueOf ∈ tbl := tb_3 74 rfl rfl
theorem lm_Mo_64 : Cond.methodLink "ClaimDeskModel" 64 y_Mo_sent ∈ tbl := tb_3 76 rfl rfl
theorem lt_Mo_sent : Cond.static y_Mo_sent ∈ tbl := tb_3 77 rfl rfl
theorem lm_Mo_109 : Cond.methodLink "ClaimDeskModel" 109 y_Mo_leads ∈ tbl := tb_3 79 rfl rfl
theorem li_Mo_leads : Cond.instanceMethod y_Mo_leads ∈ tbl := tb_3 81 rfl rfl
theorem lm_Mo_68 : Cond.methodLink "ClaimDeskModel" 68 y_Mo_with ∈ tbl := tb_3 83 rfl rfl
theorem lt_Mo_with : Cond.static y_Mo_with ∈ tbl := tb_3 84 rfl rfl
theorem lk_Mo_72 : Cond.constant "ClaimDeskModel" 72 (131072) ∈ tbl := tb_3 86 rfl rfl
theorem lm_Mo_73 : Cond.methodLink "ClaimDeskModel" 73 y_Mo_inChannel ∈ tbl := tb_3 87 rfl rfl
theorem lt_Mo_inChannel : Cond.static y_Mo_inChannel ∈ tbl := tb_3 88 rfl rfl
theorem lk_Mo_76 : Cond.constant "ClaimDeskModel" 76 (131071) ∈ tbl := tb_3 90 rfl rfl
theorem lm_Mo_112 : Cond.methodLink "ClaimDeskModel" 112 y_Mo_find ∈ tbl := tb_3 91 rfl rfl
theorem li_Mo_find : Cond.instanceMethod y_Mo_find ∈ tbl := tb_3 93 rfl rfl
theorem lm_Lw_46 : Cond.methodLink "ClaimDeskLaw" 46 y_Mo_fails ∈ tbl := tb_3 95 rfl rfl
theorem li_Mo_fails : Cond.instanceMethod y_Mo_fails ∈ tbl := tb_3 96 rfl rfl
theorem ls_Mo_fails : Cond.selects "ClaimDeskModel" y_Mo_fails y_Mo_fails ∈ tbl := tb_3 97 rfl rfl
theorem lm_Mo_115 : Cond.methodLink "ClaimDeskModel" 115 y_Mo_failsIn ∈ tbl := tb_3 99 rfl rfl
theorem li_Mo_failsIn : Cond.instanceMethod y_Mo_failsIn ∈ tbl := tb_3 101 rfl rfl
theorem lm_Lw_51 : Cond.methodLink "ClaimDeskLaw" 51 y_Mo_stuck ∈ tbl := tb_3 103 rfl rfl
theorem li_Mo_stuck : Cond.instanceMethod y_Mo_stuck ∈ tbl := tb_3 104 rfl rfl
theorem ls_Mo_stuck : Cond.selects "ClaimDeskModel" y_Mo_stuck y_Mo_stuck ∈ tbl := tb_3 105 rfl rfl
theorem lm_Mo_118 : Cond.methodLink "ClaimDeskModel" 118 y_Mo_openIn ∈ tbl := tb_3 107 rfl rfl
theorem li_Mo_openIn : Cond.instanceMethod y_Mo_openIn ∈ tbl := tb_3 109 rfl rfl
theorem lm_Mo_121 : Cond.methodLink "ClaimDeskModel" 121 y_Mo_isDone ∈ tbl := tb_3 111 rfl rfl
theorem lt_Mo_isDone : Cond.static y_Mo_isDone ∈ tbl := tb_3 112 rfl rfl
theorem lm_Lw_56 : Cond.methodLink "ClaimDeskLaw" 56 y_Mo_avoids ∈ tbl := tb_3 114 rfl rfl
theorem li_Mo_avoids : Cond.instanceMethod y_Mo_avoids ∈ tbl := tb_3 115 rfl rfl
theorem ls_Mo_avoids : Cond.selects "ClaimDeskModel" y_Mo_avoids y_Mo_avoids ∈ tbl := tb_3 116 rfl rfl
theorem lm_Mo_125 : Cond.methodLink "ClaimDeskModel" 125 y_Mo_goesOn ∈ tbl := tb_3 118 rfl rfl
theorem li_Mo_goesOn : Cond.instanceMethod y_Mo_goesOn ∈ tbl := tb_3 120 rfl rfl
theorem lm_Lw_60 : Cond.methodLink "ClaimDeskLaw" 60 y_Mo_way ∈ tbl := tb_3 122 rfl rfl
theorem li_Mo_way : Cond.instanceMethod y_Mo_way ∈ tbl := tb_3 123 rfl rfl
theorem ls_Mo_way : Cond.selects "ClaimDeskModel" y_Mo_way y_Mo_way ∈ tbl := tb_3 124 rfl rfl
theorem lm_Mo_128 : Cond.methodLink "ClaimDeskModel" 128 y_Mo_isState ∈ tbl := tb_3 126 rfl rfl
theorem li_Mo_isState : Cond.instanceMethod y_Mo_isState ∈ tbl := tb_3 128 rfl rfl
theorem lm_Lw_64 : Cond.methodLink "ClaimDeskLaw" 64 y_Mo_state ∈ tbl := tb_3 130 rfl rfl
theorem li_Mo_state : Cond.instanceMethod y_Mo_state ∈ tbl := tb_3 131 rfl rfl
theorem ls_Mo_state : Cond.selects "ClaimDeskModel" y_Mo_state y_Mo_state ∈ tbl := tb_3 132 rfl rfl
theorem lm_Mo_131 : Cond.methodLink "ClaimDeskModel" 131 y_Mo_told ∈ tbl := tb_3 134 rfl rfl
theorem li_Mo_told : Cond.instanceMethod y_Mo_told ∈ tbl := tb_3 136 rfl rfl
theorem lm_Lw_68 : Cond.methodLink "ClaimDeskLaw" 68 y_Mo_walk ∈ tbl := tb_3 138 rfl rfl
theorem li_Mo_walk : Cond.instanceMethod y_Mo_walk ∈ tbl := tb_3 139 rfl rfl
theorem ls_Mo_walk : Cond.selects "ClaimDeskModel" y_Mo_walk y_Mo_walk ∈ tbl := tb_3 140 rfl rfl
theorem lm_Lw_72 : Cond.methodLink "ClaimDeskLaw" 72 y_Mo_go ∈ tbl := tb_3 142 rfl rfl
theorem li_Mo_go : Cond.instanceMethod y_Mo_go ∈ tbl := tb_3 143 rfl rfl
theorem ls_Mo_go : Cond.selects "ClaimDeskModel" y_Mo_go y_Mo_go ∈ tbl := tb_3 144 rfl rfl
theorem lm_Lw_76 : Cond.methodLink "ClaimDeskLaw" 76 y_Mo_now ∈ tbl := tb_3 146 rfl rfl
theorem li_Mo_now : Cond.instanceMethod y_Mo_now ∈ tbl := tb_3 147 rfl rfl
theorem ls_Mo_now : Cond.selects "ClaimDeskModel" y_Mo_now y_Mo_now ∈ tbl := tb_3 148 rfl rfl
theorem lm_Lw_80 : Cond.methodLink "ClaimDeskLaw" 80 y_Mo_count ∈ tbl := tb_3 150 rfl rfl
theorem li_Mo_count : Cond.instanceMethod y_Mo_count ∈ tbl := tb_3 151 rfl rfl
theorem ls_Mo_count : Cond.selects "ClaimDeskModel" y_Mo_count y_Mo_count ∈ tbl := tb_3 152 rfl rfl
theorem ls_Ds_returnToFirst : Cond.selects "ClaimDesk" y_Ds_returnToFirst y_Ds_returnToFirst ∈ tbl := tb_of 0 rfl rfl
theorem ls_Sp_append : Cond.selects "ClaimDesk$Space" y_Sp_append y_Sp_append ∈ tbl := tb_of 1 rfl rfl
theorem ls_Sp_putIntoSlot : Cond.selects "ClaimDesk$Space" y_Sp_putIntoSlot y_Sp_putIntoSlot ∈ tbl := tb_of 2 rfl rfl
theorem ls_Sp_goOnFrom : Cond.selects "ClaimDesk$Space" y_Sp_goOnFrom y_Sp_goOnFrom ∈ tbl := tb_of 3 rfl rfl
theorem ls_Tr_allows : Cond.selects "ClaimDesk$Transition" y_Tr_allows y_Tr_allows ∈ tbl := tb_of 4 rfl rfl
theorem ls_Tr_withEffect : Cond.selects "ClaimDesk$Transition" y_Tr_withEffect y_Tr_withEffect ∈ tbl := tb_of 5 rfl rfl
theorem ls_Sp_numberFor : Cond.selects "ClaimDesk$Space" y_Sp_numberFor y_Sp_numberFor ∈ tbl := tb_of 6 rfl rfl
theorem ls_Sp_join : Cond.selects "ClaimDesk$Space" y_Sp_join y_Sp_join ∈ tbl := tb_of 7 rfl rfl
theorem ls_Av_ruleOut : Cond.selects "ClaimDesk$Avoidance" y_Av_ruleOut y_Av_ruleOut ∈ tbl := tb_of 8 rfl rfl
theorem ls_Av_closeWaysInto : Cond.selects "ClaimDesk$Avoidance" y_Av_closeWaysInto y_Av_closeWaysInto ∈ tbl := tb_of 9 rfl rfl
theorem ls_Sp_isNewNext : Cond.selects "ClaimDesk$Space" y_Sp_isNewNext y_Sp_isNewNext ∈ tbl := tb_of 10 rfl rfl
theorem ls_Ds_openNow : Cond.selects "ClaimDesk" y_Ds_openNow y_Ds_openNow ∈ tbl := tb_of 11 rfl rfl
theorem ls_Ds_failingNow : Cond.selects "ClaimDesk" y_Ds_failingNow y_Ds_failingNow ∈ tbl := tb_of 12 rfl rfl
theorem ls_Mo_first : Cond.selects "ClaimDeskModel" y_Mo_first y_Mo_first ∈ tbl := tb_of 13 rfl rfl
theorem ls_Mo_set : Cond.selects "ClaimDeskModel" y_Mo_set y_Mo_set ∈ tbl := tb_of 14 rfl rfl
theorem ls_Mo_isOpen : Cond.selects "ClaimDeskModel" y_Mo_isOpen y_Mo_isOpen ∈ tbl := tb_of 15 rfl rfl
theorem ls_Mo_leads : Cond.selects "ClaimDeskModel" y_Mo_leads y_Mo_leads ∈ tbl := tb_of 16 rfl rfl
theorem ls_Mo_find : Cond.selects "ClaimDeskModel" y_Mo_find y_Mo_find ∈ tbl := tb_of 17 rfl rfl
theorem ls_Mo_failsIn : Cond.selects "ClaimDeskModel" y_Mo_failsIn y_Mo_failsIn ∈ tbl := tb_of 18 rfl rfl
theorem ls_Mo_openIn : Cond.selects "ClaimDeskModel" y_Mo_openIn y_Mo_openIn ∈ tbl := tb_of 19 rfl rfl
theorem ls_Mo_goesOn : Cond.selects "ClaimDeskModel" y_Mo_goesOn y_Mo_goesOn ∈ tbl := tb_of 20 rfl rfl
theorem ls_Mo_isState : Cond.selects "ClaimDeskModel" y_Mo_isState y_Mo_isState ∈ tbl := tb_of 21 rfl rfl
theorem ls_Mo_told : Cond.selects "ClaimDeskModel" y_Mo_told y_Mo_told ∈ tbl := tb_of 22 rfl rfl
