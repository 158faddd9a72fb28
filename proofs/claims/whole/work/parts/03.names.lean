def RX0 : String := "UserCore"
def TX0 : u_T := fun k => match k with
  | 0 => ("UserCore", "words", "[I", true)
  | 1 => ("UserCore", "rights", "[I", true)
  | 2 => ("UserCore", "registers", "[I", true)
  | 3 => ("UserCore", "pc", "I", false)
  | 4 => ("UserCore", "trap", "I", false)
  | 5 => ("UserCore", "value", "I", false)
  | _ => ("UserCore", "done", "I", false)
def tyX0 : Nat → FieldType := fun k => match k with
  | 0 => .array .int
  | 1 => .array .int
  | 2 => .array .int
  | 3 => .int
  | 4 => .int
  | 5 => .int
  | _ => .int
theorem nmX0 : ∀ a, a < 7 → ∀ b, b < 7 → a ≠ b → (TX0 a).2.1 ≠ (TX0 b).2.1 := by decide +kernel
theorem tyX0_ok : ∀ k, k < 7 → parseFieldDescriptor (TX0 k).2.2.1 = some (tyX0 k) := by decide +kernel
def RX1 : String := "UserCoreModel"
def TX1 : u_T := fun k => match k with
  | 0 => ("UserCoreModel", "thrown", "I", false)
  | 1 => ("UserCoreModel", "memory", "[B", true)
  | 2 => ("UserCoreModel", "rights", "[I", true)
  | 3 => ("UserCoreModel", "registers", "[I", true)
  | 4 => ("UserCoreModel", "pc", "I", false)
  | 5 => ("UserCoreModel", "trap", "I", false)
  | 6 => ("UserCoreModel", "value", "I", false)
  | 7 => ("UserCoreModel", "done", "I", false)
  | 8 => ("UserCoreModel", "w", "I", false)
  | 9 => ("UserCoreModel", "fails", "I", false)
  | 10 => ("UserCoreModel", "with", "I", false)
  | _ => ("UserCoreModel", "next", "I", false)
def tyX1 : Nat → FieldType := fun k => match k with
  | 0 => .int
  | 1 => .array .byte
  | 2 => .array .int
  | 3 => .array .int
  | 4 => .int
  | 5 => .int
  | 6 => .int
  | 7 => .int
  | 8 => .int
  | 9 => .int
  | 10 => .int
  | _ => .int
theorem nmX1 : ∀ a, a < 12 → ∀ b, b < 12 → a ≠ b → (TX1 a).2.1 ≠ (TX1 b).2.1 := by decide +kernel
theorem tyX1_ok : ∀ k, k < 12 → parseFieldDescriptor (TX1 k).2.2.1 = some (tyX1 k) := by decide +kernel
def RL : String := "UserCoreLaw"
abbrev cX0_init : ByteArray := prog_1_method_1_code
def yX0_init : MethodName := ⟨RX0, "<init>", "()V"⟩
abbrev cX0_poke : ByteArray := prog_1_method_2_code
def yX0_poke : MethodName := ⟨RX0, "poke", "(IIJ)Z"⟩
abbrev cX0_peek : ByteArray := prog_1_method_3_code
def yX0_peek : MethodName := ⟨RX0, "peek", "(I)I"⟩
abbrev cX0_protect : ByteArray := prog_1_method_4_code
def yX0_protect : MethodName := ⟨RX0, "protect", "(II)Z"⟩
abbrev cX0_set : ByteArray := prog_1_method_5_code
def yX0_set : MethodName := ⟨RX0, "set", "(II)Z"⟩
abbrev cX0_register : ByteArray := prog_1_method_6_code
def yX0_register : MethodName := ⟨RX0, "register", "(I)I"⟩
abbrev cX0_jump : ByteArray := prog_1_method_7_code
def yX0_jump : MethodName := ⟨RX0, "jump", "(I)V"⟩
abbrev cX0_pc : ByteArray := prog_1_method_8_code
def yX0_pc : MethodName := ⟨RX0, "pc", "()I"⟩
abbrev cX0_run : ByteArray := prog_1_method_9_code
def yX0_run : MethodName := ⟨RX0, "run", "(I)I"⟩
abbrev cX0_trap : ByteArray := prog_1_method_10_code
def yX0_trap : MethodName := ⟨RX0, "trap", "()I"⟩
abbrev cX0_value : ByteArray := prog_1_method_11_code
def yX0_value : MethodName := ⟨RX0, "value", "()I"⟩
abbrev cX0_done : ByteArray := prog_1_method_12_code
def yX0_done : MethodName := ⟨RX0, "done", "()I"⟩
abbrev cX0_makeStep : ByteArray := prog_1_method_13_code
def yX0_makeStep : MethodName := ⟨RX0, "makeStep", "()Z"⟩
abbrev cX0_execute : ByteArray := prog_1_method_14_code
def yX0_execute : MethodName := ⟨RX0, "execute", "(I)Z"⟩
abbrev cX0_goToRegister : ByteArray := prog_1_method_15_code
def yX0_goToRegister : MethodName := ⟨RX0, "goToRegister", "(I)Z"⟩
abbrev cX0_branch : ByteArray := prog_1_method_16_code
def yX0_branch : MethodName := ⟨RX0, "branch", "(I)Z"⟩
abbrev cX0_load : ByteArray := prog_1_method_17_code
def yX0_load : MethodName := ⟨RX0, "load", "(I)Z"⟩
abbrev cX0_store : ByteArray := prog_1_method_18_code
def yX0_store : MethodName := ⟨RX0, "store", "(I)Z"⟩
abbrev cX0_computeWithImmediate : ByteArray := prog_1_method_19_code
def yX0_computeWithImmediate : MethodName := ⟨RX0, "computeWithImmediate", "(I)Z"⟩
abbrev cX0_computeWithRegisters : ByteArray := prog_1_method_20_code
def yX0_computeWithRegisters : MethodName := ⟨RX0, "computeWithRegisters", "(I)Z"⟩
abbrev cX0_fence : ByteArray := prog_1_method_21_code
def yX0_fence : MethodName := ⟨RX0, "fence", "(I)Z"⟩
abbrev cX0_callOrBreak : ByteArray := prog_1_method_22_code
def yX0_callOrBreak : MethodName := ⟨RX0, "callOrBreak", "(I)Z"⟩
abbrev cX0_finish : ByteArray := prog_1_method_23_code
def yX0_finish : MethodName := ⟨RX0, "finish", "(II)Z"⟩
abbrev cX0_linkAndGo : ByteArray := prog_1_method_24_code
def yX0_linkAndGo : MethodName := ⟨RX0, "linkAndGo", "(II)Z"⟩
abbrev cX0_refuse : ByteArray := prog_1_method_25_code
def yX0_refuse : MethodName := ⟨RX0, "refuse", "(I)Z"⟩
abbrev cX0_trapWith : ByteArray := prog_1_method_26_code
def yX0_trapWith : MethodName := ⟨RX0, "trapWith", "(II)Z"⟩
abbrev cX0_isRegister : ByteArray := prog_1_method_27_code
def yX0_isRegister : MethodName := ⟨RX0, "isRegister", "(I)Z"⟩
abbrev cX0_putRegister : ByteArray := prog_1_method_28_code
def yX0_putRegister : MethodName := ⟨RX0, "putRegister", "(II)V"⟩
abbrev cX0_registerA : ByteArray := prog_1_method_29_code
def yX0_registerA : MethodName := ⟨RX0, "registerA", "(I)I"⟩
abbrev cX0_registerB : ByteArray := prog_1_method_30_code
def yX0_registerB : MethodName := ⟨RX0, "registerB", "(I)I"⟩
abbrev cX0_isInPages : ByteArray := prog_1_method_31_code
def yX0_isInPages : MethodName := ⟨RX0, "isInPages", "(I)Z"⟩
abbrev cX0_isCrooked : ByteArray := prog_1_method_32_code
def yX0_isCrooked : MethodName := ⟨RX0, "isCrooked", "(II)Z"⟩
abbrev cX0_hasRight : ByteArray := prog_1_method_33_code
def yX0_hasRight : MethodName := ⟨RX0, "hasRight", "(II)Z"⟩
abbrev cX0_bytesFrom : ByteArray := prog_1_method_34_code
def yX0_bytesFrom : MethodName := ⟨RX0, "bytesFrom", "(I)I"⟩
abbrev cX0_putBytes : ByteArray := prog_1_method_35_code
def yX0_putBytes : MethodName := ⟨RX0, "putBytes", "(IIJ)V"⟩
abbrev cX0_unsigned : ByteArray := prog_1_method_36_code
def yX0_unsigned : MethodName := ⟨RX0, "unsigned", "(I)J"⟩
abbrev cX0_compare : ByteArray := prog_1_method_37_code
def yX0_compare : MethodName := ⟨RX0, "compare", "(III)Z"⟩
abbrev cX0_narrow : ByteArray := prog_1_method_38_code
def yX0_narrow : MethodName := ⟨RX0, "narrow", "(II)I"⟩
abbrev cX0_compute : ByteArray := prog_1_method_39_code
def yX0_compute : MethodName := ⟨RX0, "compute", "(III)I"⟩
abbrev cX0_multiplyOrDivide : ByteArray := prog_1_method_40_code
def yX0_multiplyOrDivide : MethodName := ⟨RX0, "multiplyOrDivide", "(III)I"⟩
abbrev cX0_upperHalf : ByteArray := prog_1_method_41_code
def yX0_upperHalf : MethodName := ⟨RX0, "upperHalf", "(J)I"⟩
abbrev cX0_divide : ByteArray := prog_1_method_42_code
def yX0_divide : MethodName := ⟨RX0, "divide", "(III)I"⟩
abbrev cX0_partD : ByteArray := prog_1_method_43_code
def yX0_partD : MethodName := ⟨RX0, "partD", "(I)I"⟩
abbrev cX0_partF : ByteArray := prog_1_method_44_code
def yX0_partF : MethodName := ⟨RX0, "partF", "(I)I"⟩
abbrev cX0_partB : ByteArray := prog_1_method_45_code
def yX0_partB : MethodName := ⟨RX0, "partB", "(I)I"⟩
abbrev cX0_partG : ByteArray := prog_1_method_46_code
def yX0_partG : MethodName := ⟨RX0, "partG", "(I)I"⟩
abbrev cX0_lowImmediate : ByteArray := prog_1_method_47_code
def yX0_lowImmediate : MethodName := ⟨RX0, "lowImmediate", "(I)I"⟩
abbrev cX0_storeImmediate : ByteArray := prog_1_method_48_code
def yX0_storeImmediate : MethodName := ⟨RX0, "storeImmediate", "(I)I"⟩
abbrev cX0_branchImmediate : ByteArray := prog_1_method_49_code
def yX0_branchImmediate : MethodName := ⟨RX0, "branchImmediate", "(I)I"⟩
abbrev cX0_upperImmediate : ByteArray := prog_1_method_50_code
def yX0_upperImmediate : MethodName := ⟨RX0, "upperImmediate", "(I)I"⟩
abbrev cX0_jumpImmediate : ByteArray := prog_1_method_51_code
def yX0_jumpImmediate : MethodName := ⟨RX0, "jumpImmediate", "(I)I"⟩
abbrev cX1_init : ByteArray := prog_3_method_1_code
def yX1_init : MethodName := ⟨RX1, "<init>", "()V"⟩
abbrev cX1_thrown : ByteArray := prog_3_method_2_code
def yX1_thrown : MethodName := ⟨RX1, "thrown", "()I"⟩
abbrev cX1_poke : ByteArray := prog_3_method_3_code
def yX1_poke : MethodName := ⟨RX1, "poke", "(IIJ)Z"⟩
abbrev cX1_peek : ByteArray := prog_3_method_4_code
def yX1_peek : MethodName := ⟨RX1, "peek", "(I)I"⟩
abbrev cX1_protect : ByteArray := prog_3_method_5_code
def yX1_protect : MethodName := ⟨RX1, "protect", "(II)Z"⟩
abbrev cX1_may : ByteArray := prog_3_method_6_code
def yX1_may : MethodName := ⟨RX1, "may", "(II)Z"⟩
abbrev cX1_bytes : ByteArray := prog_3_method_7_code
def yX1_bytes : MethodName := ⟨RX1, "bytes", "(II)I"⟩
abbrev cX1_set : ByteArray := prog_3_method_8_code
def yX1_set : MethodName := ⟨RX1, "set", "(II)Z"⟩
abbrev cX1_register : ByteArray := prog_3_method_9_code
def yX1_register : MethodName := ⟨RX1, "register", "(I)I"⟩
abbrev cX1_jump : ByteArray := prog_3_method_10_code
def yX1_jump : MethodName := ⟨RX1, "jump", "(I)V"⟩
abbrev cX1_pc : ByteArray := prog_3_method_11_code
def yX1_pc : MethodName := ⟨RX1, "pc", "()I"⟩
abbrev cX1_part : ByteArray := prog_3_method_12_code
def yX1_part : MethodName := ⟨RX1, "part", "(II)I"⟩
abbrev cX1_signed : ByteArray := prog_3_method_13_code
def yX1_signed : MethodName := ⟨RX1, "signed", "(II)I"⟩
abbrev cX1_i : ByteArray := prog_3_method_14_code
def yX1_i : MethodName := ⟨RX1, "i", "()I"⟩
abbrev cX1_s : ByteArray := prog_3_method_15_code
def yX1_s : MethodName := ⟨RX1, "s", "()I"⟩
abbrev cX1_b : ByteArray := prog_3_method_16_code
def yX1_b : MethodName := ⟨RX1, "b", "()I"⟩
abbrev cX1_u : ByteArray := prog_3_method_17_code
def yX1_u : MethodName := ⟨RX1, "u", "()I"⟩
abbrev cX1_j : ByteArray := prog_3_method_18_code
def yX1_j : MethodName := ⟨RX1, "j", "()I"⟩
abbrev cX1_under : ByteArray := prog_3_method_19_code
def yX1_under : MethodName := ⟨RX1, "under", "(II)Z"⟩
abbrev cX1_upper : ByteArray := prog_3_method_20_code
def yX1_upper : MethodName := ⟨RX1, "upper", "(II)I"⟩
abbrev cX1_divided : ByteArray := prog_3_method_21_code
def yX1_divided : MethodName := ⟨RX1, "divided", "(IIZ)I"⟩
abbrev cX1_quotient : ByteArray := prog_3_method_22_code
def yX1_quotient : MethodName := ⟨RX1, "quotient", "(IIZ)I"⟩
abbrev cX1_moved : ByteArray := prog_3_method_23_code
def yX1_moved : MethodName := ⟨RX1, "moved", "(IIZZ)I"⟩
abbrev cX1_multiplied : ByteArray := prog_3_method_24_code
def yX1_multiplied : MethodName := ⟨RX1, "multiplied", "(III)I"⟩
abbrev cX1_fail : ByteArray := prog_3_method_25_code
def yX1_fail : MethodName := ⟨RX1, "fail", "(II)V"⟩
abbrev cX1_strange : ByteArray := prog_3_method_26_code
def yX1_strange : MethodName := ⟨RX1, "strange", "()V"⟩
abbrev cX1_put : ByteArray := prog_3_method_27_code
def yX1_put : MethodName := ⟨RX1, "put", "(I)V"⟩
abbrev cX1_goTo : ByteArray := prog_3_method_28_code
def yX1_goTo : MethodName := ⟨RX1, "goTo", "(IZ)V"⟩
abbrev cX1_branch : ByteArray := prog_3_method_29_code
def yX1_branch : MethodName := ⟨RX1, "branch", "(III)V"⟩
abbrev cX1_load : ByteArray := prog_3_method_30_code
def yX1_load : MethodName := ⟨RX1, "load", "(II)V"⟩
abbrev cX1_store : ByteArray := prog_3_method_31_code
def yX1_store : MethodName := ⟨RX1, "store", "(III)V"⟩
abbrev cX1_worked : ByteArray := prog_3_method_32_code
def yX1_worked : MethodName := ⟨RX1, "worked", "(IIIZ)I"⟩
abbrev cX1_immediate : ByteArray := prog_3_method_33_code
def yX1_immediate : MethodName := ⟨RX1, "immediate", "(III)V"⟩
abbrev cX1_both : ByteArray := prog_3_method_34_code
def yX1_both : MethodName := ⟨RX1, "both", "(IIII)V"⟩
abbrev cX1_perform : ByteArray := prog_3_method_35_code
def yX1_perform : MethodName := ⟨RX1, "perform", "()V"⟩
abbrev cX1_step : ByteArray := prog_3_method_36_code
def yX1_step : MethodName := ⟨RX1, "step", "()Z"⟩
abbrev cX1_run : ByteArray := prog_3_method_37_code
def yX1_run : MethodName := ⟨RX1, "run", "(I)I"⟩
abbrev cX1_trap : ByteArray := prog_3_method_38_code
def yX1_trap : MethodName := ⟨RX1, "trap", "()I"⟩
abbrev cX1_value : ByteArray := prog_3_method_39_code
def yX1_value : MethodName := ⟨RX1, "value", "()I"⟩
abbrev cX1_done : ByteArray := prog_3_method_40_code
def yX1_done : MethodName := ⟨RX1, "done", "()I"⟩
abbrev cL_run : ByteArray := method_3_code
def yL_run : MethodName := ⟨RL, "run", "(LUserCore;I[J)I"⟩
abbrev cL_law : ByteArray := code
def yL_law : MethodName := ⟨RL, "law", "([I)Z"⟩
abbrev vwCl : List vw_C := [(RX0, TX0, 7), (RX1, TX1, 12)]
/-- the tables' good words, and the code words: every method's words are its own code word and these -/
def gIs (w : Cond) : Bool := k2_isCode w || goodWord w
def gw : List Cond := lw_tbl.filter gIs
theorem gw_good {w : Cond} (h : w ∈ gw) : (w.onTables && w.keeps) = true ∨ ∃ ty, w = .arrayClass ty := by
  have h1 := (List.mem_filter.mp h).2
  unfold gIs at h1
  rcases Bool.or_eq_true_iff.mp h1 with h2 | h2
  · cases w <;> first | (simp [k2_isCode] at h2; done) | exact Or.inl rfl
  · exact good_of_word h2
theorem gw_tbl {w : Cond} (h : w ∈ gw) : w ∈ lw_tbl := (List.mem_filter.mp h).1
theorem gmem {w : Cond} (k : Nat) (h : lw_tbl[k]? = some w) (hg : gIs w = true) : w ∈ gw := List.mem_filter.mpr ⟨List.mem_of_getElem? h, hg⟩
theorem gcons {w w0 : Cond} (h : w ∈ gw) : w ∈ w0 :: gw := List.mem_cons_of_mem _ h
theorem gV {own C : String} {idx : Nat} {y : MethodName} {w0 w1 : Cond} (h1 : Cond.methodLink own idx y ∈ gw) (h2 : Cond.instanceMethod y ∈ gw) (h3 : Cond.selects C y y ∈ gw) (h4 : Cond.initialized C ∈ gw) (h5 : w1 ∈ gw) : GoodIn (w0 :: gw) (wsV own idx C y (w1 :: gw)) := by
  intro w hw
  have h : w ∈ gw := by
    unfold wsV at hw
    rcases List.mem_append.mp hw with q | q
    · simp only [List.mem_cons, List.not_mem_nil, or_false] at q
      rcases q with rfl | rfl | rfl | rfl
      · exact h1
      · exact h2
      · exact h3
      · exact h4
    · rcases List.mem_cons.mp q with rfl | q
      · exact h5
      · exact q
  exact ⟨gcons h, gw_good h⟩
theorem gS {own : String} {idx : Nat} {y : MethodName} {w0 w1 : Cond} (h1 : Cond.methodLink own idx y ∈ gw) (h2 : Cond.static y ∈ gw) (h4 : Cond.initialized own ∈ gw) (h5 : w1 ∈ gw) : GoodIn (w0 :: gw) (wsS own idx y (w1 :: gw)) := by
  intro w hw
  have h : w ∈ gw := by
    unfold wsS at hw
    rcases List.mem_append.mp hw with q | q
    · simp only [List.mem_cons, List.not_mem_nil, or_false] at q
      rcases q with rfl | rfl | rfl
      · exact h1
      · exact h2
      · exact h4
    · rcases List.mem_cons.mp q with rfl | q
      · exact h5
      · exact q
  exact ⟨gcons h, gw_good h⟩
theorem gw_lay {w0 : Cond} {l : List Cond} (h : ∀ w ∈ l, w ∈ gw) : ∀ w ∈ l, w ∈ w0 :: gw := fun w q => gcons (h w q)
theorem lay_X0 : ∀ w ∈ u_ws RX0 TX0 7, w ∈ gw := by decide +kernel
theorem lay_X1 : ∀ w ∈ u_ws RX1 TX1 12, w ∈ gw := by decide +kernel
abbrev wsX0_init : List Cond := Cond.code yX0_init cX0_init 1 none :: gw
abbrev wsX0_poke : List Cond := Cond.code yX0_poke cX0_poke 5 (some .boolean) :: gw
abbrev wsX0_peek : List Cond := Cond.code yX0_peek cX0_peek 2 (some .int) :: gw
abbrev wsX0_protect : List Cond := Cond.code yX0_protect cX0_protect 3 (some .boolean) :: gw
abbrev wsX0_set : List Cond := Cond.code yX0_set cX0_set 3 (some .boolean) :: gw
abbrev wsX0_register : List Cond := Cond.code yX0_register cX0_register 2 (some .int) :: gw
abbrev wsX0_jump : List Cond := Cond.code yX0_jump cX0_jump 2 none :: gw
abbrev wsX0_pc : List Cond := Cond.code yX0_pc cX0_pc 1 (some .int) :: gw
abbrev wsX0_run : List Cond := Cond.code yX0_run cX0_run 4 (some .int) :: gw
abbrev wsX0_trap : List Cond := Cond.code yX0_trap cX0_trap 1 (some .int) :: gw
abbrev wsX0_value : List Cond := Cond.code yX0_value cX0_value 1 (some .int) :: gw
abbrev wsX0_done : List Cond := Cond.code yX0_done cX0_done 1 (some .int) :: gw
abbrev wsX0_makeStep : List Cond := Cond.code yX0_makeStep cX0_makeStep 1 (some .boolean) :: gw
abbrev wsX0_execute : List Cond := Cond.code yX0_execute cX0_execute 2 (some .boolean) :: gw
abbrev wsX0_goToRegister : List Cond := Cond.code yX0_goToRegister cX0_goToRegister 2 (some .boolean) :: gw
abbrev wsX0_branch : List Cond := Cond.code yX0_branch cX0_branch 6 (some .boolean) :: gw
abbrev wsX0_load : List Cond := Cond.code yX0_load cX0_load 4 (some .boolean) :: gw
abbrev wsX0_store : List Cond := Cond.code yX0_store cX0_store 5 (some .boolean) :: gw
abbrev wsX0_computeWithImmediate : List Cond := Cond.code yX0_computeWithImmediate cX0_computeWithImmediate 4 (some .boolean) :: gw
abbrev wsX0_computeWithRegisters : List Cond := Cond.code yX0_computeWithRegisters cX0_computeWithRegisters 5 (some .boolean) :: gw
abbrev wsX0_fence : List Cond := Cond.code yX0_fence cX0_fence 2 (some .boolean) :: gw
abbrev wsX0_callOrBreak : List Cond := Cond.code yX0_callOrBreak cX0_callOrBreak 2 (some .boolean) :: gw
abbrev wsX0_finish : List Cond := Cond.code yX0_finish cX0_finish 3 (some .boolean) :: gw
abbrev wsX0_linkAndGo : List Cond := Cond.code yX0_linkAndGo cX0_linkAndGo 3 (some .boolean) :: gw
abbrev wsX0_refuse : List Cond := Cond.code yX0_refuse cX0_refuse 2 (some .boolean) :: gw
abbrev wsX0_trapWith : List Cond := Cond.code yX0_trapWith cX0_trapWith 3 (some .boolean) :: gw
abbrev wsX0_isRegister : List Cond := Cond.code yX0_isRegister cX0_isRegister 1 (some .boolean) :: gw
abbrev wsX0_putRegister : List Cond := Cond.code yX0_putRegister cX0_putRegister 3 none :: gw
abbrev wsX0_registerA : List Cond := Cond.code yX0_registerA cX0_registerA 2 (some .int) :: gw
abbrev wsX0_registerB : List Cond := Cond.code yX0_registerB cX0_registerB 2 (some .int) :: gw
abbrev wsX0_isInPages : List Cond := Cond.code yX0_isInPages cX0_isInPages 1 (some .boolean) :: gw
abbrev wsX0_isCrooked : List Cond := Cond.code yX0_isCrooked cX0_isCrooked 2 (some .boolean) :: gw
abbrev wsX0_hasRight : List Cond := Cond.code yX0_hasRight cX0_hasRight 3 (some .boolean) :: gw
abbrev wsX0_bytesFrom : List Cond := Cond.code yX0_bytesFrom cX0_bytesFrom 2 (some .int) :: gw
abbrev wsX0_putBytes : List Cond := Cond.code yX0_putBytes cX0_putBytes 9 none :: gw
abbrev wsX0_unsigned : List Cond := Cond.code yX0_unsigned cX0_unsigned 1 (some .long) :: gw
abbrev wsX0_compare : List Cond := Cond.code yX0_compare cX0_compare 3 (some .boolean) :: gw
abbrev wsX0_narrow : List Cond := Cond.code yX0_narrow cX0_narrow 2 (some .int) :: gw
abbrev wsX0_compute : List Cond := Cond.code yX0_compute cX0_compute 3 (some .int) :: gw
abbrev wsX0_multiplyOrDivide : List Cond := Cond.code yX0_multiplyOrDivide cX0_multiplyOrDivide 3 (some .int) :: gw
abbrev wsX0_upperHalf : List Cond := Cond.code yX0_upperHalf cX0_upperHalf 2 (some .int) :: gw
abbrev wsX0_divide : List Cond := Cond.code yX0_divide cX0_divide 3 (some .int) :: gw
abbrev wsX0_partD : List Cond := Cond.code yX0_partD cX0_partD 1 (some .int) :: gw
abbrev wsX0_partF : List Cond := Cond.code yX0_partF cX0_partF 1 (some .int) :: gw
abbrev wsX0_partB : List Cond := Cond.code yX0_partB cX0_partB 1 (some .int) :: gw
abbrev wsX0_partG : List Cond := Cond.code yX0_partG cX0_partG 1 (some .int) :: gw
abbrev wsX0_lowImmediate : List Cond := Cond.code yX0_lowImmediate cX0_lowImmediate 1 (some .int) :: gw
abbrev wsX0_storeImmediate : List Cond := Cond.code yX0_storeImmediate cX0_storeImmediate 1 (some .int) :: gw
abbrev wsX0_branchImmediate : List Cond := Cond.code yX0_branchImmediate cX0_branchImmediate 1 (some .int) :: gw
abbrev wsX0_upperImmediate : List Cond := Cond.code yX0_upperImmediate cX0_upperImmediate 1 (some .int) :: gw
abbrev wsX0_jumpImmediate : List Cond := Cond.code yX0_jumpImmediate cX0_jumpImmediate 1 (some .int) :: gw
abbrev wsX1_init : List Cond := Cond.code yX1_init cX1_init 1 none :: gw
abbrev wsX1_thrown : List Cond := Cond.code yX1_thrown cX1_thrown 1 (some .int) :: gw
abbrev wsX1_poke : List Cond := Cond.code yX1_poke cX1_poke 6 (some .boolean) :: gw
abbrev wsX1_peek : List Cond := Cond.code yX1_peek cX1_peek 2 (some .int) :: gw
abbrev wsX1_protect : List Cond := Cond.code yX1_protect cX1_protect 3 (some .boolean) :: gw
abbrev wsX1_may : List Cond := Cond.code yX1_may cX1_may 4 (some .boolean) :: gw
abbrev wsX1_bytes : List Cond := Cond.code yX1_bytes cX1_bytes 5 (some .int) :: gw
abbrev wsX1_set : List Cond := Cond.code yX1_set cX1_set 3 (some .boolean) :: gw
abbrev wsX1_register : List Cond := Cond.code yX1_register cX1_register 2 (some .int) :: gw
abbrev wsX1_jump : List Cond := Cond.code yX1_jump cX1_jump 2 none :: gw
abbrev wsX1_pc : List Cond := Cond.code yX1_pc cX1_pc 1 (some .int) :: gw
abbrev wsX1_part : List Cond := Cond.code yX1_part cX1_part 5 (some .int) :: gw
abbrev wsX1_signed : List Cond := Cond.code yX1_signed cX1_signed 2 (some .int) :: gw
abbrev wsX1_i : List Cond := Cond.code yX1_i cX1_i 1 (some .int) :: gw
abbrev wsX1_s : List Cond := Cond.code yX1_s cX1_s 1 (some .int) :: gw
abbrev wsX1_b : List Cond := Cond.code yX1_b cX1_b 1 (some .int) :: gw
abbrev wsX1_u : List Cond := Cond.code yX1_u cX1_u 1 (some .int) :: gw
abbrev wsX1_j : List Cond := Cond.code yX1_j cX1_j 1 (some .int) :: gw
abbrev wsX1_under : List Cond := Cond.code yX1_under cX1_under 6 (some .boolean) :: gw
abbrev wsX1_upper : List Cond := Cond.code yX1_upper cX1_upper 6 (some .int) :: gw
abbrev wsX1_divided : List Cond := Cond.code yX1_divided cX1_divided 8 (some .int) :: gw
abbrev wsX1_quotient : List Cond := Cond.code yX1_quotient cX1_quotient 5 (some .int) :: gw
abbrev wsX1_moved : List Cond := Cond.code yX1_moved cX1_moved 6 (some .int) :: gw
abbrev wsX1_multiplied : List Cond := Cond.code yX1_multiplied cX1_multiplied 4 (some .int) :: gw
abbrev wsX1_fail : List Cond := Cond.code yX1_fail cX1_fail 3 none :: gw
abbrev wsX1_strange : List Cond := Cond.code yX1_strange cX1_strange 1 none :: gw
abbrev wsX1_put : List Cond := Cond.code yX1_put cX1_put 3 none :: gw
abbrev wsX1_goTo : List Cond := Cond.code yX1_goTo cX1_goTo 3 none :: gw
abbrev wsX1_branch : List Cond := Cond.code yX1_branch cX1_branch 5 none :: gw
abbrev wsX1_load : List Cond := Cond.code yX1_load cX1_load 5 none :: gw
abbrev wsX1_store : List Cond := Cond.code yX1_store cX1_store 6 none :: gw
abbrev wsX1_worked : List Cond := Cond.code yX1_worked cX1_worked 4 (some .int) :: gw
abbrev wsX1_immediate : List Cond := Cond.code yX1_immediate cX1_immediate 5 none :: gw
abbrev wsX1_both : List Cond := Cond.code yX1_both cX1_both 5 none :: gw
abbrev wsX1_perform : List Cond := Cond.code yX1_perform cX1_perform 5 none :: gw
abbrev wsX1_step : List Cond := Cond.code yX1_step cX1_step 1 (some .boolean) :: gw
abbrev wsX1_run : List Cond := Cond.code yX1_run cX1_run 4 (some .int) :: gw
abbrev wsX1_trap : List Cond := Cond.code yX1_trap cX1_trap 1 (some .int) :: gw
abbrev wsX1_value : List Cond := Cond.code yX1_value cX1_value 1 (some .int) :: gw
abbrev wsX1_done : List Cond := Cond.code yX1_done cX1_done 1 (some .int) :: gw
set_option maxRecDepth 20000 in
theorem mT_L_8 : Cond.classLink RL 8 "UserCore" ∈ gw := gmem 47 (by decide +kernel) rfl
set_option maxRecDepth 20000 in
theorem mO_X0 : Cond.instantiable RX0 7 ∈ gw := gmem 48 (by decide +kernel) rfl
set_option maxRecDepth 20000 in
theorem mL_L_15 : Cond.methodLink RL 15 yX0_init ∈ gw := gmem 49 (by decide +kernel) rfl
set_option maxRecDepth 20000 in
theorem mI_X0_init : Cond.instanceMethod yX0_init ∈ gw := gmem 50 (by decide +kernel) rfl
set_option maxRecDepth 20000 in
theorem mC_X0_init : Cond.code yX0_init cX0_init 1 none ∈ gw := gmem 51 rfl rfl
set_option maxRecDepth 20000 in
theorem mL_X0_3 : Cond.methodLink RX0 3 objectInit ∈ gw := gmem 52 (by decide +kernel) rfl
set_option maxRecDepth 20000 in
theorem mF_X0_9 : Cond.fieldLink RX0 9 "UserCore" "words" "[I" ∈ gw := gmem 55 (by decide +kernel) rfl
set_option maxRecDepth 20000 in
theorem mF_X0_13 : Cond.fieldLink RX0 13 "UserCore" "rights" "[I" ∈ gw := gmem 56 (by decide +kernel) rfl
set_option maxRecDepth 20000 in
theorem mF_X0_16 : Cond.fieldLink RX0 16 "UserCore" "registers" "[I" ∈ gw := gmem 57 (by decide +kernel) rfl
set_option maxRecDepth 20000 in
theorem mF_X0_19 : Cond.fieldLink RX0 19 "UserCore" "pc" "I" ∈ gw := gmem 58 (by decide +kernel) rfl
set_option maxRecDepth 20000 in
theorem mF_X0_23 : Cond.fieldLink RX0 23 "UserCore" "trap" "I" ∈ gw := gmem 59 (by decide +kernel) rfl
set_option maxRecDepth 20000 in
theorem mF_X0_26 : Cond.fieldLink RX0 26 "UserCore" "value" "I" ∈ gw := gmem 60 (by decide +kernel) rfl
set_option maxRecDepth 20000 in
theorem mF_X0_29 : Cond.fieldLink RX0 29 "UserCore" "done" "I" ∈ gw := gmem 61 (by decide +kernel) rfl
set_option maxRecDepth 20000 in
theorem mA_int : Cond.arrayClass .int ∈ gw := gmem 77 (by decide +kernel) rfl
set_option maxRecDepth 20000 in
theorem mL_L_21 : Cond.methodLink RL 21 yX0_poke ∈ gw := gmem 78 (by decide +kernel) rfl
set_option maxRecDepth 20000 in
theorem mI_X0_poke : Cond.instanceMethod yX0_poke ∈ gw := gmem 79 (by decide +kernel) rfl
set_option maxRecDepth 20000 in
theorem mE_X0_poke : Cond.selects RX0 yX0_poke yX0_poke ∈ gw := gmem 80 (by decide +kernel) rfl
set_option maxRecDepth 20000 in
theorem mC_X0_poke : Cond.code yX0_poke cX0_poke 5 (some .boolean) ∈ gw := gmem 81 rfl rfl
set_option maxRecDepth 20000 in
theorem mL_X0_32 : Cond.methodLink RX0 32 yX0_putBytes ∈ gw := gmem 82 (by decide +kernel) rfl
set_option maxRecDepth 20000 in
theorem mI_X0_putBytes : Cond.instanceMethod yX0_putBytes ∈ gw := gmem 84 (by decide +kernel) rfl
set_option maxRecDepth 20000 in
theorem mC_X0_putBytes : Cond.code yX0_putBytes cX0_putBytes 9 none ∈ gw := gmem 85 rfl rfl
set_option maxRecDepth 20000 in
theorem mL_L_26 : Cond.methodLink RL 26 yX0_peek ∈ gw := gmem 86 (by decide +kernel) rfl
set_option maxRecDepth 20000 in
theorem mI_X0_peek : Cond.instanceMethod yX0_peek ∈ gw := gmem 87 (by decide +kernel) rfl
set_option maxRecDepth 20000 in
theorem mE_X0_peek : Cond.selects RX0 yX0_peek yX0_peek ∈ gw := gmem 88 (by decide +kernel) rfl
set_option maxRecDepth 20000 in
theorem mC_X0_peek : Cond.code yX0_peek cX0_peek 2 (some .int) ∈ gw := gmem 89 rfl rfl
set_option maxRecDepth 20000 in
theorem mL_X0_36 : Cond.methodLink RX0 36 yX0_isInPages ∈ gw := gmem 90 (by decide +kernel) rfl
set_option maxRecDepth 20000 in
theorem mS_X0_isInPages : Cond.static yX0_isInPages ∈ gw := gmem 91 (by decide +kernel) rfl
set_option maxRecDepth 20000 in
theorem mC_X0_isInPages : Cond.code yX0_isInPages cX0_isInPages 1 (some .boolean) ∈ gw := gmem 92 rfl rfl
set_option maxRecDepth 20000 in
theorem mL_X0_40 : Cond.methodLink RX0 40 yX0_bytesFrom ∈ gw := gmem 93 (by decide +kernel) rfl
set_option maxRecDepth 20000 in
theorem mI_X0_bytesFrom : Cond.instanceMethod yX0_bytesFrom ∈ gw := gmem 95 (by decide +kernel) rfl
set_option maxRecDepth 20000 in
theorem mC_X0_bytesFrom : Cond.code yX0_bytesFrom cX0_bytesFrom 2 (some .int) ∈ gw := gmem 96 rfl rfl
set_option maxRecDepth 20000 in
theorem mL_L_30 : Cond.methodLink RL 30 yX0_protect ∈ gw := gmem 97 (by decide +kernel) rfl
set_option maxRecDepth 20000 in
theorem mI_X0_protect : Cond.instanceMethod yX0_protect ∈ gw := gmem 98 (by decide +kernel) rfl
set_option maxRecDepth 20000 in
theorem mE_X0_protect : Cond.selects RX0 yX0_protect yX0_protect ∈ gw := gmem 99 (by decide +kernel) rfl
set_option maxRecDepth 20000 in
theorem mC_X0_protect : Cond.code yX0_protect cX0_protect 3 (some .boolean) ∈ gw := gmem 100 rfl rfl
set_option maxRecDepth 20000 in
theorem mL_L_35 : Cond.methodLink RL 35 yX0_set ∈ gw := gmem 101 (by decide +kernel) rfl
set_option maxRecDepth 20000 in
theorem mI_X0_set : Cond.instanceMethod yX0_set ∈ gw := gmem 102 (by decide +kernel) rfl
set_option maxRecDepth 20000 in
theorem mE_X0_set : Cond.selects RX0 yX0_set yX0_set ∈ gw := gmem 103 (by decide +kernel) rfl
set_option maxRecDepth 20000 in
theorem mC_X0_set : Cond.code yX0_set cX0_set 3 (some .boolean) ∈ gw := gmem 104 rfl rfl
set_option maxRecDepth 20000 in
theorem mL_X0_44 : Cond.methodLink RX0 44 yX0_isRegister ∈ gw := gmem 105 (by decide +kernel) rfl
set_option maxRecDepth 20000 in
theorem mS_X0_isRegister : Cond.static yX0_isRegister ∈ gw := gmem 106 (by decide +kernel) rfl
set_option maxRecDepth 20000 in
theorem mC_X0_isRegister : Cond.code yX0_isRegister cX0_isRegister 1 (some .boolean) ∈ gw := gmem 107 rfl rfl
set_option maxRecDepth 20000 in
theorem mL_X0_47 : Cond.methodLink RX0 47 yX0_putRegister ∈ gw := gmem 108 (by decide +kernel) rfl
set_option maxRecDepth 20000 in
theorem mI_X0_putRegister : Cond.instanceMethod yX0_putRegister ∈ gw := gmem 110 (by decide +kernel) rfl
set_option maxRecDepth 20000 in
theorem mC_X0_putRegister : Cond.code yX0_putRegister cX0_putRegister 3 none ∈ gw := gmem 111 rfl rfl
set_option maxRecDepth 20000 in
theorem mL_L_39 : Cond.methodLink RL 39 yX0_register ∈ gw := gmem 112 (by decide +kernel) rfl
set_option maxRecDepth 20000 in
theorem mI_X0_register : Cond.instanceMethod yX0_register ∈ gw := gmem 113 (by decide +kernel) rfl
set_option maxRecDepth 20000 in
theorem mE_X0_register : Cond.selects RX0 yX0_register yX0_register ∈ gw := gmem 114 (by decide +kernel) rfl
set_option maxRecDepth 20000 in
theorem mC_X0_register : Cond.code yX0_register cX0_register 2 (some .int) ∈ gw := gmem 115 rfl rfl
set_option maxRecDepth 20000 in
theorem mL_L_43 : Cond.methodLink RL 43 yX0_jump ∈ gw := gmem 116 (by decide +kernel) rfl
set_option maxRecDepth 20000 in
theorem mI_X0_jump : Cond.instanceMethod yX0_jump ∈ gw := gmem 117 (by decide +kernel) rfl
set_option maxRecDepth 20000 in
theorem mE_X0_jump : Cond.selects RX0 yX0_jump yX0_jump ∈ gw := gmem 118 (by decide +kernel) rfl
set_option maxRecDepth 20000 in
theorem mC_X0_jump : Cond.code yX0_jump cX0_jump 2 none ∈ gw := gmem 119 rfl rfl
set_option maxRecDepth 20000 in
theorem mL_L_48 : Cond.methodLink RL 48 yX0_pc ∈ gw := gmem 120 (by decide +kernel) rfl
set_option maxRecDepth 20000 in
theorem mI_X0_pc : Cond.instanceMethod yX0_pc ∈ gw := gmem 121 (by decide +kernel) rfl
set_option maxRecDepth 20000 in
theorem mE_X0_pc : Cond.selects RX0 yX0_pc yX0_pc ∈ gw := gmem 122 (by decide +kernel) rfl
set_option maxRecDepth 20000 in
theorem mC_X0_pc : Cond.code yX0_pc cX0_pc 1 (some .int) ∈ gw := gmem 123 rfl rfl
set_option maxRecDepth 20000 in
theorem mL_L_62 : Cond.methodLink RL 62 yX0_trap ∈ gw := gmem 124 (by decide +kernel) rfl
set_option maxRecDepth 20000 in
theorem mI_X0_trap : Cond.instanceMethod yX0_trap ∈ gw := gmem 125 (by decide +kernel) rfl
set_option maxRecDepth 20000 in
theorem mE_X0_trap : Cond.selects RX0 yX0_trap yX0_trap ∈ gw := gmem 126 (by decide +kernel) rfl
set_option maxRecDepth 20000 in
theorem mC_X0_trap : Cond.code yX0_trap cX0_trap 1 (some .int) ∈ gw := gmem 127 rfl rfl
set_option maxRecDepth 20000 in
theorem mL_L_66 : Cond.methodLink RL 66 yX0_value ∈ gw := gmem 128 (by decide +kernel) rfl
set_option maxRecDepth 20000 in
theorem mI_X0_value : Cond.instanceMethod yX0_value ∈ gw := gmem 129 (by decide +kernel) rfl
set_option maxRecDepth 20000 in
theorem mE_X0_value : Cond.selects RX0 yX0_value yX0_value ∈ gw := gmem 130 (by decide +kernel) rfl
set_option maxRecDepth 20000 in
theorem mC_X0_value : Cond.code yX0_value cX0_value 1 (some .int) ∈ gw := gmem 131 rfl rfl
set_option maxRecDepth 20000 in
theorem mL_L_70 : Cond.methodLink RL 70 yX0_done ∈ gw := gmem 132 (by decide +kernel) rfl
set_option maxRecDepth 20000 in
theorem mI_X0_done : Cond.instanceMethod yX0_done ∈ gw := gmem 133 (by decide +kernel) rfl
set_option maxRecDepth 20000 in
theorem mE_X0_done : Cond.selects RX0 yX0_done yX0_done ∈ gw := gmem 134 (by decide +kernel) rfl
set_option maxRecDepth 20000 in
theorem mC_X0_done : Cond.code yX0_done cX0_done 1 (some .int) ∈ gw := gmem 135 rfl rfl
set_option maxRecDepth 20000 in
theorem mL_L_53 : Cond.methodLink RL 53 yL_run ∈ gw := gmem 136 (by decide +kernel) rfl
set_option maxRecDepth 20000 in
theorem mS_L_run : Cond.static yL_run ∈ gw := gmem 137 (by decide +kernel) rfl
set_option maxRecDepth 20000 in
theorem mT_L_13 : Cond.classLink RL 13 "java/lang/IllegalArgumentException" ∈ gw := gmem 139 (by decide +kernel) rfl
set_option maxRecDepth 20000 in
theorem mL_L_7 : Cond.methodLink RL 7 yX0_run ∈ gw := gmem 140 (by decide +kernel) rfl
set_option maxRecDepth 20000 in
theorem mI_X0_run : Cond.instanceMethod yX0_run ∈ gw := gmem 141 (by decide +kernel) rfl
set_option maxRecDepth 20000 in
theorem mE_X0_run : Cond.selects RX0 yX0_run yX0_run ∈ gw := gmem 142 (by decide +kernel) rfl
set_option maxRecDepth 20000 in
theorem mC_X0_run : Cond.code yX0_run cX0_run 4 (some .int) ∈ gw := gmem 143 rfl rfl
set_option maxRecDepth 20000 in
theorem mT_X0_51 : Cond.classLink RX0 51 "java/lang/IllegalArgumentException" ∈ gw := gmem 144 (by decide +kernel) rfl
set_option maxRecDepth 20000 in
theorem mA_byte : Cond.arrayClass .byte ∈ gw := gmem 209 (by decide +kernel) rfl
set_option maxRecDepth 20000 in
theorem mL_X0_58 : Cond.methodLink RX0 58 yX0_makeStep ∈ gw := gmem 210 (by decide +kernel) rfl
set_option maxRecDepth 20000 in
theorem mI_X0_makeStep : Cond.instanceMethod yX0_makeStep ∈ gw := gmem 212 (by decide +kernel) rfl
set_option maxRecDepth 20000 in
theorem mC_X0_makeStep : Cond.code yX0_makeStep cX0_makeStep 1 (some .boolean) ∈ gw := gmem 213 rfl rfl
set_option maxRecDepth 20000 in
theorem mL_X0_62 : Cond.methodLink RX0 62 yX0_isCrooked ∈ gw := gmem 214 (by decide +kernel) rfl
set_option maxRecDepth 20000 in
theorem mS_X0_isCrooked : Cond.static yX0_isCrooked ∈ gw := gmem 215 (by decide +kernel) rfl
set_option maxRecDepth 20000 in
theorem mC_X0_isCrooked : Cond.code yX0_isCrooked cX0_isCrooked 2 (some .boolean) ∈ gw := gmem 216 rfl rfl
set_option maxRecDepth 20000 in
theorem mL_X0_66 : Cond.methodLink RX0 66 yX0_trapWith ∈ gw := gmem 217 (by decide +kernel) rfl
set_option maxRecDepth 20000 in
theorem mI_X0_trapWith : Cond.instanceMethod yX0_trapWith ∈ gw := gmem 219 (by decide +kernel) rfl
set_option maxRecDepth 20000 in
theorem mC_X0_trapWith : Cond.code yX0_trapWith cX0_trapWith 3 (some .boolean) ∈ gw := gmem 220 rfl rfl
set_option maxRecDepth 20000 in
theorem mL_X0_69 : Cond.methodLink RX0 69 yX0_hasRight ∈ gw := gmem 221 (by decide +kernel) rfl
set_option maxRecDepth 20000 in
theorem mI_X0_hasRight : Cond.instanceMethod yX0_hasRight ∈ gw := gmem 223 (by decide +kernel) rfl
set_option maxRecDepth 20000 in
theorem mC_X0_hasRight : Cond.code yX0_hasRight cX0_hasRight 3 (some .boolean) ∈ gw := gmem 224 rfl rfl
set_option maxRecDepth 20000 in
theorem mL_X0_72 : Cond.methodLink RX0 72 yX0_execute ∈ gw := gmem 225 (by decide +kernel) rfl
set_option maxRecDepth 20000 in
theorem mI_X0_execute : Cond.instanceMethod yX0_execute ∈ gw := gmem 227 (by decide +kernel) rfl
set_option maxRecDepth 20000 in
theorem mC_X0_execute : Cond.code yX0_execute cX0_execute 2 (some .boolean) ∈ gw := gmem 228 rfl rfl
set_option maxRecDepth 20000 in
theorem mL_X0_75 : Cond.methodLink RX0 75 yX0_upperImmediate ∈ gw := gmem 229 (by decide +kernel) rfl
set_option maxRecDepth 20000 in
theorem mS_X0_upperImmediate : Cond.static yX0_upperImmediate ∈ gw := gmem 230 (by decide +kernel) rfl
set_option maxRecDepth 20000 in
theorem mC_X0_upperImmediate : Cond.code yX0_upperImmediate cX0_upperImmediate 1 (some .int) ∈ gw := gmem 231 rfl rfl
set_option maxRecDepth 20000 in
theorem mL_X0_78 : Cond.methodLink RX0 78 yX0_finish ∈ gw := gmem 232 (by decide +kernel) rfl
set_option maxRecDepth 20000 in
theorem mI_X0_finish : Cond.instanceMethod yX0_finish ∈ gw := gmem 234 (by decide +kernel) rfl
set_option maxRecDepth 20000 in
theorem mC_X0_finish : Cond.code yX0_finish cX0_finish 3 (some .boolean) ∈ gw := gmem 235 rfl rfl
set_option maxRecDepth 20000 in
theorem mL_X0_154 : Cond.methodLink RX0 154 yX0_partD ∈ gw := gmem 236 (by decide +kernel) rfl
set_option maxRecDepth 20000 in
theorem mS_X0_partD : Cond.static yX0_partD ∈ gw := gmem 237 (by decide +kernel) rfl
set_option maxRecDepth 20000 in
theorem mC_X0_partD : Cond.code yX0_partD cX0_partD 1 (some .int) ∈ gw := gmem 238 rfl rfl
set_option maxRecDepth 20000 in
theorem mL_X0_81 : Cond.methodLink RX0 81 yX0_jumpImmediate ∈ gw := gmem 239 (by decide +kernel) rfl
set_option maxRecDepth 20000 in
theorem mS_X0_jumpImmediate : Cond.static yX0_jumpImmediate ∈ gw := gmem 240 (by decide +kernel) rfl
set_option maxRecDepth 20000 in
theorem mC_X0_jumpImmediate : Cond.code yX0_jumpImmediate cX0_jumpImmediate 1 (some .int) ∈ gw := gmem 241 rfl rfl
set_option maxRecDepth 20000 in
theorem mL_X0_84 : Cond.methodLink RX0 84 yX0_linkAndGo ∈ gw := gmem 242 (by decide +kernel) rfl
set_option maxRecDepth 20000 in
theorem mI_X0_linkAndGo : Cond.instanceMethod yX0_linkAndGo ∈ gw := gmem 244 (by decide +kernel) rfl
set_option maxRecDepth 20000 in
theorem mC_X0_linkAndGo : Cond.code yX0_linkAndGo cX0_linkAndGo 3 (some .boolean) ∈ gw := gmem 245 rfl rfl
set_option maxRecDepth 20000 in
theorem mL_X0_87 : Cond.methodLink RX0 87 yX0_goToRegister ∈ gw := gmem 246 (by decide +kernel) rfl
set_option maxRecDepth 20000 in
theorem mI_X0_goToRegister : Cond.instanceMethod yX0_goToRegister ∈ gw := gmem 248 (by decide +kernel) rfl
set_option maxRecDepth 20000 in
theorem mC_X0_goToRegister : Cond.code yX0_goToRegister cX0_goToRegister 2 (some .boolean) ∈ gw := gmem 249 rfl rfl
set_option maxRecDepth 20000 in
theorem mL_X0_114 : Cond.methodLink RX0 114 yX0_partF ∈ gw := gmem 250 (by decide +kernel) rfl
set_option maxRecDepth 20000 in
theorem mS_X0_partF : Cond.static yX0_partF ∈ gw := gmem 251 (by decide +kernel) rfl
set_option maxRecDepth 20000 in
theorem mC_X0_partF : Cond.code yX0_partF cX0_partF 1 (some .int) ∈ gw := gmem 252 rfl rfl
set_option maxRecDepth 20000 in
theorem mL_X0_111 : Cond.methodLink RX0 111 yX0_refuse ∈ gw := gmem 253 (by decide +kernel) rfl
set_option maxRecDepth 20000 in
theorem mI_X0_refuse : Cond.instanceMethod yX0_refuse ∈ gw := gmem 255 (by decide +kernel) rfl
set_option maxRecDepth 20000 in
theorem mC_X0_refuse : Cond.code yX0_refuse cX0_refuse 2 (some .boolean) ∈ gw := gmem 256 rfl rfl
set_option maxRecDepth 20000 in
theorem mL_X0_117 : Cond.methodLink RX0 117 yX0_registerA ∈ gw := gmem 257 (by decide +kernel) rfl
set_option maxRecDepth 20000 in
theorem mI_X0_registerA : Cond.instanceMethod yX0_registerA ∈ gw := gmem 259 (by decide +kernel) rfl
set_option maxRecDepth 20000 in
theorem mC_X0_registerA : Cond.code yX0_registerA cX0_registerA 2 (some .int) ∈ gw := gmem 260 rfl rfl
set_option maxRecDepth 20000 in
theorem mL_X0_120 : Cond.methodLink RX0 120 yX0_lowImmediate ∈ gw := gmem 261 (by decide +kernel) rfl
set_option maxRecDepth 20000 in
theorem mS_X0_lowImmediate : Cond.static yX0_lowImmediate ∈ gw := gmem 262 (by decide +kernel) rfl
set_option maxRecDepth 20000 in
theorem mC_X0_lowImmediate : Cond.code yX0_lowImmediate cX0_lowImmediate 1 (some .int) ∈ gw := gmem 263 rfl rfl
set_option maxRecDepth 20000 in
theorem mL_X0_90 : Cond.methodLink RX0 90 yX0_branch ∈ gw := gmem 264 (by decide +kernel) rfl
set_option maxRecDepth 20000 in
theorem mI_X0_branch : Cond.instanceMethod yX0_branch ∈ gw := gmem 266 (by decide +kernel) rfl
set_option maxRecDepth 20000 in
theorem mC_X0_branch : Cond.code yX0_branch cX0_branch 6 (some .boolean) ∈ gw := gmem 267 rfl rfl
set_option maxRecDepth 20000 in
theorem mL_X0_123 : Cond.methodLink RX0 123 yX0_registerB ∈ gw := gmem 268 (by decide +kernel) rfl
set_option maxRecDepth 20000 in
theorem mI_X0_registerB : Cond.instanceMethod yX0_registerB ∈ gw := gmem 270 (by decide +kernel) rfl
set_option maxRecDepth 20000 in
theorem mC_X0_registerB : Cond.code yX0_registerB cX0_registerB 2 (some .int) ∈ gw := gmem 271 rfl rfl
set_option maxRecDepth 20000 in
theorem mL_X0_143 : Cond.methodLink RX0 143 yX0_partB ∈ gw := gmem 272 (by decide +kernel) rfl
set_option maxRecDepth 20000 in
theorem mS_X0_partB : Cond.static yX0_partB ∈ gw := gmem 273 (by decide +kernel) rfl
set_option maxRecDepth 20000 in
theorem mC_X0_partB : Cond.code yX0_partB cX0_partB 1 (some .int) ∈ gw := gmem 274 rfl rfl
set_option maxRecDepth 20000 in
theorem mL_X0_126 : Cond.methodLink RX0 126 yX0_compare ∈ gw := gmem 275 (by decide +kernel) rfl
set_option maxRecDepth 20000 in
theorem mS_X0_compare : Cond.static yX0_compare ∈ gw := gmem 276 (by decide +kernel) rfl
set_option maxRecDepth 20000 in
theorem mC_X0_compare : Cond.code yX0_compare cX0_compare 3 (some .boolean) ∈ gw := gmem 277 rfl rfl
set_option maxRecDepth 20000 in
theorem mL_X0_159 : Cond.methodLink RX0 159 yX0_unsigned ∈ gw := gmem 278 (by decide +kernel) rfl
set_option maxRecDepth 20000 in
theorem mS_X0_unsigned : Cond.static yX0_unsigned ∈ gw := gmem 279 (by decide +kernel) rfl
set_option maxRecDepth 20000 in
theorem mC_X0_unsigned : Cond.code yX0_unsigned cX0_unsigned 1 (some .long) ∈ gw := gmem 280 rfl rfl
set_option maxRecDepth 20000 in
theorem mK_X0_157 : Cond.constantLong RX0 157 4294967295 ∈ gw := gmem 281 (by decide +kernel) rfl
set_option maxRecDepth 20000 in
theorem mL_X0_130 : Cond.methodLink RX0 130 yX0_branchImmediate ∈ gw := gmem 282 (by decide +kernel) rfl
set_option maxRecDepth 20000 in
theorem mS_X0_branchImmediate : Cond.static yX0_branchImmediate ∈ gw := gmem 283 (by decide +kernel) rfl
set_option maxRecDepth 20000 in
theorem mC_X0_branchImmediate : Cond.code yX0_branchImmediate cX0_branchImmediate 1 (some .int) ∈ gw := gmem 284 rfl rfl
set_option maxRecDepth 20000 in
theorem mL_X0_93 : Cond.methodLink RX0 93 yX0_load ∈ gw := gmem 285 (by decide +kernel) rfl
set_option maxRecDepth 20000 in
theorem mI_X0_load : Cond.instanceMethod yX0_load ∈ gw := gmem 287 (by decide +kernel) rfl
set_option maxRecDepth 20000 in
theorem mC_X0_load : Cond.code yX0_load cX0_load 4 (some .boolean) ∈ gw := gmem 288 rfl rfl
set_option maxRecDepth 20000 in
theorem mL_X0_133 : Cond.methodLink RX0 133 yX0_narrow ∈ gw := gmem 289 (by decide +kernel) rfl
set_option maxRecDepth 20000 in
theorem mS_X0_narrow : Cond.static yX0_narrow ∈ gw := gmem 290 (by decide +kernel) rfl
set_option maxRecDepth 20000 in
theorem mC_X0_narrow : Cond.code yX0_narrow cX0_narrow 2 (some .int) ∈ gw := gmem 291 rfl rfl
set_option maxRecDepth 20000 in
theorem mK_X0_163 : Cond.constant RX0 163 65535 ∈ gw := gmem 292 (by decide +kernel) rfl
set_option maxRecDepth 20000 in
theorem mL_X0_96 : Cond.methodLink RX0 96 yX0_store ∈ gw := gmem 293 (by decide +kernel) rfl
set_option maxRecDepth 20000 in
theorem mI_X0_store : Cond.instanceMethod yX0_store ∈ gw := gmem 295 (by decide +kernel) rfl
set_option maxRecDepth 20000 in
theorem mC_X0_store : Cond.code yX0_store cX0_store 5 (some .boolean) ∈ gw := gmem 296 rfl rfl
set_option maxRecDepth 20000 in
theorem mL_X0_137 : Cond.methodLink RX0 137 yX0_storeImmediate ∈ gw := gmem 297 (by decide +kernel) rfl
set_option maxRecDepth 20000 in
theorem mS_X0_storeImmediate : Cond.static yX0_storeImmediate ∈ gw := gmem 298 (by decide +kernel) rfl
set_option maxRecDepth 20000 in
theorem mC_X0_storeImmediate : Cond.code yX0_storeImmediate cX0_storeImmediate 1 (some .int) ∈ gw := gmem 299 rfl rfl
set_option maxRecDepth 20000 in
theorem mL_X0_99 : Cond.methodLink RX0 99 yX0_computeWithImmediate ∈ gw := gmem 300 (by decide +kernel) rfl
set_option maxRecDepth 20000 in
theorem mI_X0_computeWithImmediate : Cond.instanceMethod yX0_computeWithImmediate ∈ gw := gmem 302 (by decide +kernel) rfl
set_option maxRecDepth 20000 in
theorem mC_X0_computeWithImmediate : Cond.code yX0_computeWithImmediate cX0_computeWithImmediate 4 (some .boolean) ∈ gw := gmem 303 rfl rfl
set_option maxRecDepth 20000 in
theorem mL_X0_140 : Cond.methodLink RX0 140 yX0_partG ∈ gw := gmem 304 (by decide +kernel) rfl
set_option maxRecDepth 20000 in
theorem mS_X0_partG : Cond.static yX0_partG ∈ gw := gmem 305 (by decide +kernel) rfl
set_option maxRecDepth 20000 in
theorem mC_X0_partG : Cond.code yX0_partG cX0_partG 1 (some .int) ∈ gw := gmem 306 rfl rfl
set_option maxRecDepth 20000 in
theorem mL_X0_146 : Cond.methodLink RX0 146 yX0_compute ∈ gw := gmem 307 (by decide +kernel) rfl
set_option maxRecDepth 20000 in
theorem mS_X0_compute : Cond.static yX0_compute ∈ gw := gmem 308 (by decide +kernel) rfl
set_option maxRecDepth 20000 in
theorem mC_X0_compute : Cond.code yX0_compute cX0_compute 3 (some .int) ∈ gw := gmem 309 rfl rfl
set_option maxRecDepth 20000 in
theorem mL_X0_102 : Cond.methodLink RX0 102 yX0_computeWithRegisters ∈ gw := gmem 310 (by decide +kernel) rfl
set_option maxRecDepth 20000 in
theorem mI_X0_computeWithRegisters : Cond.instanceMethod yX0_computeWithRegisters ∈ gw := gmem 312 (by decide +kernel) rfl
set_option maxRecDepth 20000 in
theorem mC_X0_computeWithRegisters : Cond.code yX0_computeWithRegisters cX0_computeWithRegisters 5 (some .boolean) ∈ gw := gmem 313 rfl rfl
set_option maxRecDepth 20000 in
theorem mL_X0_150 : Cond.methodLink RX0 150 yX0_multiplyOrDivide ∈ gw := gmem 314 (by decide +kernel) rfl
set_option maxRecDepth 20000 in
theorem mS_X0_multiplyOrDivide : Cond.static yX0_multiplyOrDivide ∈ gw := gmem 315 (by decide +kernel) rfl
set_option maxRecDepth 20000 in
theorem mC_X0_multiplyOrDivide : Cond.code yX0_multiplyOrDivide cX0_multiplyOrDivide 3 (some .int) ∈ gw := gmem 316 rfl rfl
set_option maxRecDepth 20000 in
theorem mL_X0_164 : Cond.methodLink RX0 164 yX0_upperHalf ∈ gw := gmem 317 (by decide +kernel) rfl
set_option maxRecDepth 20000 in
theorem mS_X0_upperHalf : Cond.static yX0_upperHalf ∈ gw := gmem 318 (by decide +kernel) rfl
set_option maxRecDepth 20000 in
theorem mC_X0_upperHalf : Cond.code yX0_upperHalf cX0_upperHalf 2 (some .int) ∈ gw := gmem 319 rfl rfl
set_option maxRecDepth 20000 in
theorem mL_X0_168 : Cond.methodLink RX0 168 yX0_divide ∈ gw := gmem 320 (by decide +kernel) rfl
set_option maxRecDepth 20000 in
theorem mS_X0_divide : Cond.static yX0_divide ∈ gw := gmem 321 (by decide +kernel) rfl
set_option maxRecDepth 20000 in
theorem mC_X0_divide : Cond.code yX0_divide cX0_divide 3 (some .int) ∈ gw := gmem 322 rfl rfl
set_option maxRecDepth 20000 in
theorem mL_X0_105 : Cond.methodLink RX0 105 yX0_fence ∈ gw := gmem 323 (by decide +kernel) rfl
set_option maxRecDepth 20000 in
theorem mI_X0_fence : Cond.instanceMethod yX0_fence ∈ gw := gmem 325 (by decide +kernel) rfl
set_option maxRecDepth 20000 in
theorem mC_X0_fence : Cond.code yX0_fence cX0_fence 2 (some .boolean) ∈ gw := gmem 326 rfl rfl
set_option maxRecDepth 20000 in
theorem mL_X0_108 : Cond.methodLink RX0 108 yX0_callOrBreak ∈ gw := gmem 327 (by decide +kernel) rfl
set_option maxRecDepth 20000 in
theorem mI_X0_callOrBreak : Cond.instanceMethod yX0_callOrBreak ∈ gw := gmem 329 (by decide +kernel) rfl
set_option maxRecDepth 20000 in
theorem mC_X0_callOrBreak : Cond.code yX0_callOrBreak cX0_callOrBreak 2 (some .boolean) ∈ gw := gmem 330 rfl rfl
set_option maxRecDepth 20000 in
theorem mK_X0_153 : Cond.constant RX0 153 1048691 ∈ gw := gmem 331 (by decide +kernel) rfl
set_option maxRecDepth 20000 in
theorem mT_L_16 : Cond.classLink RL 16 "UserCoreModel" ∈ gw := gmem 332 (by decide +kernel) rfl
set_option maxRecDepth 20000 in
theorem mO_X1 : Cond.instantiable RX1 12 ∈ gw := gmem 333 (by decide +kernel) rfl
set_option maxRecDepth 20000 in
theorem mL_L_18 : Cond.methodLink RL 18 yX1_init ∈ gw := gmem 334 (by decide +kernel) rfl
set_option maxRecDepth 20000 in
theorem mI_X1_init : Cond.instanceMethod yX1_init ∈ gw := gmem 335 (by decide +kernel) rfl
set_option maxRecDepth 20000 in
theorem mC_X1_init : Cond.code yX1_init cX1_init 1 none ∈ gw := gmem 336 rfl rfl
set_option maxRecDepth 20000 in
theorem mL_X1_1 : Cond.methodLink RX1 1 objectInit ∈ gw := gmem 337 (by decide +kernel) rfl
set_option maxRecDepth 20000 in
theorem mF_X1_24 : Cond.fieldLink RX1 24 "UserCoreModel" "thrown" "I" ∈ gw := gmem 338 (by decide +kernel) rfl
set_option maxRecDepth 20000 in
theorem mF_X1_7 : Cond.fieldLink RX1 7 "UserCoreModel" "memory" "[B" ∈ gw := gmem 339 (by decide +kernel) rfl
set_option maxRecDepth 20000 in
theorem mF_X1_13 : Cond.fieldLink RX1 13 "UserCoreModel" "rights" "[I" ∈ gw := gmem 340 (by decide +kernel) rfl
set_option maxRecDepth 20000 in
theorem mF_X1_17 : Cond.fieldLink RX1 17 "UserCoreModel" "registers" "[I" ∈ gw := gmem 341 (by decide +kernel) rfl
set_option maxRecDepth 20000 in
theorem mF_X1_27 : Cond.fieldLink RX1 27 "UserCoreModel" "pc" "I" ∈ gw := gmem 342 (by decide +kernel) rfl
set_option maxRecDepth 20000 in
theorem mF_X1_20 : Cond.fieldLink RX1 20 "UserCoreModel" "trap" "I" ∈ gw := gmem 343 (by decide +kernel) rfl
set_option maxRecDepth 20000 in
theorem mF_X1_136 : Cond.fieldLink RX1 136 "UserCoreModel" "value" "I" ∈ gw := gmem 344 (by decide +kernel) rfl
set_option maxRecDepth 20000 in
theorem mF_X1_133 : Cond.fieldLink RX1 133 "UserCoreModel" "done" "I" ∈ gw := gmem 345 (by decide +kernel) rfl
set_option maxRecDepth 20000 in
theorem mF_X1_30 : Cond.fieldLink RX1 30 "UserCoreModel" "w" "I" ∈ gw := gmem 346 (by decide +kernel) rfl
set_option maxRecDepth 20000 in
theorem mF_X1_54 : Cond.fieldLink RX1 54 "UserCoreModel" "fails" "I" ∈ gw := gmem 347 (by decide +kernel) rfl
set_option maxRecDepth 20000 in
theorem mF_X1_57 : Cond.fieldLink RX1 57 "UserCoreModel" "with" "I" ∈ gw := gmem 348 (by decide +kernel) rfl
set_option maxRecDepth 20000 in
theorem mF_X1_64 : Cond.fieldLink RX1 64 "UserCoreModel" "next" "I" ∈ gw := gmem 349 (by decide +kernel) rfl
set_option maxRecDepth 20000 in
theorem mL_L_59 : Cond.methodLink RL 59 yX1_thrown ∈ gw := gmem 375 (by decide +kernel) rfl
set_option maxRecDepth 20000 in
theorem mI_X1_thrown : Cond.instanceMethod yX1_thrown ∈ gw := gmem 376 (by decide +kernel) rfl
set_option maxRecDepth 20000 in
theorem mE_X1_thrown : Cond.selects RX1 yX1_thrown yX1_thrown ∈ gw := gmem 377 (by decide +kernel) rfl
set_option maxRecDepth 20000 in
theorem mC_X1_thrown : Cond.code yX1_thrown cX1_thrown 1 (some .int) ∈ gw := gmem 378 rfl rfl
set_option maxRecDepth 20000 in
theorem mL_L_25 : Cond.methodLink RL 25 yX1_poke ∈ gw := gmem 379 (by decide +kernel) rfl
set_option maxRecDepth 20000 in
theorem mI_X1_poke : Cond.instanceMethod yX1_poke ∈ gw := gmem 380 (by decide +kernel) rfl
set_option maxRecDepth 20000 in
theorem mE_X1_poke : Cond.selects RX1 yX1_poke yX1_poke ∈ gw := gmem 381 (by decide +kernel) rfl
set_option maxRecDepth 20000 in
theorem mC_X1_poke : Cond.code yX1_poke cX1_poke 6 (some .boolean) ∈ gw := gmem 382 rfl rfl
set_option maxRecDepth 20000 in
theorem mL_L_29 : Cond.methodLink RL 29 yX1_peek ∈ gw := gmem 383 (by decide +kernel) rfl
set_option maxRecDepth 20000 in
theorem mI_X1_peek : Cond.instanceMethod yX1_peek ∈ gw := gmem 384 (by decide +kernel) rfl
set_option maxRecDepth 20000 in
theorem mE_X1_peek : Cond.selects RX1 yX1_peek yX1_peek ∈ gw := gmem 385 (by decide +kernel) rfl
set_option maxRecDepth 20000 in
theorem mC_X1_peek : Cond.code yX1_peek cX1_peek 2 (some .int) ∈ gw := gmem 386 rfl rfl
set_option maxRecDepth 20000 in
theorem mL_L_34 : Cond.methodLink RL 34 yX1_protect ∈ gw := gmem 387 (by decide +kernel) rfl
set_option maxRecDepth 20000 in
theorem mI_X1_protect : Cond.instanceMethod yX1_protect ∈ gw := gmem 388 (by decide +kernel) rfl
set_option maxRecDepth 20000 in
theorem mE_X1_protect : Cond.selects RX1 yX1_protect yX1_protect ∈ gw := gmem 389 (by decide +kernel) rfl
set_option maxRecDepth 20000 in
theorem mC_X1_protect : Cond.code yX1_protect cX1_protect 3 (some .boolean) ∈ gw := gmem 390 rfl rfl
set_option maxRecDepth 20000 in
theorem mL_L_38 : Cond.methodLink RL 38 yX1_set ∈ gw := gmem 391 (by decide +kernel) rfl
set_option maxRecDepth 20000 in
theorem mI_X1_set : Cond.instanceMethod yX1_set ∈ gw := gmem 392 (by decide +kernel) rfl
set_option maxRecDepth 20000 in
theorem mE_X1_set : Cond.selects RX1 yX1_set yX1_set ∈ gw := gmem 393 (by decide +kernel) rfl
set_option maxRecDepth 20000 in
theorem mC_X1_set : Cond.code yX1_set cX1_set 3 (some .boolean) ∈ gw := gmem 394 rfl rfl
set_option maxRecDepth 20000 in
theorem mL_L_42 : Cond.methodLink RL 42 yX1_register ∈ gw := gmem 395 (by decide +kernel) rfl
set_option maxRecDepth 20000 in
theorem mI_X1_register : Cond.instanceMethod yX1_register ∈ gw := gmem 396 (by decide +kernel) rfl
set_option maxRecDepth 20000 in
theorem mE_X1_register : Cond.selects RX1 yX1_register yX1_register ∈ gw := gmem 397 (by decide +kernel) rfl
set_option maxRecDepth 20000 in
theorem mC_X1_register : Cond.code yX1_register cX1_register 2 (some .int) ∈ gw := gmem 398 rfl rfl
set_option maxRecDepth 20000 in
theorem mL_L_47 : Cond.methodLink RL 47 yX1_jump ∈ gw := gmem 399 (by decide +kernel) rfl
set_option maxRecDepth 20000 in
theorem mI_X1_jump : Cond.instanceMethod yX1_jump ∈ gw := gmem 400 (by decide +kernel) rfl
set_option maxRecDepth 20000 in
theorem mE_X1_jump : Cond.selects RX1 yX1_jump yX1_jump ∈ gw := gmem 401 (by decide +kernel) rfl
set_option maxRecDepth 20000 in
theorem mC_X1_jump : Cond.code yX1_jump cX1_jump 2 none ∈ gw := gmem 402 rfl rfl
set_option maxRecDepth 20000 in
theorem mL_L_52 : Cond.methodLink RL 52 yX1_pc ∈ gw := gmem 403 (by decide +kernel) rfl
set_option maxRecDepth 20000 in
theorem mI_X1_pc : Cond.instanceMethod yX1_pc ∈ gw := gmem 404 (by decide +kernel) rfl
set_option maxRecDepth 20000 in
theorem mE_X1_pc : Cond.selects RX1 yX1_pc yX1_pc ∈ gw := gmem 405 (by decide +kernel) rfl
set_option maxRecDepth 20000 in
theorem mC_X1_pc : Cond.code yX1_pc cX1_pc 1 (some .int) ∈ gw := gmem 406 rfl rfl
set_option maxRecDepth 20000 in
theorem mL_L_58 : Cond.methodLink RL 58 yX1_run ∈ gw := gmem 407 (by decide +kernel) rfl
set_option maxRecDepth 20000 in
theorem mI_X1_run : Cond.instanceMethod yX1_run ∈ gw := gmem 408 (by decide +kernel) rfl
set_option maxRecDepth 20000 in
theorem mE_X1_run : Cond.selects RX1 yX1_run yX1_run ∈ gw := gmem 409 (by decide +kernel) rfl
set_option maxRecDepth 20000 in
theorem mC_X1_run : Cond.code yX1_run cX1_run 4 (some .int) ∈ gw := gmem 410 rfl rfl
set_option maxRecDepth 20000 in
theorem mL_X1_139 : Cond.methodLink RX1 139 yX1_step ∈ gw := gmem 411 (by decide +kernel) rfl
set_option maxRecDepth 20000 in
theorem mI_X1_step : Cond.instanceMethod yX1_step ∈ gw := gmem 413 (by decide +kernel) rfl
set_option maxRecDepth 20000 in
theorem mC_X1_step : Cond.code yX1_step cX1_step 1 (some .boolean) ∈ gw := gmem 414 rfl rfl
set_option maxRecDepth 20000 in
theorem mL_X1_60 : Cond.methodLink RX1 60 yX1_fail ∈ gw := gmem 415 (by decide +kernel) rfl
set_option maxRecDepth 20000 in
theorem mI_X1_fail : Cond.instanceMethod yX1_fail ∈ gw := gmem 417 (by decide +kernel) rfl
set_option maxRecDepth 20000 in
theorem mC_X1_fail : Cond.code yX1_fail cX1_fail 3 none ∈ gw := gmem 418 rfl rfl
set_option maxRecDepth 20000 in
theorem mL_X1_82 : Cond.methodLink RX1 82 yX1_may ∈ gw := gmem 419 (by decide +kernel) rfl
set_option maxRecDepth 20000 in
theorem mI_X1_may : Cond.instanceMethod yX1_may ∈ gw := gmem 421 (by decide +kernel) rfl
set_option maxRecDepth 20000 in
theorem mC_X1_may : Cond.code yX1_may cX1_may 4 (some .boolean) ∈ gw := gmem 422 rfl rfl
set_option maxRecDepth 20000 in
theorem mL_X1_85 : Cond.methodLink RX1 85 yX1_bytes ∈ gw := gmem 423 (by decide +kernel) rfl
set_option maxRecDepth 20000 in
theorem mI_X1_bytes : Cond.instanceMethod yX1_bytes ∈ gw := gmem 425 (by decide +kernel) rfl
set_option maxRecDepth 20000 in
theorem mC_X1_bytes : Cond.code yX1_bytes cX1_bytes 5 (some .int) ∈ gw := gmem 426 rfl rfl
set_option maxRecDepth 20000 in
theorem mL_X1_130 : Cond.methodLink RX1 130 yX1_perform ∈ gw := gmem 427 (by decide +kernel) rfl
set_option maxRecDepth 20000 in
theorem mI_X1_perform : Cond.instanceMethod yX1_perform ∈ gw := gmem 429 (by decide +kernel) rfl
set_option maxRecDepth 20000 in
theorem mC_X1_perform : Cond.code yX1_perform cX1_perform 5 none ∈ gw := gmem 430 rfl rfl
set_option maxRecDepth 20000 in
theorem mL_X1_33 : Cond.methodLink RX1 33 yX1_part ∈ gw := gmem 431 (by decide +kernel) rfl
set_option maxRecDepth 20000 in
theorem mI_X1_part : Cond.instanceMethod yX1_part ∈ gw := gmem 433 (by decide +kernel) rfl
set_option maxRecDepth 20000 in
theorem mC_X1_part : Cond.code yX1_part cX1_part 5 (some .int) ∈ gw := gmem 434 rfl rfl
set_option maxRecDepth 20000 in
theorem mL_X1_103 : Cond.methodLink RX1 103 yX1_u ∈ gw := gmem 435 (by decide +kernel) rfl
set_option maxRecDepth 20000 in
theorem mI_X1_u : Cond.instanceMethod yX1_u ∈ gw := gmem 437 (by decide +kernel) rfl
set_option maxRecDepth 20000 in
theorem mC_X1_u : Cond.code yX1_u cX1_u 1 (some .int) ∈ gw := gmem 438 rfl rfl
set_option maxRecDepth 20000 in
theorem mL_X1_67 : Cond.methodLink RX1 67 yX1_put ∈ gw := gmem 439 (by decide +kernel) rfl
set_option maxRecDepth 20000 in
theorem mI_X1_put : Cond.instanceMethod yX1_put ∈ gw := gmem 441 (by decide +kernel) rfl
set_option maxRecDepth 20000 in
theorem mC_X1_put : Cond.code yX1_put cX1_put 3 none ∈ gw := gmem 442 rfl rfl
set_option maxRecDepth 20000 in
theorem mL_X1_106 : Cond.methodLink RX1 106 yX1_j ∈ gw := gmem 443 (by decide +kernel) rfl
set_option maxRecDepth 20000 in
theorem mI_X1_j : Cond.instanceMethod yX1_j ∈ gw := gmem 445 (by decide +kernel) rfl
set_option maxRecDepth 20000 in
theorem mC_X1_j : Cond.code yX1_j cX1_j 1 (some .int) ∈ gw := gmem 446 rfl rfl
set_option maxRecDepth 20000 in
theorem mL_X1_37 : Cond.methodLink RX1 37 yX1_signed ∈ gw := gmem 447 (by decide +kernel) rfl
set_option maxRecDepth 20000 in
theorem mS_X1_signed : Cond.static yX1_signed ∈ gw := gmem 448 (by decide +kernel) rfl
set_option maxRecDepth 20000 in
theorem mC_X1_signed : Cond.code yX1_signed cX1_signed 2 (some .int) ∈ gw := gmem 449 rfl rfl
set_option maxRecDepth 20000 in
theorem mL_X1_78 : Cond.methodLink RX1 78 yX1_goTo ∈ gw := gmem 450 (by decide +kernel) rfl
set_option maxRecDepth 20000 in
theorem mI_X1_goTo : Cond.instanceMethod yX1_goTo ∈ gw := gmem 452 (by decide +kernel) rfl
set_option maxRecDepth 20000 in
theorem mC_X1_goTo : Cond.code yX1_goTo cX1_goTo 3 none ∈ gw := gmem 453 rfl rfl
set_option maxRecDepth 20000 in
theorem mL_X1_92 : Cond.methodLink RX1 92 yX1_i ∈ gw := gmem 454 (by decide +kernel) rfl
set_option maxRecDepth 20000 in
theorem mI_X1_i : Cond.instanceMethod yX1_i ∈ gw := gmem 456 (by decide +kernel) rfl
set_option maxRecDepth 20000 in
theorem mC_X1_i : Cond.code yX1_i cX1_i 1 (some .int) ∈ gw := gmem 457 rfl rfl
set_option maxRecDepth 20000 in
theorem mL_X1_71 : Cond.methodLink RX1 71 yX1_strange ∈ gw := gmem 458 (by decide +kernel) rfl
set_option maxRecDepth 20000 in
theorem mI_X1_strange : Cond.instanceMethod yX1_strange ∈ gw := gmem 460 (by decide +kernel) rfl
set_option maxRecDepth 20000 in
theorem mC_X1_strange : Cond.code yX1_strange cX1_strange 1 none ∈ gw := gmem 461 rfl rfl
set_option maxRecDepth 20000 in
theorem mL_X1_109 : Cond.methodLink RX1 109 yX1_branch ∈ gw := gmem 462 (by decide +kernel) rfl
set_option maxRecDepth 20000 in
theorem mI_X1_branch : Cond.instanceMethod yX1_branch ∈ gw := gmem 464 (by decide +kernel) rfl
set_option maxRecDepth 20000 in
theorem mC_X1_branch : Cond.code yX1_branch cX1_branch 5 none ∈ gw := gmem 465 rfl rfl
set_option maxRecDepth 20000 in
theorem mL_X1_40 : Cond.methodLink RX1 40 yX1_under ∈ gw := gmem 466 (by decide +kernel) rfl
set_option maxRecDepth 20000 in
theorem mS_X1_under : Cond.static yX1_under ∈ gw := gmem 467 (by decide +kernel) rfl
set_option maxRecDepth 20000 in
theorem mC_X1_under : Cond.code yX1_under cX1_under 6 (some .boolean) ∈ gw := gmem 468 rfl rfl
set_option maxRecDepth 20000 in
theorem mL_X1_74 : Cond.methodLink RX1 74 yX1_b ∈ gw := gmem 469 (by decide +kernel) rfl
set_option maxRecDepth 20000 in
theorem mI_X1_b : Cond.instanceMethod yX1_b ∈ gw := gmem 471 (by decide +kernel) rfl
set_option maxRecDepth 20000 in
theorem mC_X1_b : Cond.code yX1_b cX1_b 1 (some .int) ∈ gw := gmem 472 rfl rfl
set_option maxRecDepth 20000 in
theorem mL_X1_113 : Cond.methodLink RX1 113 yX1_load ∈ gw := gmem 473 (by decide +kernel) rfl
set_option maxRecDepth 20000 in
theorem mI_X1_load : Cond.instanceMethod yX1_load ∈ gw := gmem 475 (by decide +kernel) rfl
set_option maxRecDepth 20000 in
theorem mC_X1_load : Cond.code yX1_load cX1_load 5 none ∈ gw := gmem 476 rfl rfl
set_option maxRecDepth 20000 in
theorem mL_X1_116 : Cond.methodLink RX1 116 yX1_s ∈ gw := gmem 477 (by decide +kernel) rfl
set_option maxRecDepth 20000 in
theorem mI_X1_s : Cond.instanceMethod yX1_s ∈ gw := gmem 479 (by decide +kernel) rfl
set_option maxRecDepth 20000 in
theorem mC_X1_s : Cond.code yX1_s cX1_s 1 (some .int) ∈ gw := gmem 480 rfl rfl
set_option maxRecDepth 20000 in
theorem mL_X1_119 : Cond.methodLink RX1 119 yX1_store ∈ gw := gmem 481 (by decide +kernel) rfl
set_option maxRecDepth 20000 in
theorem mI_X1_store : Cond.instanceMethod yX1_store ∈ gw := gmem 483 (by decide +kernel) rfl
set_option maxRecDepth 20000 in
theorem mC_X1_store : Cond.code yX1_store cX1_store 6 none ∈ gw := gmem 484 rfl rfl
set_option maxRecDepth 20000 in
theorem mL_X1_122 : Cond.methodLink RX1 122 yX1_immediate ∈ gw := gmem 485 (by decide +kernel) rfl
set_option maxRecDepth 20000 in
theorem mI_X1_immediate : Cond.instanceMethod yX1_immediate ∈ gw := gmem 487 (by decide +kernel) rfl
set_option maxRecDepth 20000 in
theorem mC_X1_immediate : Cond.code yX1_immediate cX1_immediate 5 none ∈ gw := gmem 488 rfl rfl
set_option maxRecDepth 20000 in
theorem mL_X1_95 : Cond.methodLink RX1 95 yX1_worked ∈ gw := gmem 489 (by decide +kernel) rfl
set_option maxRecDepth 20000 in
theorem mS_X1_worked : Cond.static yX1_worked ∈ gw := gmem 490 (by decide +kernel) rfl
set_option maxRecDepth 20000 in
theorem mC_X1_worked : Cond.code yX1_worked cX1_worked 4 (some .int) ∈ gw := gmem 491 rfl rfl
set_option maxRecDepth 20000 in
theorem mL_X1_88 : Cond.methodLink RX1 88 yX1_moved ∈ gw := gmem 492 (by decide +kernel) rfl
set_option maxRecDepth 20000 in
theorem mS_X1_moved : Cond.static yX1_moved ∈ gw := gmem 493 (by decide +kernel) rfl
set_option maxRecDepth 20000 in
theorem mC_X1_moved : Cond.code yX1_moved cX1_moved 6 (some .int) ∈ gw := gmem 494 rfl rfl
set_option maxRecDepth 20000 in
theorem mL_X1_125 : Cond.methodLink RX1 125 yX1_both ∈ gw := gmem 495 (by decide +kernel) rfl
set_option maxRecDepth 20000 in
theorem mI_X1_both : Cond.instanceMethod yX1_both ∈ gw := gmem 497 (by decide +kernel) rfl
set_option maxRecDepth 20000 in
theorem mC_X1_both : Cond.code yX1_both cX1_both 5 none ∈ gw := gmem 498 rfl rfl
set_option maxRecDepth 20000 in
theorem mL_X1_99 : Cond.methodLink RX1 99 yX1_multiplied ∈ gw := gmem 499 (by decide +kernel) rfl
set_option maxRecDepth 20000 in
theorem mS_X1_multiplied : Cond.static yX1_multiplied ∈ gw := gmem 500 (by decide +kernel) rfl
set_option maxRecDepth 20000 in
theorem mC_X1_multiplied : Cond.code yX1_multiplied cX1_multiplied 4 (some .int) ∈ gw := gmem 501 rfl rfl
set_option maxRecDepth 20000 in
theorem mL_X1_48 : Cond.methodLink RX1 48 yX1_upper ∈ gw := gmem 502 (by decide +kernel) rfl
set_option maxRecDepth 20000 in
theorem mS_X1_upper : Cond.static yX1_upper ∈ gw := gmem 503 (by decide +kernel) rfl
set_option maxRecDepth 20000 in
theorem mC_X1_upper : Cond.code yX1_upper cX1_upper 6 (some .int) ∈ gw := gmem 504 rfl rfl
set_option maxRecDepth 20000 in
theorem mL_X1_51 : Cond.methodLink RX1 51 yX1_quotient ∈ gw := gmem 505 (by decide +kernel) rfl
set_option maxRecDepth 20000 in
theorem mS_X1_quotient : Cond.static yX1_quotient ∈ gw := gmem 506 (by decide +kernel) rfl
set_option maxRecDepth 20000 in
theorem mC_X1_quotient : Cond.code yX1_quotient cX1_quotient 5 (some .int) ∈ gw := gmem 507 rfl rfl
set_option maxRecDepth 20000 in
theorem mL_X1_44 : Cond.methodLink RX1 44 yX1_divided ∈ gw := gmem 508 (by decide +kernel) rfl
set_option maxRecDepth 20000 in
theorem mS_X1_divided : Cond.static yX1_divided ∈ gw := gmem 509 (by decide +kernel) rfl
set_option maxRecDepth 20000 in
theorem mC_X1_divided : Cond.code yX1_divided cX1_divided 8 (some .int) ∈ gw := gmem 510 rfl rfl
set_option maxRecDepth 20000 in
theorem mK_X1_129 : Cond.constant RX1 129 1048691 ∈ gw := gmem 511 (by decide +kernel) rfl
set_option maxRecDepth 20000 in
theorem mL_L_65 : Cond.methodLink RL 65 yX1_trap ∈ gw := gmem 512 (by decide +kernel) rfl
set_option maxRecDepth 20000 in
theorem mI_X1_trap : Cond.instanceMethod yX1_trap ∈ gw := gmem 513 (by decide +kernel) rfl
set_option maxRecDepth 20000 in
theorem mE_X1_trap : Cond.selects RX1 yX1_trap yX1_trap ∈ gw := gmem 514 (by decide +kernel) rfl
set_option maxRecDepth 20000 in
theorem mC_X1_trap : Cond.code yX1_trap cX1_trap 1 (some .int) ∈ gw := gmem 515 rfl rfl
set_option maxRecDepth 20000 in
theorem mL_L_69 : Cond.methodLink RL 69 yX1_value ∈ gw := gmem 516 (by decide +kernel) rfl
set_option maxRecDepth 20000 in
theorem mI_X1_value : Cond.instanceMethod yX1_value ∈ gw := gmem 517 (by decide +kernel) rfl
set_option maxRecDepth 20000 in
theorem mE_X1_value : Cond.selects RX1 yX1_value yX1_value ∈ gw := gmem 518 (by decide +kernel) rfl
set_option maxRecDepth 20000 in
theorem mC_X1_value : Cond.code yX1_value cX1_value 1 (some .int) ∈ gw := gmem 519 rfl rfl
set_option maxRecDepth 20000 in
theorem mL_L_73 : Cond.methodLink RL 73 yX1_done ∈ gw := gmem 520 (by decide +kernel) rfl
set_option maxRecDepth 20000 in
theorem mI_X1_done : Cond.instanceMethod yX1_done ∈ gw := gmem 521 (by decide +kernel) rfl
set_option maxRecDepth 20000 in
theorem mE_X1_done : Cond.selects RX1 yX1_done yX1_done ∈ gw := gmem 522 (by decide +kernel) rfl
set_option maxRecDepth 20000 in
theorem mC_X1_done : Cond.code yX1_done cX1_done 1 (some .int) ∈ gw := gmem 523 rfl rfl
set_option maxRecDepth 20000 in
theorem mK_L_19 : Cond.constantLong RL 19 4294967295 ∈ gw := gmem 524 (by decide +kernel) rfl
set_option maxRecDepth 20000 in
theorem mA_long : Cond.arrayClass .long ∈ gw := gmem 525 (by decide +kernel) rfl
set_option maxRecDepth 20000 in
theorem mE_X0_putBytes : Cond.selects RX0 yX0_putBytes yX0_putBytes ∈ gw := gmem 0 (by decide +kernel) rfl
set_option maxRecDepth 20000 in
theorem mE_X0_bytesFrom : Cond.selects RX0 yX0_bytesFrom yX0_bytesFrom ∈ gw := gmem 1 (by decide +kernel) rfl
set_option maxRecDepth 20000 in
theorem mE_X0_putRegister : Cond.selects RX0 yX0_putRegister yX0_putRegister ∈ gw := gmem 2 (by decide +kernel) rfl
set_option maxRecDepth 20000 in
theorem mE_X0_makeStep : Cond.selects RX0 yX0_makeStep yX0_makeStep ∈ gw := gmem 4 (by decide +kernel) rfl
set_option maxRecDepth 20000 in
theorem mE_X0_trapWith : Cond.selects RX0 yX0_trapWith yX0_trapWith ∈ gw := gmem 5 (by decide +kernel) rfl
set_option maxRecDepth 20000 in
theorem mE_X0_hasRight : Cond.selects RX0 yX0_hasRight yX0_hasRight ∈ gw := gmem 6 (by decide +kernel) rfl
set_option maxRecDepth 20000 in
theorem mE_X0_execute : Cond.selects RX0 yX0_execute yX0_execute ∈ gw := gmem 7 (by decide +kernel) rfl
set_option maxRecDepth 20000 in
theorem mE_X0_finish : Cond.selects RX0 yX0_finish yX0_finish ∈ gw := gmem 8 (by decide +kernel) rfl
set_option maxRecDepth 20000 in
theorem mE_X0_linkAndGo : Cond.selects RX0 yX0_linkAndGo yX0_linkAndGo ∈ gw := gmem 9 (by decide +kernel) rfl
set_option maxRecDepth 20000 in
theorem mE_X0_goToRegister : Cond.selects RX0 yX0_goToRegister yX0_goToRegister ∈ gw := gmem 10 (by decide +kernel) rfl
set_option maxRecDepth 20000 in
theorem mE_X0_refuse : Cond.selects RX0 yX0_refuse yX0_refuse ∈ gw := gmem 11 (by decide +kernel) rfl
set_option maxRecDepth 20000 in
theorem mE_X0_registerA : Cond.selects RX0 yX0_registerA yX0_registerA ∈ gw := gmem 12 (by decide +kernel) rfl
set_option maxRecDepth 20000 in
theorem mE_X0_branch : Cond.selects RX0 yX0_branch yX0_branch ∈ gw := gmem 13 (by decide +kernel) rfl
set_option maxRecDepth 20000 in
theorem mE_X0_registerB : Cond.selects RX0 yX0_registerB yX0_registerB ∈ gw := gmem 14 (by decide +kernel) rfl
set_option maxRecDepth 20000 in
theorem mE_X0_load : Cond.selects RX0 yX0_load yX0_load ∈ gw := gmem 15 (by decide +kernel) rfl
set_option maxRecDepth 20000 in
theorem mE_X0_store : Cond.selects RX0 yX0_store yX0_store ∈ gw := gmem 16 (by decide +kernel) rfl
set_option maxRecDepth 20000 in
theorem mE_X0_computeWithImmediate : Cond.selects RX0 yX0_computeWithImmediate yX0_computeWithImmediate ∈ gw := gmem 17 (by decide +kernel) rfl
set_option maxRecDepth 20000 in
theorem mE_X0_computeWithRegisters : Cond.selects RX0 yX0_computeWithRegisters yX0_computeWithRegisters ∈ gw := gmem 18 (by decide +kernel) rfl
set_option maxRecDepth 20000 in
theorem mE_X0_fence : Cond.selects RX0 yX0_fence yX0_fence ∈ gw := gmem 19 (by decide +kernel) rfl
set_option maxRecDepth 20000 in
theorem mE_X0_callOrBreak : Cond.selects RX0 yX0_callOrBreak yX0_callOrBreak ∈ gw := gmem 20 (by decide +kernel) rfl
set_option maxRecDepth 20000 in
theorem mE_X1_step : Cond.selects RX1 yX1_step yX1_step ∈ gw := gmem 21 (by decide +kernel) rfl
set_option maxRecDepth 20000 in
theorem mE_X1_fail : Cond.selects RX1 yX1_fail yX1_fail ∈ gw := gmem 22 (by decide +kernel) rfl
set_option maxRecDepth 20000 in
theorem mE_X1_may : Cond.selects RX1 yX1_may yX1_may ∈ gw := gmem 23 (by decide +kernel) rfl
set_option maxRecDepth 20000 in
theorem mE_X1_bytes : Cond.selects RX1 yX1_bytes yX1_bytes ∈ gw := gmem 24 (by decide +kernel) rfl
set_option maxRecDepth 20000 in
theorem mE_X1_perform : Cond.selects RX1 yX1_perform yX1_perform ∈ gw := gmem 25 (by decide +kernel) rfl
set_option maxRecDepth 20000 in
theorem mE_X1_part : Cond.selects RX1 yX1_part yX1_part ∈ gw := gmem 26 (by decide +kernel) rfl
set_option maxRecDepth 20000 in
theorem mE_X1_u : Cond.selects RX1 yX1_u yX1_u ∈ gw := gmem 27 (by decide +kernel) rfl
set_option maxRecDepth 20000 in
theorem mE_X1_put : Cond.selects RX1 yX1_put yX1_put ∈ gw := gmem 28 (by decide +kernel) rfl
set_option maxRecDepth 20000 in
theorem mE_X1_j : Cond.selects RX1 yX1_j yX1_j ∈ gw := gmem 29 (by decide +kernel) rfl
set_option maxRecDepth 20000 in
theorem mE_X1_goTo : Cond.selects RX1 yX1_goTo yX1_goTo ∈ gw := gmem 30 (by decide +kernel) rfl
set_option maxRecDepth 20000 in
theorem mE_X1_i : Cond.selects RX1 yX1_i yX1_i ∈ gw := gmem 31 (by decide +kernel) rfl
set_option maxRecDepth 20000 in
theorem mE_X1_strange : Cond.selects RX1 yX1_strange yX1_strange ∈ gw := gmem 32 (by decide +kernel) rfl
set_option maxRecDepth 20000 in
theorem mE_X1_branch : Cond.selects RX1 yX1_branch yX1_branch ∈ gw := gmem 33 (by decide +kernel) rfl
set_option maxRecDepth 20000 in
theorem mE_X1_b : Cond.selects RX1 yX1_b yX1_b ∈ gw := gmem 34 (by decide +kernel) rfl
set_option maxRecDepth 20000 in
theorem mE_X1_load : Cond.selects RX1 yX1_load yX1_load ∈ gw := gmem 35 (by decide +kernel) rfl
set_option maxRecDepth 20000 in
theorem mE_X1_s : Cond.selects RX1 yX1_s yX1_s ∈ gw := gmem 36 (by decide +kernel) rfl
set_option maxRecDepth 20000 in
theorem mE_X1_store : Cond.selects RX1 yX1_store yX1_store ∈ gw := gmem 37 (by decide +kernel) rfl
set_option maxRecDepth 20000 in
theorem mE_X1_immediate : Cond.selects RX1 yX1_immediate yX1_immediate ∈ gw := gmem 38 (by decide +kernel) rfl
set_option maxRecDepth 20000 in
theorem mE_X1_both : Cond.selects RX1 yX1_both yX1_both ∈ gw := gmem 39 (by decide +kernel) rfl
set_option maxRecDepth 20000 in
theorem mN_X0 : Cond.initialized RX0 ∈ gw := gmem 41 (by decide +kernel) rfl
set_option maxRecDepth 20000 in
theorem mN_X1 : Cond.initialized RX1 ∈ gw := gmem 42 (by decide +kernel) rfl
set_option maxRecDepth 20000 in
theorem mN_L : Cond.initialized RL ∈ gw := gmem 40 (by decide +kernel) rfl
set_option maxRecDepth 20000 in
theorem mI_objectInit : Cond.instanceMethod objectInit ∈ gw := gmem 53 (by decide +kernel) rfl
set_option maxRecDepth 20000 in
theorem mC_objectInit : Cond.code objectInit object_method_1_code 1 none ∈ gw := gmem 54 rfl rfl
