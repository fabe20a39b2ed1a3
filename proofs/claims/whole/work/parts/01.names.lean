def R_ct : String := "TrapHart$Context"
def T_ct : u_T := fun k => match k with
  | 0 => ("TrapHart$Context", "sources", "LTrapHart$Sources;", true)
  | 1 => ("TrapHart$Context", "server", "I", true)
  | 2 => ("TrapHart$Context", "enabledSet", "I", false)
  | _ => ("TrapHart$Context", "threshold", "I", false)
def t_ct : Nat → FieldType := fun k => match k with
  | 0 => .object "TrapHart$Sources"
  | 1 => .int
  | 2 => .int
  | _ => .int
theorem nm_ct : ∀ a, a < 4 → ∀ b, b < 4 → a ≠ b → (T_ct a).2.1 ≠ (T_ct b).2.1 := by decide +kernel
theorem tk_ct : ∀ k, k < 4 → parseFieldDescriptor (T_ct k).2.2.1 = some (t_ct k) := by decide +kernel
def R_dv : String := "TrapHart$Devices"
def T_dv : u_T := fun k => match k with
  | 0 => ("TrapHart$Devices", "sources", "LTrapHart$Sources;", true)
  | 1 => ("TrapHart$Devices", "machine", "LTrapHart$Context;", true)
  | 2 => ("TrapHart$Devices", "supervisor", "LTrapHart$Context;", true)
  | _ => ("TrapHart$Devices", "timer", "LTrapHart$Timer;", true)
def t_dv : Nat → FieldType := fun k => match k with
  | 0 => .object "TrapHart$Sources"
  | 1 => .object "TrapHart$Context"
  | 2 => .object "TrapHart$Context"
  | _ => .object "TrapHart$Timer"
theorem nm_dv : ∀ a, a < 4 → ∀ b, b < 4 → a ≠ b → (T_dv a).2.1 ≠ (T_dv b).2.1 := by decide +kernel
theorem tk_dv : ∀ k, k < 4 → parseFieldDescriptor (T_dv k).2.2.1 = some (t_dv k) := by decide +kernel
def R_hd : String := "TrapHart$Handler"
def T_hd : u_T := fun k => match k with
  | 0 => ("TrapHart$Handler", "vector", "I", false)
  | 1 => ("TrapHart$Handler", "comeBack", "I", false)
  | _ => ("TrapHart$Handler", "cause", "I", false)
def t_hd : Nat → FieldType := fun k => match k with
  | 0 => .int
  | 1 => .int
  | _ => .int
theorem nm_hd : ∀ a, a < 3 → ∀ b, b < 3 → a ≠ b → (T_hd a).2.1 ≠ (T_hd b).2.1 := by decide +kernel
theorem tk_hd : ∀ k, k < 3 → parseFieldDescriptor (T_hd k).2.2.1 = some (t_hd k) := by decide +kernel
def R_rg : String := "TrapHart$Registers"
def T_rg : u_T := fun k => match k with
  | 0 => ("TrapHart$Registers", "devices", "LTrapHart$Devices;", true)
  | 1 => ("TrapHart$Registers", "status", "LTrapHart$Status;", true)
  | 2 => ("TrapHart$Registers", "machine", "LTrapHart$Handler;", true)
  | 3 => ("TrapHart$Registers", "supervisor", "LTrapHart$Handler;", true)
  | 4 => ("TrapHart$Registers", "delegatedExceptions", "I", false)
  | 5 => ("TrapHart$Registers", "delegatedInterrupts", "I", false)
  | 6 => ("TrapHart$Registers", "enabled", "I", false)
  | _ => ("TrapHart$Registers", "written", "I", false)
def t_rg : Nat → FieldType := fun k => match k with
  | 0 => .object "TrapHart$Devices"
  | 1 => .object "TrapHart$Status"
  | 2 => .object "TrapHart$Handler"
  | 3 => .object "TrapHart$Handler"
  | 4 => .int
  | 5 => .int
  | 6 => .int
  | _ => .int
theorem nm_rg : ∀ a, a < 8 → ∀ b, b < 8 → a ≠ b → (T_rg a).2.1 ≠ (T_rg b).2.1 := by decide +kernel
theorem tk_rg : ∀ k, k < 8 → parseFieldDescriptor (T_rg k).2.2.1 = some (t_rg k) := by decide +kernel
def R_so : String := "TrapHart$Sources"
def T_so : u_T := fun k => match k with
  | 0 => ("TrapHart$Sources", "edges", "I", true)
  | 1 => ("TrapHart$Sources", "priority", "[I", true)
  | 2 => ("TrapHart$Sources", "waiting", "[I", true)
  | 3 => ("TrapHart$Sources", "server", "[I", true)
  | 4 => ("TrapHart$Sources", "high", "I", false)
  | _ => ("TrapHart$Sources", "pending", "I", false)
def t_so : Nat → FieldType := fun k => match k with
  | 0 => .int
  | 1 => .array .int
  | 2 => .array .int
  | 3 => .array .int
  | 4 => .int
  | _ => .int
theorem nm_so : ∀ a, a < 6 → ∀ b, b < 6 → a ≠ b → (T_so a).2.1 ≠ (T_so b).2.1 := by decide +kernel
theorem tk_so : ∀ k, k < 6 → parseFieldDescriptor (T_so k).2.2.1 = some (t_so k) := by decide +kernel
def R_st : String := "TrapHart$Status"
def T_st : u_T := fun k => match k with
  | _ => ("TrapHart$Status", "bits", "I", false)
def t_st : Nat → FieldType := fun k => match k with
  | _ => .int
theorem nm_st : ∀ a, a < 1 → ∀ b, b < 1 → a ≠ b → (T_st a).2.1 ≠ (T_st b).2.1 := by decide +kernel
theorem tk_st : ∀ k, k < 1 → parseFieldDescriptor (T_st k).2.2.1 = some (t_st k) := by decide +kernel
def R_tm : String := "TrapHart$Timer"
def T_tm : u_T := fun k => match k with
  | 0 => ("TrapHart$Timer", "time", "J", false)
  | 1 => ("TrapHart$Timer", "compare", "J", false)
  | _ => ("TrapHart$Timer", "soft", "I", false)
def t_tm : Nat → FieldType := fun k => match k with
  | 0 => .long
  | 1 => .long
  | _ => .int
theorem nm_tm : ∀ a, a < 3 → ∀ b, b < 3 → a ≠ b → (T_tm a).2.1 ≠ (T_tm b).2.1 := by decide +kernel
theorem tk_tm : ∀ k, k < 3 → parseFieldDescriptor (T_tm k).2.2.1 = some (t_tm k) := by decide +kernel
def R_th : String := "TrapHart"
def T_th : u_T := fun k => match k with
  | 0 => ("TrapHart", "devices", "LTrapHart$Devices;", true)
  | 1 => ("TrapHart", "registers", "LTrapHart$Registers;", true)
  | 2 => ("TrapHart", "mode", "I", false)
  | _ => ("TrapHart", "counter", "I", false)
def t_th : Nat → FieldType := fun k => match k with
  | 0 => .object "TrapHart$Devices"
  | 1 => .object "TrapHart$Registers"
  | 2 => .int
  | _ => .int
theorem nm_th : ∀ a, a < 4 → ∀ b, b < 4 → a ≠ b → (T_th a).2.1 ≠ (T_th b).2.1 := by decide +kernel
theorem tk_th : ∀ k, k < 4 → parseFieldDescriptor (T_th k).2.2.1 = some (t_th k) := by decide +kernel
def R_mo : String := "TrapHartModel"
def T_mo : u_T := fun k => match k with
  | 0 => ("TrapHartModel", "thrown", "I", false)
  | 1 => ("TrapHartModel", "privilege", "I", false)
  | 2 => ("TrapHartModel", "pc", "I", false)
  | 3 => ("TrapHartModel", "edges", "[Z", false)
  | 4 => ("TrapHartModel", "line", "[Z", false)
  | 5 => ("TrapHartModel", "priority", "[I", false)
  | 6 => ("TrapHartModel", "pending", "[Z", false)
  | 7 => ("TrapHartModel", "served", "[I", false)
  | 8 => ("TrapHartModel", "waiting", "[I", false)
  | 9 => ("TrapHartModel", "enabled", "[I", false)
  | 10 => ("TrapHartModel", "threshold", "[I", false)
  | 11 => ("TrapHartModel", "time", "J", false)
  | 12 => ("TrapHartModel", "compare", "J", false)
  | 13 => ("TrapHartModel", "soft", "I", false)
  | 14 => ("TrapHartModel", "status", "I", false)
  | 15 => ("TrapHartModel", "givenExceptions", "I", false)
  | 16 => ("TrapHartModel", "givenInterrupts", "I", false)
  | 17 => ("TrapHartModel", "wanted", "I", false)
  | 18 => ("TrapHartModel", "written", "I", false)
  | 19 => ("TrapHartModel", "vector", "[I", false)
  | 20 => ("TrapHartModel", "back", "[I", false)
  | _ => ("TrapHartModel", "cause", "[I", false)
def t_mo : Nat → FieldType := fun k => match k with
  | 0 => .int
  | 1 => .int
  | 2 => .int
  | 3 => .array .boolean
  | 4 => .array .boolean
  | 5 => .array .int
  | 6 => .array .boolean
  | 7 => .array .int
  | 8 => .array .int
  | 9 => .array .int
  | 10 => .array .int
  | 11 => .long
  | 12 => .long
  | 13 => .int
  | 14 => .int
  | 15 => .int
  | 16 => .int
  | 17 => .int
  | 18 => .int
  | 19 => .array .int
  | 20 => .array .int
  | _ => .array .int
theorem nm_mo : ∀ a, a < 22 → ∀ b, b < 22 → a ≠ b → (T_mo a).2.1 ≠ (T_mo b).2.1 := by decide +kernel
theorem tk_mo : ∀ k, k < 22 → parseFieldDescriptor (T_mo k).2.2.1 = some (t_mo k) := by decide +kernel
def R_la : String := "TrapHartLaw"
abbrev b_th_init : ByteArray := prog_1_method_1_code
def y_th_init : MethodName := ⟨"TrapHart", "<init>", "(I)V"⟩
abbrev b_th_lines : ByteArray := prog_1_method_2_code
def y_th_lines : MethodName := ⟨"TrapHart", "lines", "(I)I"⟩
abbrev b_th_ticks : ByteArray := prog_1_method_3_code
def y_th_ticks : MethodName := ⟨"TrapHart", "ticks", "(I)V"⟩
abbrev b_th_load : ByteArray := prog_1_method_4_code
def y_th_load : MethodName := ⟨"TrapHart", "load", "(I)I"⟩
abbrev b_th_store : ByteArray := prog_1_method_5_code
def y_th_store : MethodName := ⟨"TrapHart", "store", "(II)V"⟩
abbrev b_th_access : ByteArray := prog_1_method_6_code
def y_th_access : MethodName := ⟨"TrapHart", "access", "(IZI)J"⟩
abbrev b_th_read : ByteArray := prog_1_method_7_code
def y_th_read : MethodName := ⟨"TrapHart", "read", "(I)I"⟩
abbrev b_th_write : ByteArray := prog_1_method_8_code
def y_th_write : MethodName := ⟨"TrapHart", "write", "(II)V"⟩
abbrev b_th_step : ByteArray := prog_1_method_9_code
def y_th_step : MethodName := ⟨"TrapHart", "step", "()I"⟩
abbrev b_th_raise : ByteArray := prog_1_method_10_code
def y_th_raise : MethodName := ⟨"TrapHart", "raise", "(I)I"⟩
abbrev b_th_leave : ByteArray := prog_1_method_11_code
def y_th_leave : MethodName := ⟨"TrapHart", "leave", "(Z)I"⟩
abbrev b_th_privilege : ByteArray := prog_1_method_12_code
def y_th_privilege : MethodName := ⟨"TrapHart", "privilege", "()I"⟩
abbrev b_th_pc : ByteArray := prog_1_method_13_code
def y_th_pc : MethodName := ⟨"TrapHart", "pc", "()I"⟩
abbrev b_th_due : ByteArray := prog_1_method_14_code
def y_th_due : MethodName := ⟨"TrapHart", "due", "()I"⟩
abbrev b_th_source : ByteArray := prog_1_method_15_code
def y_th_source : MethodName := ⟨"TrapHart", "source", "(I)I"⟩
abbrev b_th_refuseWrongOrAbsent : ByteArray := prog_1_method_16_code
def y_th_refuseWrongOrAbsent : MethodName := ⟨"TrapHart", "refuseWrongOrAbsent", "(I)V"⟩
abbrev b_th_refuseRegister : ByteArray := prog_1_method_17_code
def y_th_refuseRegister : MethodName := ⟨"TrapHart", "refuseRegister", "(I)V"⟩
abbrev b_th_causeOf : ByteArray := prog_1_method_18_code
def y_th_causeOf : MethodName := ⟨"TrapHart", "causeOf", "(IZ)I"⟩
abbrev b_th_interruptToTake : ByteArray := prog_1_method_19_code
def y_th_interruptToTake : MethodName := ⟨"TrapHart", "interruptToTake", "()I"⟩
abbrev b_th_enterTrap : ByteArray := prog_1_method_20_code
def y_th_enterTrap : MethodName := ⟨"TrapHart", "enterTrap", "(IZ)V"⟩
abbrev b_th_hasBit : ByteArray := prog_1_method_21_code
def y_th_hasBit : MethodName := ⟨"TrapHart", "hasBit", "(II)Z"⟩
abbrev b_th_replaceBits : ByteArray := prog_1_method_22_code
def y_th_replaceBits : MethodName := ⟨"TrapHart", "replaceBits", "(III)I"⟩
abbrev b_mo_init : ByteArray := prog_10_method_1_code
def y_mo_init : MethodName := ⟨"TrapHartModel", "<init>", "(I)V"⟩
abbrev b_mo_thrown : ByteArray := prog_10_method_2_code
def y_mo_thrown : MethodName := ⟨"TrapHartModel", "thrown", "()I"⟩
abbrev b_mo_forward : ByteArray := prog_10_method_3_code
def y_mo_forward : MethodName := ⟨"TrapHartModel", "forward", "()V"⟩
abbrev b_mo_pendingSet : ByteArray := prog_10_method_4_code
def y_mo_pendingSet : MethodName := ⟨"TrapHartModel", "pendingSet", "()I"⟩
abbrev b_mo_lines : ByteArray := prog_10_method_5_code
def y_mo_lines : MethodName := ⟨"TrapHartModel", "lines", "(I)I"⟩
abbrev b_mo_isEnabled : ByteArray := prog_10_method_6_code
def y_mo_isEnabled : MethodName := ⟨"TrapHartModel", "isEnabled", "(II)Z"⟩
abbrev b_mo_claim : ByteArray := prog_10_method_7_code
def y_mo_claim : MethodName := ⟨"TrapHartModel", "claim", "(I)I"⟩
abbrev b_mo_complete : ByteArray := prog_10_method_8_code
def y_mo_complete : MethodName := ⟨"TrapHartModel", "complete", "(II)V"⟩
abbrev b_mo_calls : ByteArray := prog_10_method_9_code
def y_mo_calls : MethodName := ⟨"TrapHartModel", "calls", "(I)Z"⟩
abbrev b_mo_ticks : ByteArray := prog_10_method_10_code
def y_mo_ticks : MethodName := ⟨"TrapHartModel", "ticks", "(I)V"⟩
abbrev b_mo_wordAt : ByteArray := prog_10_method_11_code
def y_mo_wordAt : MethodName := ⟨"TrapHartModel", "wordAt", "(I)I"⟩
abbrev b_mo_contextAt : ByteArray := prog_10_method_12_code
def y_mo_contextAt : MethodName := ⟨"TrapHartModel", "contextAt", "(I)I"⟩
abbrev b_mo_bar : ByteArray := prog_10_method_13_code
def y_mo_bar : MethodName := ⟨"TrapHartModel", "bar", "(IZ)I"⟩
abbrev b_mo_take : ByteArray := prog_10_method_14_code
def y_mo_take : MethodName := ⟨"TrapHartModel", "take", "(I)I"⟩
abbrev b_mo_half : ByteArray := prog_10_method_15_code
def y_mo_half : MethodName := ⟨"TrapHartModel", "half", "(JIZ)J"⟩
abbrev b_mo_put : ByteArray := prog_10_method_16_code
def y_mo_put : MethodName := ⟨"TrapHartModel", "put", "(II)V"⟩
abbrev b_mo_load : ByteArray := prog_10_method_17_code
def y_mo_load : MethodName := ⟨"TrapHartModel", "load", "(I)I"⟩
abbrev b_mo_store : ByteArray := prog_10_method_18_code
def y_mo_store : MethodName := ⟨"TrapHartModel", "store", "(II)V"⟩
abbrev b_mo_access : ByteArray := prog_10_method_19_code
def y_mo_access : MethodName := ⟨"TrapHartModel", "access", "(IZI)J"⟩
abbrev b_mo_late : ByteArray := prog_10_method_20_code
def y_mo_late : MethodName := ⟨"TrapHartModel", "late", "()Z"⟩
abbrev b_mo_interrupts : ByteArray := prog_10_method_21_code
def y_mo_interrupts : MethodName := ⟨"TrapHartModel", "interrupts", "()I"⟩
abbrev b_mo_isRegister : ByteArray := prog_10_method_22_code
def y_mo_isRegister : MethodName := ⟨"TrapHartModel", "isRegister", "(I)Z"⟩
abbrev b_mo_barRegister : ByteArray := prog_10_method_23_code
def y_mo_barRegister : MethodName := ⟨"TrapHartModel", "barRegister", "(I)I"⟩
abbrev b_mo_read : ByteArray := prog_10_method_24_code
def y_mo_read : MethodName := ⟨"TrapHartModel", "read", "(I)I"⟩
abbrev b_mo_mixed : ByteArray := prog_10_method_25_code
def y_mo_mixed : MethodName := ⟨"TrapHartModel", "mixed", "(III)I"⟩
abbrev b_mo_write : ByteArray := prog_10_method_26_code
def y_mo_write : MethodName := ⟨"TrapHartModel", "write", "(II)V"⟩
abbrev b_mo_bit : ByteArray := prog_10_method_27_code
def y_mo_bit : MethodName := ⟨"TrapHartModel", "bit", "(I)Z"⟩
abbrev b_mo_setBit : ByteArray := prog_10_method_28_code
def y_mo_setBit : MethodName := ⟨"TrapHartModel", "setBit", "(IZ)V"⟩
abbrev b_mo_trap : ByteArray := prog_10_method_29_code
def y_mo_trap : MethodName := ⟨"TrapHartModel", "trap", "(IZ)V"⟩
abbrev b_mo_order : ByteArray := prog_10_method_30_code
def y_mo_order : MethodName := ⟨"TrapHartModel", "order", "(I)I"⟩
abbrev b_mo_dueNow : ByteArray := prog_10_method_31_code
def y_mo_dueNow : MethodName := ⟨"TrapHartModel", "dueNow", "()I"⟩
abbrev b_mo_due : ByteArray := prog_10_method_32_code
def y_mo_due : MethodName := ⟨"TrapHartModel", "due", "()I"⟩
abbrev b_mo_step : ByteArray := prog_10_method_33_code
def y_mo_step : MethodName := ⟨"TrapHartModel", "step", "()I"⟩
abbrev b_mo_raise : ByteArray := prog_10_method_34_code
def y_mo_raise : MethodName := ⟨"TrapHartModel", "raise", "(I)I"⟩
abbrev b_mo_leave : ByteArray := prog_10_method_35_code
def y_mo_leave : MethodName := ⟨"TrapHartModel", "leave", "(Z)I"⟩
abbrev b_mo_privilege : ByteArray := prog_10_method_36_code
def y_mo_privilege : MethodName := ⟨"TrapHartModel", "privilege", "()I"⟩
abbrev b_mo_pc : ByteArray := prog_10_method_37_code
def y_mo_pc : MethodName := ⟨"TrapHartModel", "pc", "()I"⟩
abbrev b_mo_source : ByteArray := prog_10_method_38_code
def y_mo_source : MethodName := ⟨"TrapHartModel", "source", "(I)I"⟩
abbrev b_ct_init : ByteArray := prog_2_method_1_code
def y_ct_init : MethodName := ⟨"TrapHart$Context", "<init>", "(LTrapHart$Sources;I)V"⟩
abbrev b_ct_claim : ByteArray := prog_2_method_2_code
def y_ct_claim : MethodName := ⟨"TrapHart$Context", "claim", "()I"⟩
abbrev b_ct_complete : ByteArray := prog_2_method_3_code
def y_ct_complete : MethodName := ⟨"TrapHart$Context", "complete", "(I)V"⟩
abbrev b_ct_isCalling : ByteArray := prog_2_method_4_code
def y_ct_isCalling : MethodName := ⟨"TrapHart$Context", "isCalling", "()Z"⟩
abbrev b_dv_init : ByteArray := prog_3_method_1_code
def y_dv_init : MethodName := ⟨"TrapHart$Devices", "<init>", "(I)V"⟩
abbrev b_dv_faultAt : ByteArray := prog_3_method_2_code
def y_dv_faultAt : MethodName := ⟨"TrapHart$Devices", "faultAt", "(IZ)I"⟩
abbrev b_dv_isWord : ByteArray := prog_3_method_3_code
def y_dv_isWord : MethodName := ⟨"TrapHart$Devices", "isWord", "(I)Z"⟩
abbrev b_dv_isPriority : ByteArray := prog_3_method_4_code
def y_dv_isPriority : MethodName := ⟨"TrapHart$Devices", "isPriority", "(I)Z"⟩
abbrev b_dv_readWord : ByteArray := prog_3_method_5_code
def y_dv_readWord : MethodName := ⟨"TrapHart$Devices", "readWord", "(I)I"⟩
abbrev b_dv_writeWord : ByteArray := prog_3_method_6_code
def y_dv_writeWord : MethodName := ⟨"TrapHart$Devices", "writeWord", "(II)V"⟩
abbrev b_dv_interrupts : ByteArray := prog_3_method_7_code
def y_dv_interrupts : MethodName := ⟨"TrapHart$Devices", "interrupts", "()I"⟩
abbrev b_hd_init : ByteArray := prog_4_method_1_code
def y_hd_init : MethodName := ⟨"TrapHart$Handler", "<init>", "()V"⟩
abbrev b_hd_take : ByteArray := prog_4_method_2_code
def y_hd_take : MethodName := ⟨"TrapHart$Handler", "take", "(IIZ)I"⟩
abbrev b_rg_init : ByteArray := prog_5_method_1_code
def y_rg_init : MethodName := ⟨"TrapHart$Registers", "<init>", "(LTrapHart$Devices;)V"⟩
abbrev b_rg_isThere : ByteArray := prog_5_method_2_code
def y_rg_isThere : MethodName := ⟨"TrapHart$Registers", "isThere", "(I)Z"⟩
abbrev b_rg_isOfMachine : ByteArray := prog_5_method_3_code
def y_rg_isOfMachine : MethodName := ⟨"TrapHart$Registers", "isOfMachine", "(I)Z"⟩
abbrev b_rg_firstInterrupt : ByteArray := prog_5_method_4_code
def y_rg_firstInterrupt : MethodName := ⟨"TrapHart$Registers", "firstInterrupt", "(I)I"⟩
abbrev b_rg_isDelegated : ByteArray := prog_5_method_5_code
def y_rg_isDelegated : MethodName := ⟨"TrapHart$Registers", "isDelegated", "(IZ)Z"⟩
abbrev b_rg_pendingInterrupts : ByteArray := prog_5_method_6_code
def y_rg_pendingInterrupts : MethodName := ⟨"TrapHart$Registers", "pendingInterrupts", "()I"⟩
abbrev b_rg_valueOf : ByteArray := prog_5_method_7_code
def y_rg_valueOf : MethodName := ⟨"TrapHart$Registers", "valueOf", "(I)I"⟩
abbrev b_rg_change : ByteArray := prog_5_method_8_code
def y_rg_change : MethodName := ⟨"TrapHart$Registers", "change", "(II)V"⟩
abbrev b_rg_changeOfMachine : ByteArray := prog_5_method_9_code
def y_rg_changeOfMachine : MethodName := ⟨"TrapHart$Registers", "changeOfMachine", "(II)V"⟩
abbrev b_rg_changeOfSupervisor : ByteArray := prog_5_method_10_code
def y_rg_changeOfSupervisor : MethodName := ⟨"TrapHart$Registers", "changeOfSupervisor", "(II)V"⟩
abbrev b_so_init : ByteArray := prog_6_method_1_code
def y_so_init : MethodName := ⟨"TrapHart$Sources", "<init>", "(I)V"⟩
abbrev b_so_drive : ByteArray := prog_6_method_2_code
def y_so_drive : MethodName := ⟨"TrapHart$Sources", "drive", "(I)V"⟩
abbrev b_so_forward : ByteArray := prog_6_method_3_code
def y_so_forward : MethodName := ⟨"TrapHart$Sources", "forward", "(I)V"⟩
abbrev b_so_best : ByteArray := prog_6_method_4_code
def y_so_best : MethodName := ⟨"TrapHart$Sources", "best", "(II)I"⟩
abbrev b_so_serve : ByteArray := prog_6_method_5_code
def y_so_serve : MethodName := ⟨"TrapHart$Sources", "serve", "(II)V"⟩
abbrev b_so_release : ByteArray := prog_6_method_6_code
def y_so_release : MethodName := ⟨"TrapHart$Sources", "release", "(I)V"⟩
abbrev b_st_init : ByteArray := prog_7_method_1_code
def y_st_init : MethodName := ⟨"TrapHart$Status", "<init>", "()V"⟩
abbrev b_st_machineOpen : ByteArray := prog_7_method_2_code
def y_st_machineOpen : MethodName := ⟨"TrapHart$Status", "machineOpen", "()Z"⟩
abbrev b_st_supervisorOpen : ByteArray := prog_7_method_3_code
def y_st_supervisorOpen : MethodName := ⟨"TrapHart$Status", "supervisorOpen", "()Z"⟩
abbrev b_st_changeByMachine : ByteArray := prog_7_method_4_code
def y_st_changeByMachine : MethodName := ⟨"TrapHart$Status", "changeByMachine", "(I)V"⟩
abbrev b_st_changeBySupervisor : ByteArray := prog_7_method_5_code
def y_st_changeBySupervisor : MethodName := ⟨"TrapHart$Status", "changeBySupervisor", "(I)V"⟩
abbrev b_st_enterMachine : ByteArray := prog_7_method_6_code
def y_st_enterMachine : MethodName := ⟨"TrapHart$Status", "enterMachine", "(I)V"⟩
abbrev b_st_enterSupervisor : ByteArray := prog_7_method_7_code
def y_st_enterSupervisor : MethodName := ⟨"TrapHart$Status", "enterSupervisor", "(I)V"⟩
abbrev b_st_leaveMachine : ByteArray := prog_7_method_8_code
def y_st_leaveMachine : MethodName := ⟨"TrapHart$Status", "leaveMachine", "()I"⟩
abbrev b_st_leaveSupervisor : ByteArray := prog_7_method_9_code
def y_st_leaveSupervisor : MethodName := ⟨"TrapHart$Status", "leaveSupervisor", "()I"⟩
abbrev b_tm_init : ByteArray := prog_8_method_1_code
def y_tm_init : MethodName := ⟨"TrapHart$Timer", "<init>", "()V"⟩
abbrev b_tm_isReached : ByteArray := prog_8_method_2_code
def y_tm_isReached : MethodName := ⟨"TrapHart$Timer", "isReached", "()Z"⟩
abbrev b_tm_withLower : ByteArray := prog_8_method_3_code
def y_tm_withLower : MethodName := ⟨"TrapHart$Timer", "withLower", "(JI)J"⟩
abbrev b_tm_withHigher : ByteArray := prog_8_method_4_code
def y_tm_withHigher : MethodName := ⟨"TrapHart$Timer", "withHigher", "(JI)J"⟩
abbrev b_la_cell : ByteArray := method_2_code
def y_la_cell : MethodName := ⟨"TrapHartLaw", "cell", "([II)I"⟩
abbrev b_la_ticks : ByteArray := method_3_code
def y_la_ticks : MethodName := ⟨"TrapHartLaw", "ticks", "(LTrapHart;I)I"⟩
abbrev b_la_load : ByteArray := method_4_code
def y_la_load : MethodName := ⟨"TrapHartLaw", "load", "(LTrapHart;I[J)I"⟩
abbrev b_la_store : ByteArray := method_5_code
def y_la_store : MethodName := ⟨"TrapHartLaw", "store", "(LTrapHart;II)I"⟩
abbrev b_la_read : ByteArray := method_6_code
def y_la_read : MethodName := ⟨"TrapHartLaw", "read", "(LTrapHart;I[J)I"⟩
abbrev b_la_write : ByteArray := method_7_code
def y_la_write : MethodName := ⟨"TrapHartLaw", "write", "(LTrapHart;II)I"⟩
abbrev b_la_raise : ByteArray := method_8_code
def y_la_raise : MethodName := ⟨"TrapHartLaw", "raise", "(LTrapHart;I[J)I"⟩
abbrev b_la_leave : ByteArray := method_9_code
def y_la_leave : MethodName := ⟨"TrapHartLaw", "leave", "(LTrapHart;Z[J)I"⟩
abbrev b_la_source : ByteArray := method_10_code
def y_la_source : MethodName := ⟨"TrapHartLaw", "source", "(LTrapHart;I[J)I"⟩
abbrev b_la_law : ByteArray := code
def y_la_law : MethodName := ⟨"TrapHartLaw", "law", "([I)Z"⟩
theorem m_0 : Jvm.Cond.initialized "TrapHartLaw" ∈ uW := uW_t (i := 0) (by decide +kernel) (by decide +kernel)
theorem m_1 : Jvm.Cond.initialized "TrapHart" ∈ uW := uW_t (i := 1) (by decide +kernel) (by decide +kernel)
theorem m_2 : Jvm.Cond.initialized "TrapHart$Devices" ∈ uW := uW_t (i := 2) (by decide +kernel) (by decide +kernel)
theorem m_3 : Jvm.Cond.initialized "TrapHart$Sources" ∈ uW := uW_t (i := 3) (by decide +kernel) (by decide +kernel)
theorem m_4 : Jvm.Cond.initialized "TrapHart$Context" ∈ uW := uW_t (i := 4) (by decide +kernel) (by decide +kernel)
theorem m_5 : Jvm.Cond.initialized "TrapHart$Timer" ∈ uW := uW_t (i := 5) (by decide +kernel) (by decide +kernel)
theorem m_6 : Jvm.Cond.initialized "TrapHart$Registers" ∈ uW := uW_t (i := 6) (by decide +kernel) (by decide +kernel)
theorem m_7 : Jvm.Cond.initialized "TrapHart$Status" ∈ uW := uW_t (i := 7) (by decide +kernel) (by decide +kernel)
theorem m_8 : Jvm.Cond.initialized "TrapHart$Handler" ∈ uW := uW_t (i := 8) (by decide +kernel) (by decide +kernel)
theorem m_9 : Jvm.Cond.initialized "TrapHartModel" ∈ uW := uW_t (i := 9) (by decide +kernel) (by decide +kernel)
theorem m_10 : Jvm.Cond.initialized "java/lang/Throwable" ∈ uW := uW_t (i := 10) (by decide +kernel) (by decide +kernel)
theorem m_11 : Jvm.Cond.initialized "java/lang/Exception" ∈ uW := uW_t (i := 11) (by decide +kernel) (by decide +kernel)
theorem m_12 : Jvm.Cond.initialized "java/lang/RuntimeException" ∈ uW := uW_t (i := 12) (by decide +kernel) (by decide +kernel)
theorem m_13 : Jvm.Cond.initialized "java/lang/IllegalArgumentException" ∈ uW := uW_t (i := 13) (by decide +kernel) (by decide +kernel)
theorem m_14 : Jvm.Cond.initialized "java/lang/IndexOutOfBoundsException" ∈ uW := uW_t (i := 14) (by decide +kernel) (by decide +kernel)
theorem m_15 : Jvm.Cond.initialized "java/lang/UnsupportedOperationException" ∈ uW := uW_t (i := 15) (by decide +kernel) (by decide +kernel)
theorem m_16 : Jvm.Cond.initialized "java/util/NoSuchElementException" ∈ uW := uW_t (i := 16) (by decide +kernel) (by decide +kernel)
theorem m_17 : Jvm.Cond.initialized "java/lang/IllegalStateException" ∈ uW := uW_t (i := 17) (by decide +kernel) (by decide +kernel)
theorem m_18 : Jvm.Cond.classLink "TrapHartLaw" 8 "TrapHart" ∈ uW := uW_t (i := 18) (by decide +kernel) (by decide +kernel)
theorem m_19 : Jvm.Cond.instantiable "TrapHart" 4 ∈ uW := uW_t (i := 19) (by decide +kernel) (by decide +kernel)
theorem m_20 : Jvm.Cond.methodLink "TrapHartLaw" 53 y_th_init ∈ uW := uW_t (i := 20) (by decide +kernel) (by decide +kernel)
theorem m_21 : Jvm.Cond.instanceMethod y_th_init ∈ uW := uW_t (i := 21) (by decide +kernel) (by decide +kernel)
theorem m_22 : Jvm.Cond.code y_th_init prog_1_method_1_code 2 (Option.none : Option Jvm.ClassFile.FieldType) ∈ uW := uW_t (i := 22) (by decide +kernel) (by decide +kernel)
theorem m_23 : Jvm.Cond.methodLink "TrapHart" 1 objectInit ∈ uW := uW_t (i := 23) (by decide +kernel) (by decide +kernel)
theorem m_24 : Jvm.Cond.instanceMethod objectInit ∈ uW := uW_t (i := 24) (by decide +kernel) (by decide +kernel)
theorem m_25 : Jvm.Cond.code objectInit object_method_1_code 1 (Option.none : Option Jvm.ClassFile.FieldType) ∈ uW := uW_t (i := 25) (by decide +kernel) (by decide +kernel)
theorem m_26 : Jvm.Cond.classLink "TrapHart" 7 "TrapHart$Devices" ∈ uW := uW_t (i := 26) (by decide +kernel) (by decide +kernel)
theorem m_27 : Jvm.Cond.instantiable "TrapHart$Devices" 4 ∈ uW := uW_t (i := 27) (by decide +kernel) (by decide +kernel)
theorem m_29 : Jvm.Cond.instanceMethod y_dv_init ∈ uW := uW_t (i := 29) (by decide +kernel) (by decide +kernel)
theorem m_30 : Jvm.Cond.code y_dv_init prog_3_method_1_code 2 (Option.none : Option Jvm.ClassFile.FieldType) ∈ uW := uW_t (i := 30) (by decide +kernel) (by decide +kernel)
theorem m_31 : Jvm.Cond.methodLink "TrapHart$Devices" 1 objectInit ∈ uW := uW_t (i := 31) (by decide +kernel) (by decide +kernel)
theorem m_32 : Jvm.Cond.classLink "TrapHart$Devices" 7 "TrapHart$Sources" ∈ uW := uW_t (i := 32) (by decide +kernel) (by decide +kernel)
theorem m_33 : Jvm.Cond.instantiable "TrapHart$Sources" 6 ∈ uW := uW_t (i := 33) (by decide +kernel) (by decide +kernel)
theorem m_35 : Jvm.Cond.instanceMethod y_so_init ∈ uW := uW_t (i := 35) (by decide +kernel) (by decide +kernel)
theorem m_36 : Jvm.Cond.code y_so_init prog_6_method_1_code 2 (Option.none : Option Jvm.ClassFile.FieldType) ∈ uW := uW_t (i := 36) (by decide +kernel) (by decide +kernel)
theorem m_37 : Jvm.Cond.methodLink "TrapHart$Sources" 1 objectInit ∈ uW := uW_t (i := 37) (by decide +kernel) (by decide +kernel)
theorem m_38 : Jvm.Cond.constant "TrapHart$Sources" 19 (65534 : Int32) ∈ uW := uW_t (i := 38) (by decide +kernel) (by decide +kernel)
theorem m_39 : Jvm.Cond.fieldLink "TrapHart$Sources" 20 "TrapHart$Sources" "edges" "I" ∈ uW := uW_t (i := 39) (by decide +kernel) (by decide +kernel)
theorem m_40 : Jvm.Cond.fieldLink "TrapHart$Sources" 9 "TrapHart$Sources" "priority" "[I" ∈ uW := uW_t (i := 40) (by decide +kernel) (by decide +kernel)
theorem m_42 : Jvm.Cond.fieldLink "TrapHart$Sources" 13 "TrapHart$Sources" "waiting" "[I" ∈ uW := uW_t (i := 42) (by decide +kernel) (by decide +kernel)
theorem m_44 : Jvm.Cond.fieldLink "TrapHart$Sources" 16 "TrapHart$Sources" "server" "[I" ∈ uW := uW_t (i := 44) (by decide +kernel) (by decide +kernel)
theorem m_46 : Jvm.Cond.fieldLink "TrapHart$Sources" 24 "TrapHart$Sources" "high" "I" ∈ uW := uW_t (i := 46) (by decide +kernel) (by decide +kernel)
theorem m_48 : Jvm.Cond.fieldLink "TrapHart$Sources" 37 "TrapHart$Sources" "pending" "I" ∈ uW := uW_t (i := 48) (by decide +kernel) (by decide +kernel)
theorem m_50 : Jvm.Cond.laysFinal "TrapHart$Sources" "TrapHart$Sources" "edges" "I" ∈ uW := uW_t (i := 50) (by decide +kernel) (by decide +kernel)
theorem m_52 : Jvm.Cond.laysFinal "TrapHart$Sources" "TrapHart$Sources" "priority" "[I" ∈ uW := uW_t (i := 52) (by decide +kernel) (by decide +kernel)
theorem m_54 : Jvm.Cond.laysFinal "TrapHart$Sources" "TrapHart$Sources" "waiting" "[I" ∈ uW := uW_t (i := 54) (by decide +kernel) (by decide +kernel)
theorem m_56 : Jvm.Cond.laysFinal "TrapHart$Sources" "TrapHart$Sources" "server" "[I" ∈ uW := uW_t (i := 56) (by decide +kernel) (by decide +kernel)
theorem m_58 : Jvm.Cond.lays "TrapHart$Sources" "TrapHart$Sources" "high" "I" ∈ uW := uW_t (i := 58) (by decide +kernel) (by decide +kernel)
theorem m_60 : Jvm.Cond.lays "TrapHart$Sources" "TrapHart$Sources" "pending" "I" ∈ uW := uW_t (i := 60) (by decide +kernel) (by decide +kernel)
theorem m_63 : Jvm.Cond.arrayClass Jvm.ClassFile.FieldType.int ∈ uW := uW_t (i := 63) (by decide +kernel) (by decide +kernel)
theorem m_64 : Jvm.Cond.classLink "TrapHart$Devices" 18 "TrapHart$Context" ∈ uW := uW_t (i := 64) (by decide +kernel) (by decide +kernel)
theorem m_65 : Jvm.Cond.instantiable "TrapHart$Context" 4 ∈ uW := uW_t (i := 65) (by decide +kernel) (by decide +kernel)
theorem m_67 : Jvm.Cond.instanceMethod y_ct_init ∈ uW := uW_t (i := 67) (by decide +kernel) (by decide +kernel)
theorem m_68 : Jvm.Cond.code y_ct_init prog_2_method_1_code 3 (Option.none : Option Jvm.ClassFile.FieldType) ∈ uW := uW_t (i := 68) (by decide +kernel) (by decide +kernel)
theorem m_69 : Jvm.Cond.methodLink "TrapHart$Context" 1 objectInit ∈ uW := uW_t (i := 69) (by decide +kernel) (by decide +kernel)
theorem m_70 : Jvm.Cond.fieldLink "TrapHart$Context" 7 "TrapHart$Context" "sources" "LTrapHart$Sources;" ∈ uW := uW_t (i := 70) (by decide +kernel) (by decide +kernel)
theorem m_71 : Jvm.Cond.fieldLink "TrapHart$Context" 13 "TrapHart$Context" "server" "I" ∈ uW := uW_t (i := 71) (by decide +kernel) (by decide +kernel)
theorem m_72 : Jvm.Cond.fieldLink "TrapHart$Context" 17 "TrapHart$Context" "enabledSet" "I" ∈ uW := uW_t (i := 72) (by decide +kernel) (by decide +kernel)
theorem m_74 : Jvm.Cond.fieldLink "TrapHart$Context" 40 "TrapHart$Context" "threshold" "I" ∈ uW := uW_t (i := 74) (by decide +kernel) (by decide +kernel)
theorem m_76 : Jvm.Cond.laysFinal "TrapHart$Context" "TrapHart$Context" "sources" "LTrapHart$Sources;" ∈ uW := uW_t (i := 76) (by decide +kernel) (by decide +kernel)
theorem m_78 : Jvm.Cond.laysFinal "TrapHart$Context" "TrapHart$Context" "server" "I" ∈ uW := uW_t (i := 78) (by decide +kernel) (by decide +kernel)
theorem m_80 : Jvm.Cond.lays "TrapHart$Context" "TrapHart$Context" "enabledSet" "I" ∈ uW := uW_t (i := 80) (by decide +kernel) (by decide +kernel)
theorem m_82 : Jvm.Cond.lays "TrapHart$Context" "TrapHart$Context" "threshold" "I" ∈ uW := uW_t (i := 82) (by decide +kernel) (by decide +kernel)
theorem m_85 : Jvm.Cond.classLink "TrapHart$Devices" 30 "TrapHart$Timer" ∈ uW := uW_t (i := 85) (by decide +kernel) (by decide +kernel)
theorem m_86 : Jvm.Cond.instantiable "TrapHart$Timer" 3 ∈ uW := uW_t (i := 86) (by decide +kernel) (by decide +kernel)
theorem m_88 : Jvm.Cond.instanceMethod y_tm_init ∈ uW := uW_t (i := 88) (by decide +kernel) (by decide +kernel)
theorem m_89 : Jvm.Cond.code y_tm_init prog_8_method_1_code 1 (Option.none : Option Jvm.ClassFile.FieldType) ∈ uW := uW_t (i := 89) (by decide +kernel) (by decide +kernel)
theorem m_90 : Jvm.Cond.methodLink "TrapHart$Timer" 1 objectInit ∈ uW := uW_t (i := 90) (by decide +kernel) (by decide +kernel)
theorem m_91 : Jvm.Cond.constantLong "TrapHart$Timer" 13 (-1 : Int64) ∈ uW := uW_t (i := 91) (by decide +kernel) (by decide +kernel)
theorem m_92 : Jvm.Cond.fieldLink "TrapHart$Timer" 7 "TrapHart$Timer" "time" "J" ∈ uW := uW_t (i := 92) (by decide +kernel) (by decide +kernel)
theorem m_95 : Jvm.Cond.fieldLink "TrapHart$Timer" 15 "TrapHart$Timer" "compare" "J" ∈ uW := uW_t (i := 95) (by decide +kernel) (by decide +kernel)
theorem m_97 : Jvm.Cond.fieldLink "TrapHart$Timer" 18 "TrapHart$Timer" "soft" "I" ∈ uW := uW_t (i := 97) (by decide +kernel) (by decide +kernel)
theorem m_99 : Jvm.Cond.lays "TrapHart$Timer" "TrapHart$Timer" "time" "J" ∈ uW := uW_t (i := 99) (by decide +kernel) (by decide +kernel)
theorem m_101 : Jvm.Cond.lays "TrapHart$Timer" "TrapHart$Timer" "compare" "J" ∈ uW := uW_t (i := 101) (by decide +kernel) (by decide +kernel)
theorem m_103 : Jvm.Cond.lays "TrapHart$Timer" "TrapHart$Timer" "soft" "I" ∈ uW := uW_t (i := 103) (by decide +kernel) (by decide +kernel)
theorem m_106 : Jvm.Cond.fieldLink "TrapHart$Devices" 12 "TrapHart$Devices" "sources" "LTrapHart$Sources;" ∈ uW := uW_t (i := 106) (by decide +kernel) (by decide +kernel)
theorem m_108 : Jvm.Cond.fieldLink "TrapHart$Devices" 23 "TrapHart$Devices" "machine" "LTrapHart$Context;" ∈ uW := uW_t (i := 108) (by decide +kernel) (by decide +kernel)
theorem m_109 : Jvm.Cond.fieldLink "TrapHart$Devices" 27 "TrapHart$Devices" "supervisor" "LTrapHart$Context;" ∈ uW := uW_t (i := 109) (by decide +kernel) (by decide +kernel)
theorem m_110 : Jvm.Cond.fieldLink "TrapHart$Devices" 33 "TrapHart$Devices" "timer" "LTrapHart$Timer;" ∈ uW := uW_t (i := 110) (by decide +kernel) (by decide +kernel)
theorem m_112 : Jvm.Cond.laysFinal "TrapHart$Devices" "TrapHart$Devices" "sources" "LTrapHart$Sources;" ∈ uW := uW_t (i := 112) (by decide +kernel) (by decide +kernel)
theorem m_114 : Jvm.Cond.laysFinal "TrapHart$Devices" "TrapHart$Devices" "machine" "LTrapHart$Context;" ∈ uW := uW_t (i := 114) (by decide +kernel) (by decide +kernel)
theorem m_116 : Jvm.Cond.laysFinal "TrapHart$Devices" "TrapHart$Devices" "supervisor" "LTrapHart$Context;" ∈ uW := uW_t (i := 116) (by decide +kernel) (by decide +kernel)
theorem m_118 : Jvm.Cond.laysFinal "TrapHart$Devices" "TrapHart$Devices" "timer" "LTrapHart$Timer;" ∈ uW := uW_t (i := 118) (by decide +kernel) (by decide +kernel)
theorem m_121 : Jvm.Cond.classLink "TrapHart" 18 "TrapHart$Registers" ∈ uW := uW_t (i := 121) (by decide +kernel) (by decide +kernel)
theorem m_122 : Jvm.Cond.instantiable "TrapHart$Registers" 8 ∈ uW := uW_t (i := 122) (by decide +kernel) (by decide +kernel)
theorem m_124 : Jvm.Cond.instanceMethod y_rg_init ∈ uW := uW_t (i := 124) (by decide +kernel) (by decide +kernel)
theorem m_125 : Jvm.Cond.code y_rg_init prog_5_method_1_code 2 (Option.none : Option Jvm.ClassFile.FieldType) ∈ uW := uW_t (i := 125) (by decide +kernel) (by decide +kernel)
theorem m_126 : Jvm.Cond.methodLink "TrapHart$Registers" 3 objectInit ∈ uW := uW_t (i := 126) (by decide +kernel) (by decide +kernel)
theorem m_127 : Jvm.Cond.classLink "TrapHart$Registers" 9 "TrapHart$Status" ∈ uW := uW_t (i := 127) (by decide +kernel) (by decide +kernel)
theorem m_128 : Jvm.Cond.instantiable "TrapHart$Status" 1 ∈ uW := uW_t (i := 128) (by decide +kernel) (by decide +kernel)
theorem m_130 : Jvm.Cond.instanceMethod y_st_init ∈ uW := uW_t (i := 130) (by decide +kernel) (by decide +kernel)
theorem m_131 : Jvm.Cond.code y_st_init prog_7_method_1_code 1 (Option.none : Option Jvm.ClassFile.FieldType) ∈ uW := uW_t (i := 131) (by decide +kernel) (by decide +kernel)
theorem m_132 : Jvm.Cond.methodLink "TrapHart$Status" 3 objectInit ∈ uW := uW_t (i := 132) (by decide +kernel) (by decide +kernel)
theorem m_133 : Jvm.Cond.fieldLink "TrapHart$Status" 9 "TrapHart$Status" "bits" "I" ∈ uW := uW_t (i := 133) (by decide +kernel) (by decide +kernel)
theorem m_135 : Jvm.Cond.lays "TrapHart$Status" "TrapHart$Status" "bits" "I" ∈ uW := uW_t (i := 135) (by decide +kernel) (by decide +kernel)
theorem m_138 : Jvm.Cond.classLink "TrapHart$Registers" 18 "TrapHart$Handler" ∈ uW := uW_t (i := 138) (by decide +kernel) (by decide +kernel)
theorem m_139 : Jvm.Cond.instantiable "TrapHart$Handler" 3 ∈ uW := uW_t (i := 139) (by decide +kernel) (by decide +kernel)
theorem m_141 : Jvm.Cond.instanceMethod y_hd_init ∈ uW := uW_t (i := 141) (by decide +kernel) (by decide +kernel)
theorem m_142 : Jvm.Cond.code y_hd_init prog_4_method_1_code 1 (Option.none : Option Jvm.ClassFile.FieldType) ∈ uW := uW_t (i := 142) (by decide +kernel) (by decide +kernel)
theorem m_143 : Jvm.Cond.methodLink "TrapHart$Handler" 1 objectInit ∈ uW := uW_t (i := 143) (by decide +kernel) (by decide +kernel)
theorem m_144 : Jvm.Cond.fieldLink "TrapHart$Handler" 17 "TrapHart$Handler" "vector" "I" ∈ uW := uW_t (i := 144) (by decide +kernel) (by decide +kernel)
theorem m_146 : Jvm.Cond.fieldLink "TrapHart$Handler" 9 "TrapHart$Handler" "comeBack" "I" ∈ uW := uW_t (i := 146) (by decide +kernel) (by decide +kernel)
theorem m_149 : Jvm.Cond.fieldLink "TrapHart$Handler" 14 "TrapHart$Handler" "cause" "I" ∈ uW := uW_t (i := 149) (by decide +kernel) (by decide +kernel)
theorem m_151 : Jvm.Cond.lays "TrapHart$Handler" "TrapHart$Handler" "vector" "I" ∈ uW := uW_t (i := 151) (by decide +kernel) (by decide +kernel)
theorem m_153 : Jvm.Cond.lays "TrapHart$Handler" "TrapHart$Handler" "comeBack" "I" ∈ uW := uW_t (i := 153) (by decide +kernel) (by decide +kernel)
theorem m_155 : Jvm.Cond.lays "TrapHart$Handler" "TrapHart$Handler" "cause" "I" ∈ uW := uW_t (i := 155) (by decide +kernel) (by decide +kernel)
theorem m_158 : Jvm.Cond.fieldLink "TrapHart$Registers" 28 "TrapHart$Registers" "devices" "LTrapHart$Devices;" ∈ uW := uW_t (i := 158) (by decide +kernel) (by decide +kernel)
theorem m_159 : Jvm.Cond.fieldLink "TrapHart$Registers" 12 "TrapHart$Registers" "status" "LTrapHart$Status;" ∈ uW := uW_t (i := 159) (by decide +kernel) (by decide +kernel)
theorem m_161 : Jvm.Cond.fieldLink "TrapHart$Registers" 21 "TrapHart$Registers" "machine" "LTrapHart$Handler;" ∈ uW := uW_t (i := 161) (by decide +kernel) (by decide +kernel)
theorem m_163 : Jvm.Cond.fieldLink "TrapHart$Registers" 25 "TrapHart$Registers" "supervisor" "LTrapHart$Handler;" ∈ uW := uW_t (i := 163) (by decide +kernel) (by decide +kernel)
theorem m_165 : Jvm.Cond.fieldLink "TrapHart$Registers" 44 "TrapHart$Registers" "delegatedExceptions" "I" ∈ uW := uW_t (i := 165) (by decide +kernel) (by decide +kernel)
theorem m_166 : Jvm.Cond.fieldLink "TrapHart$Registers" 40 "TrapHart$Registers" "delegatedInterrupts" "I" ∈ uW := uW_t (i := 166) (by decide +kernel) (by decide +kernel)
theorem m_168 : Jvm.Cond.fieldLink "TrapHart$Registers" 59 "TrapHart$Registers" "enabled" "I" ∈ uW := uW_t (i := 168) (by decide +kernel) (by decide +kernel)
theorem m_170 : Jvm.Cond.fieldLink "TrapHart$Registers" 47 "TrapHart$Registers" "written" "I" ∈ uW := uW_t (i := 170) (by decide +kernel) (by decide +kernel)
theorem m_171 : Jvm.Cond.laysFinal "TrapHart$Registers" "TrapHart$Registers" "devices" "LTrapHart$Devices;" ∈ uW := uW_t (i := 171) (by decide +kernel) (by decide +kernel)
theorem m_173 : Jvm.Cond.laysFinal "TrapHart$Registers" "TrapHart$Registers" "status" "LTrapHart$Status;" ∈ uW := uW_t (i := 173) (by decide +kernel) (by decide +kernel)
theorem m_175 : Jvm.Cond.laysFinal "TrapHart$Registers" "TrapHart$Registers" "machine" "LTrapHart$Handler;" ∈ uW := uW_t (i := 175) (by decide +kernel) (by decide +kernel)
theorem m_177 : Jvm.Cond.laysFinal "TrapHart$Registers" "TrapHart$Registers" "supervisor" "LTrapHart$Handler;" ∈ uW := uW_t (i := 177) (by decide +kernel) (by decide +kernel)
theorem m_179 : Jvm.Cond.lays "TrapHart$Registers" "TrapHart$Registers" "delegatedExceptions" "I" ∈ uW := uW_t (i := 179) (by decide +kernel) (by decide +kernel)
theorem m_181 : Jvm.Cond.lays "TrapHart$Registers" "TrapHart$Registers" "delegatedInterrupts" "I" ∈ uW := uW_t (i := 181) (by decide +kernel) (by decide +kernel)
theorem m_183 : Jvm.Cond.lays "TrapHart$Registers" "TrapHart$Registers" "enabled" "I" ∈ uW := uW_t (i := 183) (by decide +kernel) (by decide +kernel)
theorem m_185 : Jvm.Cond.lays "TrapHart$Registers" "TrapHart$Registers" "written" "I" ∈ uW := uW_t (i := 185) (by decide +kernel) (by decide +kernel)
theorem m_188 : Jvm.Cond.fieldLink "TrapHart" 12 "TrapHart" "devices" "LTrapHart$Devices;" ∈ uW := uW_t (i := 188) (by decide +kernel) (by decide +kernel)
theorem m_189 : Jvm.Cond.fieldLink "TrapHart" 23 "TrapHart" "registers" "LTrapHart$Registers;" ∈ uW := uW_t (i := 189) (by decide +kernel) (by decide +kernel)
theorem m_190 : Jvm.Cond.fieldLink "TrapHart" 27 "TrapHart" "mode" "I" ∈ uW := uW_t (i := 190) (by decide +kernel) (by decide +kernel)
theorem m_191 : Jvm.Cond.fieldLink "TrapHart" 31 "TrapHart" "counter" "I" ∈ uW := uW_t (i := 191) (by decide +kernel) (by decide +kernel)
theorem m_192 : Jvm.Cond.laysFinal "TrapHart" "TrapHart" "devices" "LTrapHart$Devices;" ∈ uW := uW_t (i := 192) (by decide +kernel) (by decide +kernel)
theorem m_194 : Jvm.Cond.laysFinal "TrapHart" "TrapHart" "registers" "LTrapHart$Registers;" ∈ uW := uW_t (i := 194) (by decide +kernel) (by decide +kernel)
theorem m_196 : Jvm.Cond.lays "TrapHart" "TrapHart" "mode" "I" ∈ uW := uW_t (i := 196) (by decide +kernel) (by decide +kernel)
theorem m_198 : Jvm.Cond.lays "TrapHart" "TrapHart" "counter" "I" ∈ uW := uW_t (i := 198) (by decide +kernel) (by decide +kernel)
theorem m_201 : Jvm.Cond.methodLink "TrapHartLaw" 58 y_th_lines ∈ uW := uW_t (i := 201) (by decide +kernel) (by decide +kernel)
theorem m_202 : Jvm.Cond.instanceMethod y_th_lines ∈ uW := uW_t (i := 202) (by decide +kernel) (by decide +kernel)
theorem m_203 : Jvm.Cond.selects "TrapHart" y_th_lines y_th_lines ∈ uW := uW_t (i := 203) (by decide +kernel) (by decide +kernel)
theorem m_204 : Jvm.Cond.code y_th_lines prog_1_method_2_code 2 (Option.some Jvm.ClassFile.FieldType.int) ∈ uW := uW_t (i := 204) (by decide +kernel) (by decide +kernel)
theorem m_207 : Jvm.Cond.instanceMethod y_so_drive ∈ uW := uW_t (i := 207) (by decide +kernel) (by decide +kernel)
theorem m_208 : Jvm.Cond.code y_so_drive prog_6_method_2_code 4 (Option.none : Option Jvm.ClassFile.FieldType) ∈ uW := uW_t (i := 208) (by decide +kernel) (by decide +kernel)
theorem m_210 : Jvm.Cond.static y_th_hasBit ∈ uW := uW_t (i := 210) (by decide +kernel) (by decide +kernel)
theorem m_211 : Jvm.Cond.code y_th_hasBit prog_1_method_21_code 2 (Option.some Jvm.ClassFile.FieldType.boolean) ∈ uW := uW_t (i := 211) (by decide +kernel) (by decide +kernel)
theorem m_212 : Jvm.Cond.methodLink "TrapHart$Sources" 33 y_so_forward ∈ uW := uW_t (i := 212) (by decide +kernel) (by decide +kernel)
theorem m_214 : Jvm.Cond.instanceMethod y_so_forward ∈ uW := uW_t (i := 214) (by decide +kernel) (by decide +kernel)
theorem m_215 : Jvm.Cond.code y_so_forward prog_6_method_3_code 2 (Option.none : Option Jvm.ClassFile.FieldType) ∈ uW := uW_t (i := 215) (by decide +kernel) (by decide +kernel)
theorem m_216 : Jvm.Cond.methodLink "TrapHartLaw" 78 y_th_access ∈ uW := uW_t (i := 216) (by decide +kernel) (by decide +kernel)
theorem m_217 : Jvm.Cond.instanceMethod y_th_access ∈ uW := uW_t (i := 217) (by decide +kernel) (by decide +kernel)
theorem m_218 : Jvm.Cond.selects "TrapHart" y_th_access y_th_access ∈ uW := uW_t (i := 218) (by decide +kernel) (by decide +kernel)
theorem m_219 : Jvm.Cond.code y_th_access prog_1_method_6_code 7 (Option.some Jvm.ClassFile.FieldType.long) ∈ uW := uW_t (i := 219) (by decide +kernel) (by decide +kernel)
theorem m_221 : Jvm.Cond.static y_dv_faultAt ∈ uW := uW_t (i := 221) (by decide +kernel) (by decide +kernel)
theorem m_222 : Jvm.Cond.code y_dv_faultAt prog_3_method_2_code 2 (Option.some Jvm.ClassFile.FieldType.int) ∈ uW := uW_t (i := 222) (by decide +kernel) (by decide +kernel)
theorem m_223 : Jvm.Cond.methodLink "TrapHart$Devices" 37 y_dv_isWord ∈ uW := uW_t (i := 223) (by decide +kernel) (by decide +kernel)
theorem m_224 : Jvm.Cond.static y_dv_isWord ∈ uW := uW_t (i := 224) (by decide +kernel) (by decide +kernel)
theorem m_225 : Jvm.Cond.code y_dv_isWord prog_3_method_3_code 1 (Option.some Jvm.ClassFile.FieldType.boolean) ∈ uW := uW_t (i := 225) (by decide +kernel) (by decide +kernel)
theorem m_226 : Jvm.Cond.methodLink "TrapHart$Devices" 41 y_dv_isPriority ∈ uW := uW_t (i := 226) (by decide +kernel) (by decide +kernel)
theorem m_227 : Jvm.Cond.static y_dv_isPriority ∈ uW := uW_t (i := 227) (by decide +kernel) (by decide +kernel)
theorem m_228 : Jvm.Cond.code y_dv_isPriority prog_3_method_4_code 1 (Option.some Jvm.ClassFile.FieldType.boolean) ∈ uW := uW_t (i := 228) (by decide +kernel) (by decide +kernel)
theorem m_229 : Jvm.Cond.methodLink "TrapHart" 83 y_th_causeOf ∈ uW := uW_t (i := 229) (by decide +kernel) (by decide +kernel)
theorem m_230 : Jvm.Cond.static y_th_causeOf ∈ uW := uW_t (i := 230) (by decide +kernel) (by decide +kernel)
theorem m_231 : Jvm.Cond.code y_th_causeOf prog_1_method_18_code 2 (Option.some Jvm.ClassFile.FieldType.int) ∈ uW := uW_t (i := 231) (by decide +kernel) (by decide +kernel)
theorem m_232 : Jvm.Cond.methodLink "TrapHart" 86 y_th_enterTrap ∈ uW := uW_t (i := 232) (by decide +kernel) (by decide +kernel)
theorem m_234 : Jvm.Cond.instanceMethod y_th_enterTrap ∈ uW := uW_t (i := 234) (by decide +kernel) (by decide +kernel)
theorem m_235 : Jvm.Cond.code y_th_enterTrap prog_1_method_20_code 4 (Option.none : Option Jvm.ClassFile.FieldType) ∈ uW := uW_t (i := 235) (by decide +kernel) (by decide +kernel)
theorem m_238 : Jvm.Cond.instanceMethod y_rg_isDelegated ∈ uW := uW_t (i := 238) (by decide +kernel) (by decide +kernel)
theorem m_239 : Jvm.Cond.code y_rg_isDelegated prog_5_method_5_code 3 (Option.some Jvm.ClassFile.FieldType.boolean) ∈ uW := uW_t (i := 239) (by decide +kernel) (by decide +kernel)
theorem m_243 : Jvm.Cond.instanceMethod y_st_enterSupervisor ∈ uW := uW_t (i := 243) (by decide +kernel) (by decide +kernel)
theorem m_244 : Jvm.Cond.code y_st_enterSupervisor prog_7_method_7_code 3 (Option.none : Option Jvm.ClassFile.FieldType) ∈ uW := uW_t (i := 244) (by decide +kernel) (by decide +kernel)
theorem m_246 : Jvm.Cond.static y_th_replaceBits ∈ uW := uW_t (i := 246) (by decide +kernel) (by decide +kernel)
theorem m_247 : Jvm.Cond.code y_th_replaceBits prog_1_method_22_code 3 (Option.some Jvm.ClassFile.FieldType.int) ∈ uW := uW_t (i := 247) (by decide +kernel) (by decide +kernel)
theorem m_250 : Jvm.Cond.instanceMethod y_st_enterMachine ∈ uW := uW_t (i := 250) (by decide +kernel) (by decide +kernel)
theorem m_251 : Jvm.Cond.code y_st_enterMachine prog_7_method_6_code 3 (Option.none : Option Jvm.ClassFile.FieldType) ∈ uW := uW_t (i := 251) (by decide +kernel) (by decide +kernel)
theorem m_254 : Jvm.Cond.instanceMethod y_hd_take ∈ uW := uW_t (i := 254) (by decide +kernel) (by decide +kernel)
theorem m_255 : Jvm.Cond.code y_hd_take prog_4_method_2_code 5 (Option.some Jvm.ClassFile.FieldType.int) ∈ uW := uW_t (i := 255) (by decide +kernel) (by decide +kernel)
theorem m_256 : Jvm.Cond.constant "TrapHart$Handler" 13 (-2147483648 : Int32) ∈ uW := uW_t (i := 256) (by decide +kernel) (by decide +kernel)
theorem m_257 : Jvm.Cond.constantLong "TrapHart" 90 (-1 : Int64) ∈ uW := uW_t (i := 257) (by decide +kernel) (by decide +kernel)
theorem m_260 : Jvm.Cond.instanceMethod y_dv_writeWord ∈ uW := uW_t (i := 260) (by decide +kernel) (by decide +kernel)
theorem m_261 : Jvm.Cond.code y_dv_writeWord prog_3_method_6_code 3 (Option.none : Option Jvm.ClassFile.FieldType) ∈ uW := uW_t (i := 261) (by decide +kernel) (by decide +kernel)
theorem m_262 : Jvm.Cond.constant "TrapHart$Devices" 72 (65534 : Int32) ∈ uW := uW_t (i := 262) (by decide +kernel) (by decide +kernel)
theorem m_265 : Jvm.Cond.instanceMethod y_ct_complete ∈ uW := uW_t (i := 265) (by decide +kernel) (by decide +kernel)
theorem m_266 : Jvm.Cond.code y_ct_complete prog_2_method_3_code 2 (Option.none : Option Jvm.ClassFile.FieldType) ∈ uW := uW_t (i := 266) (by decide +kernel) (by decide +kernel)
theorem m_270 : Jvm.Cond.instanceMethod y_so_release ∈ uW := uW_t (i := 270) (by decide +kernel) (by decide +kernel)
theorem m_271 : Jvm.Cond.code y_so_release prog_6_method_6_code 2 (Option.none : Option Jvm.ClassFile.FieldType) ∈ uW := uW_t (i := 271) (by decide +kernel) (by decide +kernel)
theorem m_273 : Jvm.Cond.static y_tm_withLower ∈ uW := uW_t (i := 273) (by decide +kernel) (by decide +kernel)
theorem m_274 : Jvm.Cond.code y_tm_withLower prog_8_method_3_code 3 (Option.some Jvm.ClassFile.FieldType.long) ∈ uW := uW_t (i := 274) (by decide +kernel) (by decide +kernel)
theorem m_275 : Jvm.Cond.constantLong "TrapHart$Timer" 24 (-4294967296 : Int64) ∈ uW := uW_t (i := 275) (by decide +kernel) (by decide +kernel)
theorem m_276 : Jvm.Cond.constantLong "TrapHart$Timer" 26 (4294967295 : Int64) ∈ uW := uW_t (i := 276) (by decide +kernel) (by decide +kernel)
theorem m_278 : Jvm.Cond.static y_tm_withHigher ∈ uW := uW_t (i := 278) (by decide +kernel) (by decide +kernel)
theorem m_279 : Jvm.Cond.code y_tm_withHigher prog_8_method_4_code 3 (Option.some Jvm.ClassFile.FieldType.long) ∈ uW := uW_t (i := 279) (by decide +kernel) (by decide +kernel)
theorem m_282 : Jvm.Cond.instanceMethod y_dv_readWord ∈ uW := uW_t (i := 282) (by decide +kernel) (by decide +kernel)
theorem m_283 : Jvm.Cond.code y_dv_readWord prog_3_method_5_code 2 (Option.some Jvm.ClassFile.FieldType.int) ∈ uW := uW_t (i := 283) (by decide +kernel) (by decide +kernel)
theorem m_286 : Jvm.Cond.instanceMethod y_ct_claim ∈ uW := uW_t (i := 286) (by decide +kernel) (by decide +kernel)
theorem m_287 : Jvm.Cond.code y_ct_claim prog_2_method_2_code 2 (Option.some Jvm.ClassFile.FieldType.int) ∈ uW := uW_t (i := 287) (by decide +kernel) (by decide +kernel)
theorem m_290 : Jvm.Cond.instanceMethod y_so_best ∈ uW := uW_t (i := 290) (by decide +kernel) (by decide +kernel)
theorem m_291 : Jvm.Cond.code y_so_best prog_6_method_4_code 6 (Option.some Jvm.ClassFile.FieldType.int) ∈ uW := uW_t (i := 291) (by decide +kernel) (by decide +kernel)
theorem m_294 : Jvm.Cond.instanceMethod y_so_serve ∈ uW := uW_t (i := 294) (by decide +kernel) (by decide +kernel)
theorem m_295 : Jvm.Cond.code y_so_serve prog_6_method_5_code 3 (Option.none : Option Jvm.ClassFile.FieldType) ∈ uW := uW_t (i := 295) (by decide +kernel) (by decide +kernel)
theorem m_296 : Jvm.Cond.constantLong "TrapHart" 92 (4294967295 : Int64) ∈ uW := uW_t (i := 296) (by decide +kernel) (by decide +kernel)
theorem m_297 : Jvm.Cond.methodLink "TrapHartLaw" 89 y_th_step ∈ uW := uW_t (i := 297) (by decide +kernel) (by decide +kernel)
theorem m_298 : Jvm.Cond.instanceMethod y_th_step ∈ uW := uW_t (i := 298) (by decide +kernel) (by decide +kernel)
theorem m_299 : Jvm.Cond.selects "TrapHart" y_th_step y_th_step ∈ uW := uW_t (i := 299) (by decide +kernel) (by decide +kernel)
theorem m_300 : Jvm.Cond.code y_th_step prog_1_method_9_code 2 (Option.some Jvm.ClassFile.FieldType.int) ∈ uW := uW_t (i := 300) (by decide +kernel) (by decide +kernel)
theorem m_301 : Jvm.Cond.methodLink "TrapHart" 103 y_th_interruptToTake ∈ uW := uW_t (i := 301) (by decide +kernel) (by decide +kernel)
theorem m_303 : Jvm.Cond.instanceMethod y_th_interruptToTake ∈ uW := uW_t (i := 303) (by decide +kernel) (by decide +kernel)
theorem m_304 : Jvm.Cond.code y_th_interruptToTake prog_1_method_19_code 3 (Option.some Jvm.ClassFile.FieldType.int) ∈ uW := uW_t (i := 304) (by decide +kernel) (by decide +kernel)
theorem m_307 : Jvm.Cond.instanceMethod y_rg_pendingInterrupts ∈ uW := uW_t (i := 307) (by decide +kernel) (by decide +kernel)
theorem m_308 : Jvm.Cond.code y_rg_pendingInterrupts prog_5_method_6_code 1 (Option.some Jvm.ClassFile.FieldType.int) ∈ uW := uW_t (i := 308) (by decide +kernel) (by decide +kernel)
theorem m_311 : Jvm.Cond.instanceMethod y_dv_interrupts ∈ uW := uW_t (i := 311) (by decide +kernel) (by decide +kernel)
theorem m_312 : Jvm.Cond.code y_dv_interrupts prog_3_method_7_code 2 (Option.some Jvm.ClassFile.FieldType.int) ∈ uW := uW_t (i := 312) (by decide +kernel) (by decide +kernel)
theorem m_315 : Jvm.Cond.instanceMethod y_tm_isReached ∈ uW := uW_t (i := 315) (by decide +kernel) (by decide +kernel)
theorem m_316 : Jvm.Cond.code y_tm_isReached prog_8_method_2_code 1 (Option.some Jvm.ClassFile.FieldType.boolean) ∈ uW := uW_t (i := 316) (by decide +kernel) (by decide +kernel)
theorem m_317 : Jvm.Cond.constantLong "TrapHart$Timer" 22 (-9223372036854775808 : Int64) ∈ uW := uW_t (i := 317) (by decide +kernel) (by decide +kernel)
theorem m_320 : Jvm.Cond.instanceMethod y_ct_isCalling ∈ uW := uW_t (i := 320) (by decide +kernel) (by decide +kernel)
theorem m_321 : Jvm.Cond.code y_ct_isCalling prog_2_method_4_code 1 (Option.some Jvm.ClassFile.FieldType.boolean) ∈ uW := uW_t (i := 321) (by decide +kernel) (by decide +kernel)
theorem m_324 : Jvm.Cond.instanceMethod y_st_machineOpen ∈ uW := uW_t (i := 324) (by decide +kernel) (by decide +kernel)
theorem m_325 : Jvm.Cond.code y_st_machineOpen prog_7_method_2_code 1 (Option.some Jvm.ClassFile.FieldType.boolean) ∈ uW := uW_t (i := 325) (by decide +kernel) (by decide +kernel)
theorem m_327 : Jvm.Cond.static y_rg_firstInterrupt ∈ uW := uW_t (i := 327) (by decide +kernel) (by decide +kernel)
theorem m_328 : Jvm.Cond.code y_rg_firstInterrupt prog_5_method_4_code 2 (Option.some Jvm.ClassFile.FieldType.int) ∈ uW := uW_t (i := 328) (by decide +kernel) (by decide +kernel)
theorem m_329 : Jvm.Cond.fieldLink "TrapHart$Registers" 32 "TrapHart$Registers" "ORDER" "[I" ∈ uW := uW_t (i := 329) (by decide +kernel) (by decide +kernel)
theorem m_333 : Jvm.Cond.instanceMethod y_st_supervisorOpen ∈ uW := uW_t (i := 333) (by decide +kernel) (by decide +kernel)
theorem m_334 : Jvm.Cond.code y_st_supervisorOpen prog_7_method_3_code 1 (Option.some Jvm.ClassFile.FieldType.boolean) ∈ uW := uW_t (i := 334) (by decide +kernel) (by decide +kernel)
theorem m_335 : Jvm.Cond.methodLink "TrapHartLaw" 100 y_th_privilege ∈ uW := uW_t (i := 335) (by decide +kernel) (by decide +kernel)
theorem m_336 : Jvm.Cond.instanceMethod y_th_privilege ∈ uW := uW_t (i := 336) (by decide +kernel) (by decide +kernel)
theorem m_337 : Jvm.Cond.selects "TrapHart" y_th_privilege y_th_privilege ∈ uW := uW_t (i := 337) (by decide +kernel) (by decide +kernel)
theorem m_338 : Jvm.Cond.code y_th_privilege prog_1_method_12_code 1 (Option.some Jvm.ClassFile.FieldType.int) ∈ uW := uW_t (i := 338) (by decide +kernel) (by decide +kernel)
theorem m_339 : Jvm.Cond.methodLink "TrapHartLaw" 104 y_th_pc ∈ uW := uW_t (i := 339) (by decide +kernel) (by decide +kernel)
theorem m_340 : Jvm.Cond.instanceMethod y_th_pc ∈ uW := uW_t (i := 340) (by decide +kernel) (by decide +kernel)
theorem m_341 : Jvm.Cond.selects "TrapHart" y_th_pc y_th_pc ∈ uW := uW_t (i := 341) (by decide +kernel) (by decide +kernel)
theorem m_342 : Jvm.Cond.code y_th_pc prog_1_method_13_code 1 (Option.some Jvm.ClassFile.FieldType.int) ∈ uW := uW_t (i := 342) (by decide +kernel) (by decide +kernel)
theorem m_343 : Jvm.Cond.methodLink "TrapHartLaw" 108 y_th_due ∈ uW := uW_t (i := 343) (by decide +kernel) (by decide +kernel)
theorem m_344 : Jvm.Cond.instanceMethod y_th_due ∈ uW := uW_t (i := 344) (by decide +kernel) (by decide +kernel)
theorem m_345 : Jvm.Cond.selects "TrapHart" y_th_due y_th_due ∈ uW := uW_t (i := 345) (by decide +kernel) (by decide +kernel)
theorem m_346 : Jvm.Cond.code y_th_due prog_1_method_14_code 1 (Option.some Jvm.ClassFile.FieldType.int) ∈ uW := uW_t (i := 346) (by decide +kernel) (by decide +kernel)
theorem m_347 : Jvm.Cond.methodLink "TrapHartLaw" 47 y_la_cell ∈ uW := uW_t (i := 347) (by decide +kernel) (by decide +kernel)
theorem m_348 : Jvm.Cond.static y_la_cell ∈ uW := uW_t (i := 348) (by decide +kernel) (by decide +kernel)
theorem m_349 : Jvm.Cond.code y_la_cell method_2_code 2 (Option.some Jvm.ClassFile.FieldType.int) ∈ uW := uW_t (i := 349) (by decide +kernel) (by decide +kernel)
theorem m_350 : Jvm.Cond.methodLink "TrapHartLaw" 62 y_la_ticks ∈ uW := uW_t (i := 350) (by decide +kernel) (by decide +kernel)
theorem m_351 : Jvm.Cond.static y_la_ticks ∈ uW := uW_t (i := 351) (by decide +kernel) (by decide +kernel)
theorem m_352 : Jvm.Cond.codeWith y_la_ticks method_3_code 3 (Option.some Jvm.ClassFile.FieldType.int) [(0, 5, 8, 13)] ∈ uW := uW_t (i := 352) (by decide +kernel) (by decide +kernel)
theorem m_353 : Jvm.Cond.classLink "TrapHartLaw" 13 "java/lang/IllegalArgumentException" ∈ uW := uW_t (i := 353) (by decide +kernel) (by decide +kernel)
theorem m_354 : Jvm.Cond.methodLink "TrapHartLaw" 7 y_th_ticks ∈ uW := uW_t (i := 354) (by decide +kernel) (by decide +kernel)
theorem m_355 : Jvm.Cond.instanceMethod y_th_ticks ∈ uW := uW_t (i := 355) (by decide +kernel) (by decide +kernel)
theorem m_356 : Jvm.Cond.selects "TrapHart" y_th_ticks y_th_ticks ∈ uW := uW_t (i := 356) (by decide +kernel) (by decide +kernel)
theorem m_357 : Jvm.Cond.code y_th_ticks prog_1_method_3_code 2 (Option.none : Option Jvm.ClassFile.FieldType) ∈ uW := uW_t (i := 357) (by decide +kernel) (by decide +kernel)
theorem m_358 : Jvm.Cond.classLink "TrapHart" 46 "java/lang/IllegalArgumentException" ∈ uW := uW_t (i := 358) (by decide +kernel) (by decide +kernel)
theorem m_359 : Jvm.Cond.instantiable "java/lang/IllegalArgumentException" 6 ∈ uW := uW_t (i := 359) (by decide +kernel) (by decide +kernel)
theorem m_369 : Jvm.Cond.lays "java/lang/IllegalArgumentException" "java/lang/Throwable" "cause" "Ljava/lang/Throwable;" ∈ uW := uW_t (i := 369) (by decide +kernel) (by decide +kernel)
theorem m_370 : Jvm.Cond.lays "java/lang/Throwable" "java/lang/Throwable" "cause" "Ljava/lang/Throwable;" ∈ uW := uW_t (i := 370) (by decide +kernel) (by decide +kernel)
theorem m_371 : Jvm.Cond.lays "java/lang/IllegalArgumentException" "java/lang/Throwable" "stackTrace" "[Ljava/lang/StackTraceElement;" ∈ uW := uW_t (i := 371) (by decide +kernel) (by decide +kernel)
theorem m_372 : Jvm.Cond.lays "java/lang/Throwable" "java/lang/Throwable" "stackTrace" "[Ljava/lang/StackTraceElement;" ∈ uW := uW_t (i := 372) (by decide +kernel) (by decide +kernel)
theorem m_373 : Jvm.Cond.lays "java/lang/IllegalArgumentException" "java/lang/Throwable" "suppressedExceptions" "Ljava/util/List;" ∈ uW := uW_t (i := 373) (by decide +kernel) (by decide +kernel)
theorem m_374 : Jvm.Cond.lays "java/lang/Throwable" "java/lang/Throwable" "suppressedExceptions" "Ljava/util/List;" ∈ uW := uW_t (i := 374) (by decide +kernel) (by decide +kernel)
theorem m_375 : Jvm.Cond.lays "java/lang/IllegalArgumentException" "java/lang/Throwable" "detailMessage" "Ljava/lang/String;" ∈ uW := uW_t (i := 375) (by decide +kernel) (by decide +kernel)
theorem m_376 : Jvm.Cond.lays "java/lang/Throwable" "java/lang/Throwable" "detailMessage" "Ljava/lang/String;" ∈ uW := uW_t (i := 376) (by decide +kernel) (by decide +kernel)
theorem m_377 : Jvm.Cond.lays "java/lang/IllegalArgumentException" "java/lang/Throwable" "backtrace" "Ljava/lang/Object;" ∈ uW := uW_t (i := 377) (by decide +kernel) (by decide +kernel)
theorem m_378 : Jvm.Cond.lays "java/lang/Throwable" "java/lang/Throwable" "backtrace" "Ljava/lang/Object;" ∈ uW := uW_t (i := 378) (by decide +kernel) (by decide +kernel)
theorem m_379 : Jvm.Cond.fieldLink "java/lang/Throwable" 198 "java/lang/Throwable" "backtrace" "Ljava/lang/Object;" ∈ uW := uW_t (i := 379) (by decide +kernel) (by decide +kernel)
theorem m_383 : Jvm.Cond.methodLink "java/lang/Throwable" 1 objectInit ∈ uW := uW_t (i := 383) (by decide +kernel) (by decide +kernel)
theorem m_384 : Jvm.Cond.fieldLink "java/lang/Throwable" 13 "java/lang/Throwable" "UNASSIGNED_STACK" "[Ljava/lang/StackTraceElement;" ∈ uW := uW_t (i := 384) (by decide +kernel) (by decide +kernel)
theorem m_386 : Jvm.Cond.fieldLink "java/lang/Throwable" 20 "java/lang/Throwable" "SUPPRESSED_SENTINEL" "Ljava/util/List;" ∈ uW := uW_t (i := 386) (by decide +kernel) (by decide +kernel)
theorem m_399 : Jvm.Cond.instantiable "java/lang/Throwable" 6 ∈ uW := uW_t (i := 399) (by decide +kernel) (by decide +kernel)
theorem m_415 : Jvm.Cond.fieldLink "java/lang/Throwable" 31 "java/lang/Throwable" "detailMessage" "Ljava/lang/String;" ∈ uW := uW_t (i := 415) (by decide +kernel) (by decide +kernel)
theorem m_416 : Jvm.Cond.fieldLink "java/lang/Throwable" 7 "java/lang/Throwable" "cause" "Ljava/lang/Throwable;" ∈ uW := uW_t (i := 416) (by decide +kernel) (by decide +kernel)
theorem m_417 : Jvm.Cond.fieldLink "java/lang/Throwable" 17 "java/lang/Throwable" "stackTrace" "[Ljava/lang/StackTraceElement;" ∈ uW := uW_t (i := 417) (by decide +kernel) (by decide +kernel)
theorem m_418 : Jvm.Cond.fieldLink "java/lang/Throwable" 24 "java/lang/Throwable" "suppressedExceptions" "Ljava/util/List;" ∈ uW := uW_t (i := 418) (by decide +kernel) (by decide +kernel)
theorem m_423 : Jvm.Cond.lays "java/lang/IllegalArgumentException" "java/lang/Throwable" "depth" "I" ∈ uW := uW_t (i := 423) (by decide +kernel) (by decide +kernel)
theorem m_427 : Jvm.Cond.arrayClass Jvm.ClassFile.FieldType.byte ∈ uW := uW_t (i := 427) (by decide +kernel) (by decide +kernel)
theorem m_428 : Jvm.Cond.methodLink "TrapHartLaw" 70 y_la_load ∈ uW := uW_t (i := 428) (by decide +kernel) (by decide +kernel)
theorem m_429 : Jvm.Cond.static y_la_load ∈ uW := uW_t (i := 429) (by decide +kernel) (by decide +kernel)
theorem m_430 : Jvm.Cond.codeWith y_la_load method_4_code 4 (Option.some Jvm.ClassFile.FieldType.int) [(0, 9, 12, 13), (0, 9, 15, 19)] ∈ uW := uW_t (i := 430) (by decide +kernel) (by decide +kernel)
theorem m_431 : Jvm.Cond.classLink "TrapHartLaw" 19 "java/lang/IndexOutOfBoundsException" ∈ uW := uW_t (i := 431) (by decide +kernel) (by decide +kernel)
theorem m_432 : Jvm.Cond.methodLink "TrapHartLaw" 15 y_th_load ∈ uW := uW_t (i := 432) (by decide +kernel) (by decide +kernel)
theorem m_433 : Jvm.Cond.instanceMethod y_th_load ∈ uW := uW_t (i := 433) (by decide +kernel) (by decide +kernel)
theorem m_434 : Jvm.Cond.selects "TrapHart" y_th_load y_th_load ∈ uW := uW_t (i := 434) (by decide +kernel) (by decide +kernel)
theorem m_435 : Jvm.Cond.code y_th_load prog_1_method_4_code 2 (Option.some Jvm.ClassFile.FieldType.int) ∈ uW := uW_t (i := 435) (by decide +kernel) (by decide +kernel)
theorem m_436 : Jvm.Cond.methodLink "TrapHart" 67 y_th_refuseWrongOrAbsent ∈ uW := uW_t (i := 436) (by decide +kernel) (by decide +kernel)
theorem m_437 : Jvm.Cond.static y_th_refuseWrongOrAbsent ∈ uW := uW_t (i := 437) (by decide +kernel) (by decide +kernel)
theorem m_438 : Jvm.Cond.code y_th_refuseWrongOrAbsent prog_1_method_16_code 1 (Option.none : Option Jvm.ClassFile.FieldType) ∈ uW := uW_t (i := 438) (by decide +kernel) (by decide +kernel)
theorem m_440 : Jvm.Cond.classLink "TrapHart" 143 "java/lang/IndexOutOfBoundsException" ∈ uW := uW_t (i := 440) (by decide +kernel) (by decide +kernel)
theorem m_441 : Jvm.Cond.instantiable "java/lang/IndexOutOfBoundsException" 6 ∈ uW := uW_t (i := 441) (by decide +kernel) (by decide +kernel)
theorem m_444 : Jvm.Cond.lays "java/lang/IndexOutOfBoundsException" "java/lang/Throwable" "cause" "Ljava/lang/Throwable;" ∈ uW := uW_t (i := 444) (by decide +kernel) (by decide +kernel)
theorem m_445 : Jvm.Cond.lays "java/lang/IndexOutOfBoundsException" "java/lang/Throwable" "stackTrace" "[Ljava/lang/StackTraceElement;" ∈ uW := uW_t (i := 445) (by decide +kernel) (by decide +kernel)
theorem m_446 : Jvm.Cond.lays "java/lang/IndexOutOfBoundsException" "java/lang/Throwable" "suppressedExceptions" "Ljava/util/List;" ∈ uW := uW_t (i := 446) (by decide +kernel) (by decide +kernel)
theorem m_447 : Jvm.Cond.lays "java/lang/IndexOutOfBoundsException" "java/lang/Throwable" "detailMessage" "Ljava/lang/String;" ∈ uW := uW_t (i := 447) (by decide +kernel) (by decide +kernel)
theorem m_448 : Jvm.Cond.lays "java/lang/IndexOutOfBoundsException" "java/lang/Throwable" "backtrace" "Ljava/lang/Object;" ∈ uW := uW_t (i := 448) (by decide +kernel) (by decide +kernel)
theorem m_454 : Jvm.Cond.lays "java/lang/IndexOutOfBoundsException" "java/lang/Throwable" "depth" "I" ∈ uW := uW_t (i := 454) (by decide +kernel) (by decide +kernel)
theorem m_456 : Jvm.Cond.methodLink "TrapHartLaw" 74 y_la_store ∈ uW := uW_t (i := 456) (by decide +kernel) (by decide +kernel)
theorem m_457 : Jvm.Cond.static y_la_store ∈ uW := uW_t (i := 457) (by decide +kernel) (by decide +kernel)
theorem m_458 : Jvm.Cond.codeWith y_la_store method_5_code 4 (Option.some Jvm.ClassFile.FieldType.int) [(0, 6, 9, 13), (0, 6, 12, 19), (0, 6, 15, 25)] ∈ uW := uW_t (i := 458) (by decide +kernel) (by decide +kernel)
theorem m_459 : Jvm.Cond.classLink "TrapHartLaw" 25 "java/lang/UnsupportedOperationException" ∈ uW := uW_t (i := 459) (by decide +kernel) (by decide +kernel)
theorem m_460 : Jvm.Cond.methodLink "TrapHartLaw" 21 y_th_store ∈ uW := uW_t (i := 460) (by decide +kernel) (by decide +kernel)
theorem m_461 : Jvm.Cond.instanceMethod y_th_store ∈ uW := uW_t (i := 461) (by decide +kernel) (by decide +kernel)
theorem m_462 : Jvm.Cond.selects "TrapHart" y_th_store y_th_store ∈ uW := uW_t (i := 462) (by decide +kernel) (by decide +kernel)
theorem m_463 : Jvm.Cond.code y_th_store prog_1_method_5_code 4 (Option.none : Option Jvm.ClassFile.FieldType) ∈ uW := uW_t (i := 463) (by decide +kernel) (by decide +kernel)
theorem m_464 : Jvm.Cond.classLink "TrapHart" 74 "java/lang/UnsupportedOperationException" ∈ uW := uW_t (i := 464) (by decide +kernel) (by decide +kernel)
theorem m_465 : Jvm.Cond.instantiable "java/lang/UnsupportedOperationException" 6 ∈ uW := uW_t (i := 465) (by decide +kernel) (by decide +kernel)
theorem m_468 : Jvm.Cond.lays "java/lang/UnsupportedOperationException" "java/lang/Throwable" "cause" "Ljava/lang/Throwable;" ∈ uW := uW_t (i := 468) (by decide +kernel) (by decide +kernel)
theorem m_469 : Jvm.Cond.lays "java/lang/UnsupportedOperationException" "java/lang/Throwable" "stackTrace" "[Ljava/lang/StackTraceElement;" ∈ uW := uW_t (i := 469) (by decide +kernel) (by decide +kernel)
theorem m_470 : Jvm.Cond.lays "java/lang/UnsupportedOperationException" "java/lang/Throwable" "suppressedExceptions" "Ljava/util/List;" ∈ uW := uW_t (i := 470) (by decide +kernel) (by decide +kernel)
theorem m_471 : Jvm.Cond.lays "java/lang/UnsupportedOperationException" "java/lang/Throwable" "detailMessage" "Ljava/lang/String;" ∈ uW := uW_t (i := 471) (by decide +kernel) (by decide +kernel)
theorem m_472 : Jvm.Cond.lays "java/lang/UnsupportedOperationException" "java/lang/Throwable" "backtrace" "Ljava/lang/Object;" ∈ uW := uW_t (i := 472) (by decide +kernel) (by decide +kernel)
theorem m_478 : Jvm.Cond.lays "java/lang/UnsupportedOperationException" "java/lang/Throwable" "depth" "I" ∈ uW := uW_t (i := 478) (by decide +kernel) (by decide +kernel)
theorem m_480 : Jvm.Cond.methodLink "TrapHartLaw" 83 y_la_read ∈ uW := uW_t (i := 480) (by decide +kernel) (by decide +kernel)
theorem m_481 : Jvm.Cond.static y_la_read ∈ uW := uW_t (i := 481) (by decide +kernel) (by decide +kernel)
theorem m_482 : Jvm.Cond.codeWith y_la_read method_6_code 4 (Option.some Jvm.ClassFile.FieldType.int) [(0, 9, 12, 30), (0, 9, 15, 32)] ∈ uW := uW_t (i := 482) (by decide +kernel) (by decide +kernel)
theorem m_483 : Jvm.Cond.classLink "TrapHartLaw" 30 "java/util/NoSuchElementException" ∈ uW := uW_t (i := 483) (by decide +kernel) (by decide +kernel)
theorem m_484 : Jvm.Cond.classLink "TrapHartLaw" 32 "java/lang/IllegalStateException" ∈ uW := uW_t (i := 484) (by decide +kernel) (by decide +kernel)
theorem m_485 : Jvm.Cond.methodLink "TrapHartLaw" 27 y_th_read ∈ uW := uW_t (i := 485) (by decide +kernel) (by decide +kernel)
theorem m_486 : Jvm.Cond.instanceMethod y_th_read ∈ uW := uW_t (i := 486) (by decide +kernel) (by decide +kernel)
theorem m_487 : Jvm.Cond.selects "TrapHart" y_th_read y_th_read ∈ uW := uW_t (i := 487) (by decide +kernel) (by decide +kernel)
theorem m_488 : Jvm.Cond.code y_th_read prog_1_method_7_code 2 (Option.some Jvm.ClassFile.FieldType.int) ∈ uW := uW_t (i := 488) (by decide +kernel) (by decide +kernel)
theorem m_489 : Jvm.Cond.methodLink "TrapHart" 94 y_th_refuseRegister ∈ uW := uW_t (i := 489) (by decide +kernel) (by decide +kernel)
theorem m_491 : Jvm.Cond.instanceMethod y_th_refuseRegister ∈ uW := uW_t (i := 491) (by decide +kernel) (by decide +kernel)
theorem m_492 : Jvm.Cond.code y_th_refuseRegister prog_1_method_17_code 2 (Option.none : Option Jvm.ClassFile.FieldType) ∈ uW := uW_t (i := 492) (by decide +kernel) (by decide +kernel)
theorem m_494 : Jvm.Cond.static y_rg_isThere ∈ uW := uW_t (i := 494) (by decide +kernel) (by decide +kernel)
theorem m_495 : Jvm.Cond.code y_rg_isThere prog_5_method_2_code 1 (Option.some Jvm.ClassFile.FieldType.boolean) ∈ uW := uW_t (i := 495) (by decide +kernel) (by decide +kernel)
theorem m_496 : Jvm.Cond.classLink "TrapHart" 163 "java/util/NoSuchElementException" ∈ uW := uW_t (i := 496) (by decide +kernel) (by decide +kernel)
theorem m_497 : Jvm.Cond.instantiable "java/util/NoSuchElementException" 6 ∈ uW := uW_t (i := 497) (by decide +kernel) (by decide +kernel)
theorem m_500 : Jvm.Cond.lays "java/util/NoSuchElementException" "java/lang/Throwable" "cause" "Ljava/lang/Throwable;" ∈ uW := uW_t (i := 500) (by decide +kernel) (by decide +kernel)
theorem m_501 : Jvm.Cond.lays "java/util/NoSuchElementException" "java/lang/Throwable" "stackTrace" "[Ljava/lang/StackTraceElement;" ∈ uW := uW_t (i := 501) (by decide +kernel) (by decide +kernel)
theorem m_502 : Jvm.Cond.lays "java/util/NoSuchElementException" "java/lang/Throwable" "suppressedExceptions" "Ljava/util/List;" ∈ uW := uW_t (i := 502) (by decide +kernel) (by decide +kernel)
theorem m_503 : Jvm.Cond.lays "java/util/NoSuchElementException" "java/lang/Throwable" "detailMessage" "Ljava/lang/String;" ∈ uW := uW_t (i := 503) (by decide +kernel) (by decide +kernel)
theorem m_504 : Jvm.Cond.lays "java/util/NoSuchElementException" "java/lang/Throwable" "backtrace" "Ljava/lang/Object;" ∈ uW := uW_t (i := 504) (by decide +kernel) (by decide +kernel)
theorem m_510 : Jvm.Cond.lays "java/util/NoSuchElementException" "java/lang/Throwable" "depth" "I" ∈ uW := uW_t (i := 510) (by decide +kernel) (by decide +kernel)
theorem m_513 : Jvm.Cond.static y_rg_isOfMachine ∈ uW := uW_t (i := 513) (by decide +kernel) (by decide +kernel)
theorem m_514 : Jvm.Cond.code y_rg_isOfMachine prog_5_method_3_code 1 (Option.some Jvm.ClassFile.FieldType.boolean) ∈ uW := uW_t (i := 514) (by decide +kernel) (by decide +kernel)
theorem m_515 : Jvm.Cond.classLink "TrapHart" 114 "java/lang/IllegalStateException" ∈ uW := uW_t (i := 515) (by decide +kernel) (by decide +kernel)
theorem m_516 : Jvm.Cond.instantiable "java/lang/IllegalStateException" 6 ∈ uW := uW_t (i := 516) (by decide +kernel) (by decide +kernel)
theorem m_519 : Jvm.Cond.lays "java/lang/IllegalStateException" "java/lang/Throwable" "cause" "Ljava/lang/Throwable;" ∈ uW := uW_t (i := 519) (by decide +kernel) (by decide +kernel)
theorem m_520 : Jvm.Cond.lays "java/lang/IllegalStateException" "java/lang/Throwable" "stackTrace" "[Ljava/lang/StackTraceElement;" ∈ uW := uW_t (i := 520) (by decide +kernel) (by decide +kernel)
theorem m_521 : Jvm.Cond.lays "java/lang/IllegalStateException" "java/lang/Throwable" "suppressedExceptions" "Ljava/util/List;" ∈ uW := uW_t (i := 521) (by decide +kernel) (by decide +kernel)
theorem m_522 : Jvm.Cond.lays "java/lang/IllegalStateException" "java/lang/Throwable" "detailMessage" "Ljava/lang/String;" ∈ uW := uW_t (i := 522) (by decide +kernel) (by decide +kernel)
theorem m_523 : Jvm.Cond.lays "java/lang/IllegalStateException" "java/lang/Throwable" "backtrace" "Ljava/lang/Object;" ∈ uW := uW_t (i := 523) (by decide +kernel) (by decide +kernel)
theorem m_529 : Jvm.Cond.lays "java/lang/IllegalStateException" "java/lang/Throwable" "depth" "I" ∈ uW := uW_t (i := 529) (by decide +kernel) (by decide +kernel)
theorem m_533 : Jvm.Cond.instanceMethod y_rg_valueOf ∈ uW := uW_t (i := 533) (by decide +kernel) (by decide +kernel)
theorem m_534 : Jvm.Cond.code y_rg_valueOf prog_5_method_7_code 2 (Option.some Jvm.ClassFile.FieldType.int) ∈ uW := uW_t (i := 534) (by decide +kernel) (by decide +kernel)
theorem m_535 : Jvm.Cond.methodLink "TrapHart$Registers" 71 y_rg_pendingInterrupts ∈ uW := uW_t (i := 535) (by decide +kernel) (by decide +kernel)
theorem m_536 : Jvm.Cond.methodLink "TrapHartLaw" 86 y_la_write ∈ uW := uW_t (i := 536) (by decide +kernel) (by decide +kernel)
theorem m_537 : Jvm.Cond.static y_la_write ∈ uW := uW_t (i := 537) (by decide +kernel) (by decide +kernel)
theorem m_538 : Jvm.Cond.codeWith y_la_write method_7_code 4 (Option.some Jvm.ClassFile.FieldType.int) [(0, 6, 9, 30), (0, 6, 12, 32)] ∈ uW := uW_t (i := 538) (by decide +kernel) (by decide +kernel)
theorem m_539 : Jvm.Cond.methodLink "TrapHartLaw" 34 y_th_write ∈ uW := uW_t (i := 539) (by decide +kernel) (by decide +kernel)
theorem m_540 : Jvm.Cond.instanceMethod y_th_write ∈ uW := uW_t (i := 540) (by decide +kernel) (by decide +kernel)
theorem m_541 : Jvm.Cond.selects "TrapHart" y_th_write y_th_write ∈ uW := uW_t (i := 541) (by decide +kernel) (by decide +kernel)
theorem m_542 : Jvm.Cond.code y_th_write prog_1_method_8_code 3 (Option.none : Option Jvm.ClassFile.FieldType) ∈ uW := uW_t (i := 542) (by decide +kernel) (by decide +kernel)
theorem m_545 : Jvm.Cond.instanceMethod y_rg_change ∈ uW := uW_t (i := 545) (by decide +kernel) (by decide +kernel)
theorem m_546 : Jvm.Cond.code y_rg_change prog_5_method_8_code 3 (Option.none : Option Jvm.ClassFile.FieldType) ∈ uW := uW_t (i := 546) (by decide +kernel) (by decide +kernel)
theorem m_547 : Jvm.Cond.methodLink "TrapHart$Registers" 74 y_rg_isOfMachine ∈ uW := uW_t (i := 547) (by decide +kernel) (by decide +kernel)
theorem m_548 : Jvm.Cond.methodLink "TrapHart$Registers" 78 y_rg_changeOfMachine ∈ uW := uW_t (i := 548) (by decide +kernel) (by decide +kernel)
theorem m_550 : Jvm.Cond.instanceMethod y_rg_changeOfMachine ∈ uW := uW_t (i := 550) (by decide +kernel) (by decide +kernel)
theorem m_551 : Jvm.Cond.code y_rg_changeOfMachine prog_5_method_9_code 3 (Option.none : Option Jvm.ClassFile.FieldType) ∈ uW := uW_t (i := 551) (by decide +kernel) (by decide +kernel)
theorem m_554 : Jvm.Cond.instanceMethod y_st_changeByMachine ∈ uW := uW_t (i := 554) (by decide +kernel) (by decide +kernel)
theorem m_555 : Jvm.Cond.code y_st_changeByMachine prog_7_method_4_code 3 (Option.none : Option Jvm.ClassFile.FieldType) ∈ uW := uW_t (i := 555) (by decide +kernel) (by decide +kernel)
theorem m_556 : Jvm.Cond.constant "TrapHart$Registers" 89 (46079 : Int32) ∈ uW := uW_t (i := 556) (by decide +kernel) (by decide +kernel)
theorem m_557 : Jvm.Cond.methodLink "TrapHart$Registers" 82 y_rg_changeOfSupervisor ∈ uW := uW_t (i := 557) (by decide +kernel) (by decide +kernel)
theorem m_559 : Jvm.Cond.instanceMethod y_rg_changeOfSupervisor ∈ uW := uW_t (i := 559) (by decide +kernel) (by decide +kernel)
theorem m_560 : Jvm.Cond.code y_rg_changeOfSupervisor prog_5_method_10_code 3 (Option.none : Option Jvm.ClassFile.FieldType) ∈ uW := uW_t (i := 560) (by decide +kernel) (by decide +kernel)
theorem m_563 : Jvm.Cond.instanceMethod y_st_changeBySupervisor ∈ uW := uW_t (i := 563) (by decide +kernel) (by decide +kernel)
theorem m_564 : Jvm.Cond.code y_st_changeBySupervisor prog_7_method_5_code 2 (Option.none : Option Jvm.ClassFile.FieldType) ∈ uW := uW_t (i := 564) (by decide +kernel) (by decide +kernel)
theorem m_566 : Jvm.Cond.methodLink "TrapHartLaw" 93 y_la_raise ∈ uW := uW_t (i := 566) (by decide +kernel) (by decide +kernel)
theorem m_567 : Jvm.Cond.static y_la_raise ∈ uW := uW_t (i := 567) (by decide +kernel) (by decide +kernel)
theorem m_568 : Jvm.Cond.codeWith y_la_raise method_8_code 4 (Option.some Jvm.ClassFile.FieldType.int) [(0, 9, 12, 13)] ∈ uW := uW_t (i := 568) (by decide +kernel) (by decide +kernel)
theorem m_569 : Jvm.Cond.methodLink "TrapHartLaw" 37 y_th_raise ∈ uW := uW_t (i := 569) (by decide +kernel) (by decide +kernel)
theorem m_570 : Jvm.Cond.instanceMethod y_th_raise ∈ uW := uW_t (i := 570) (by decide +kernel) (by decide +kernel)
theorem m_571 : Jvm.Cond.selects "TrapHart" y_th_raise y_th_raise ∈ uW := uW_t (i := 571) (by decide +kernel) (by decide +kernel)
theorem m_572 : Jvm.Cond.code y_th_raise prog_1_method_10_code 2 (Option.some Jvm.ClassFile.FieldType.int) ∈ uW := uW_t (i := 572) (by decide +kernel) (by decide +kernel)
theorem m_573 : Jvm.Cond.constant "TrapHart" 107 (48127 : Int32) ∈ uW := uW_t (i := 573) (by decide +kernel) (by decide +kernel)
theorem m_574 : Jvm.Cond.methodLink "TrapHart" 108 y_th_hasBit ∈ uW := uW_t (i := 574) (by decide +kernel) (by decide +kernel)
theorem m_576 : Jvm.Cond.methodLink "TrapHartLaw" 96 y_la_leave ∈ uW := uW_t (i := 576) (by decide +kernel) (by decide +kernel)
theorem m_577 : Jvm.Cond.static y_la_leave ∈ uW := uW_t (i := 577) (by decide +kernel) (by decide +kernel)
theorem m_578 : Jvm.Cond.codeWith y_la_leave method_9_code 4 (Option.some Jvm.ClassFile.FieldType.int) [(0, 9, 12, 32)] ∈ uW := uW_t (i := 578) (by decide +kernel) (by decide +kernel)
theorem m_579 : Jvm.Cond.methodLink "TrapHartLaw" 40 y_th_leave ∈ uW := uW_t (i := 579) (by decide +kernel) (by decide +kernel)
theorem m_580 : Jvm.Cond.instanceMethod y_th_leave ∈ uW := uW_t (i := 580) (by decide +kernel) (by decide +kernel)
theorem m_581 : Jvm.Cond.selects "TrapHart" y_th_leave y_th_leave ∈ uW := uW_t (i := 581) (by decide +kernel) (by decide +kernel)
theorem m_582 : Jvm.Cond.code y_th_leave prog_1_method_11_code 2 (Option.some Jvm.ClassFile.FieldType.int) ∈ uW := uW_t (i := 582) (by decide +kernel) (by decide +kernel)
theorem m_585 : Jvm.Cond.instanceMethod y_st_leaveMachine ∈ uW := uW_t (i := 585) (by decide +kernel) (by decide +kernel)
theorem m_586 : Jvm.Cond.code y_st_leaveMachine prog_7_method_8_code 3 (Option.some Jvm.ClassFile.FieldType.int) ∈ uW := uW_t (i := 586) (by decide +kernel) (by decide +kernel)
theorem m_589 : Jvm.Cond.instanceMethod y_st_leaveSupervisor ∈ uW := uW_t (i := 589) (by decide +kernel) (by decide +kernel)
theorem m_590 : Jvm.Cond.code y_st_leaveSupervisor prog_7_method_9_code 3 (Option.some Jvm.ClassFile.FieldType.int) ∈ uW := uW_t (i := 590) (by decide +kernel) (by decide +kernel)
theorem m_591 : Jvm.Cond.methodLink "TrapHartLaw" 112 y_la_source ∈ uW := uW_t (i := 591) (by decide +kernel) (by decide +kernel)
theorem m_592 : Jvm.Cond.static y_la_source ∈ uW := uW_t (i := 592) (by decide +kernel) (by decide +kernel)
theorem m_593 : Jvm.Cond.codeWith y_la_source method_10_code 4 (Option.some Jvm.ClassFile.FieldType.int) [(0, 9, 12, 19)] ∈ uW := uW_t (i := 593) (by decide +kernel) (by decide +kernel)
theorem m_594 : Jvm.Cond.methodLink "TrapHartLaw" 44 y_th_source ∈ uW := uW_t (i := 594) (by decide +kernel) (by decide +kernel)
theorem m_595 : Jvm.Cond.instanceMethod y_th_source ∈ uW := uW_t (i := 595) (by decide +kernel) (by decide +kernel)
theorem m_596 : Jvm.Cond.selects "TrapHart" y_th_source y_th_source ∈ uW := uW_t (i := 596) (by decide +kernel) (by decide +kernel)
theorem m_597 : Jvm.Cond.code y_th_source prog_1_method_15_code 2 (Option.some Jvm.ClassFile.FieldType.int) ∈ uW := uW_t (i := 597) (by decide +kernel) (by decide +kernel)
theorem m_599 : Jvm.Cond.classLink "TrapHartLaw" 55 "TrapHartModel" ∈ uW := uW_t (i := 599) (by decide +kernel) (by decide +kernel)
theorem m_600 : Jvm.Cond.instantiable "TrapHartModel" 22 ∈ uW := uW_t (i := 600) (by decide +kernel) (by decide +kernel)
theorem m_601 : Jvm.Cond.methodLink "TrapHartLaw" 57 y_mo_init ∈ uW := uW_t (i := 601) (by decide +kernel) (by decide +kernel)
theorem m_602 : Jvm.Cond.instanceMethod y_mo_init ∈ uW := uW_t (i := 602) (by decide +kernel) (by decide +kernel)
theorem m_603 : Jvm.Cond.code y_mo_init prog_10_method_1_code 3 (Option.none : Option Jvm.ClassFile.FieldType) ∈ uW := uW_t (i := 603) (by decide +kernel) (by decide +kernel)
theorem m_604 : Jvm.Cond.methodLink "TrapHartModel" 1 objectInit ∈ uW := uW_t (i := 604) (by decide +kernel) (by decide +kernel)
theorem m_605 : Jvm.Cond.constantLong "TrapHartModel" 39 (-1 : Int64) ∈ uW := uW_t (i := 605) (by decide +kernel) (by decide +kernel)
theorem m_606 : Jvm.Cond.fieldLink "TrapHartModel" 54 "TrapHartModel" "thrown" "I" ∈ uW := uW_t (i := 606) (by decide +kernel) (by decide +kernel)
theorem m_607 : Jvm.Cond.fieldLink "TrapHartModel" 7 "TrapHartModel" "privilege" "I" ∈ uW := uW_t (i := 607) (by decide +kernel) (by decide +kernel)
theorem m_608 : Jvm.Cond.fieldLink "TrapHartModel" 109 "TrapHartModel" "pc" "I" ∈ uW := uW_t (i := 608) (by decide +kernel) (by decide +kernel)
theorem m_609 : Jvm.Cond.fieldLink "TrapHartModel" 13 "TrapHartModel" "edges" "[Z" ∈ uW := uW_t (i := 609) (by decide +kernel) (by decide +kernel)
theorem m_610 : Jvm.Cond.fieldLink "TrapHartModel" 17 "TrapHartModel" "line" "[Z" ∈ uW := uW_t (i := 610) (by decide +kernel) (by decide +kernel)
theorem m_611 : Jvm.Cond.fieldLink "TrapHartModel" 20 "TrapHartModel" "priority" "[I" ∈ uW := uW_t (i := 611) (by decide +kernel) (by decide +kernel)
theorem m_612 : Jvm.Cond.fieldLink "TrapHartModel" 24 "TrapHartModel" "pending" "[Z" ∈ uW := uW_t (i := 612) (by decide +kernel) (by decide +kernel)
theorem m_613 : Jvm.Cond.fieldLink "TrapHartModel" 27 "TrapHartModel" "served" "[I" ∈ uW := uW_t (i := 613) (by decide +kernel) (by decide +kernel)
theorem m_614 : Jvm.Cond.fieldLink "TrapHartModel" 30 "TrapHartModel" "waiting" "[I" ∈ uW := uW_t (i := 614) (by decide +kernel) (by decide +kernel)
theorem m_615 : Jvm.Cond.fieldLink "TrapHartModel" 33 "TrapHartModel" "enabled" "[I" ∈ uW := uW_t (i := 615) (by decide +kernel) (by decide +kernel)
theorem m_616 : Jvm.Cond.fieldLink "TrapHartModel" 36 "TrapHartModel" "threshold" "[I" ∈ uW := uW_t (i := 616) (by decide +kernel) (by decide +kernel)
theorem m_617 : Jvm.Cond.fieldLink "TrapHartModel" 68 "TrapHartModel" "time" "J" ∈ uW := uW_t (i := 617) (by decide +kernel) (by decide +kernel)
theorem m_618 : Jvm.Cond.fieldLink "TrapHartModel" 41 "TrapHartModel" "compare" "J" ∈ uW := uW_t (i := 618) (by decide +kernel) (by decide +kernel)
theorem m_619 : Jvm.Cond.fieldLink "TrapHartModel" 81 "TrapHartModel" "soft" "I" ∈ uW := uW_t (i := 619) (by decide +kernel) (by decide +kernel)
theorem m_620 : Jvm.Cond.fieldLink "TrapHartModel" 131 "TrapHartModel" "status" "I" ∈ uW := uW_t (i := 620) (by decide +kernel) (by decide +kernel)
theorem m_621 : Jvm.Cond.fieldLink "TrapHartModel" 134 "TrapHartModel" "givenExceptions" "I" ∈ uW := uW_t (i := 621) (by decide +kernel) (by decide +kernel)
theorem m_622 : Jvm.Cond.fieldLink "TrapHartModel" 137 "TrapHartModel" "givenInterrupts" "I" ∈ uW := uW_t (i := 622) (by decide +kernel) (by decide +kernel)
theorem m_623 : Jvm.Cond.fieldLink "TrapHartModel" 140 "TrapHartModel" "wanted" "I" ∈ uW := uW_t (i := 623) (by decide +kernel) (by decide +kernel)
theorem m_624 : Jvm.Cond.fieldLink "TrapHartModel" 114 "TrapHartModel" "written" "I" ∈ uW := uW_t (i := 624) (by decide +kernel) (by decide +kernel)
theorem m_625 : Jvm.Cond.fieldLink "TrapHartModel" 45 "TrapHartModel" "vector" "[I" ∈ uW := uW_t (i := 625) (by decide +kernel) (by decide +kernel)
theorem m_626 : Jvm.Cond.fieldLink "TrapHartModel" 48 "TrapHartModel" "back" "[I" ∈ uW := uW_t (i := 626) (by decide +kernel) (by decide +kernel)
theorem m_627 : Jvm.Cond.fieldLink "TrapHartModel" 51 "TrapHartModel" "cause" "[I" ∈ uW := uW_t (i := 627) (by decide +kernel) (by decide +kernel)
theorem m_628 : Jvm.Cond.lays "TrapHartModel" "TrapHartModel" "thrown" "I" ∈ uW := uW_t (i := 628) (by decide +kernel) (by decide +kernel)
theorem m_630 : Jvm.Cond.lays "TrapHartModel" "TrapHartModel" "privilege" "I" ∈ uW := uW_t (i := 630) (by decide +kernel) (by decide +kernel)
theorem m_632 : Jvm.Cond.lays "TrapHartModel" "TrapHartModel" "pc" "I" ∈ uW := uW_t (i := 632) (by decide +kernel) (by decide +kernel)
theorem m_634 : Jvm.Cond.lays "TrapHartModel" "TrapHartModel" "edges" "[Z" ∈ uW := uW_t (i := 634) (by decide +kernel) (by decide +kernel)
theorem m_636 : Jvm.Cond.lays "TrapHartModel" "TrapHartModel" "line" "[Z" ∈ uW := uW_t (i := 636) (by decide +kernel) (by decide +kernel)
theorem m_638 : Jvm.Cond.lays "TrapHartModel" "TrapHartModel" "priority" "[I" ∈ uW := uW_t (i := 638) (by decide +kernel) (by decide +kernel)
theorem m_640 : Jvm.Cond.lays "TrapHartModel" "TrapHartModel" "pending" "[Z" ∈ uW := uW_t (i := 640) (by decide +kernel) (by decide +kernel)
theorem m_642 : Jvm.Cond.lays "TrapHartModel" "TrapHartModel" "served" "[I" ∈ uW := uW_t (i := 642) (by decide +kernel) (by decide +kernel)
theorem m_644 : Jvm.Cond.lays "TrapHartModel" "TrapHartModel" "waiting" "[I" ∈ uW := uW_t (i := 644) (by decide +kernel) (by decide +kernel)
theorem m_646 : Jvm.Cond.lays "TrapHartModel" "TrapHartModel" "enabled" "[I" ∈ uW := uW_t (i := 646) (by decide +kernel) (by decide +kernel)
theorem m_648 : Jvm.Cond.lays "TrapHartModel" "TrapHartModel" "threshold" "[I" ∈ uW := uW_t (i := 648) (by decide +kernel) (by decide +kernel)
theorem m_650 : Jvm.Cond.lays "TrapHartModel" "TrapHartModel" "time" "J" ∈ uW := uW_t (i := 650) (by decide +kernel) (by decide +kernel)
theorem m_652 : Jvm.Cond.lays "TrapHartModel" "TrapHartModel" "compare" "J" ∈ uW := uW_t (i := 652) (by decide +kernel) (by decide +kernel)
theorem m_654 : Jvm.Cond.lays "TrapHartModel" "TrapHartModel" "soft" "I" ∈ uW := uW_t (i := 654) (by decide +kernel) (by decide +kernel)
theorem m_656 : Jvm.Cond.lays "TrapHartModel" "TrapHartModel" "status" "I" ∈ uW := uW_t (i := 656) (by decide +kernel) (by decide +kernel)
theorem m_658 : Jvm.Cond.lays "TrapHartModel" "TrapHartModel" "givenExceptions" "I" ∈ uW := uW_t (i := 658) (by decide +kernel) (by decide +kernel)
theorem m_660 : Jvm.Cond.lays "TrapHartModel" "TrapHartModel" "givenInterrupts" "I" ∈ uW := uW_t (i := 660) (by decide +kernel) (by decide +kernel)
theorem m_662 : Jvm.Cond.lays "TrapHartModel" "TrapHartModel" "wanted" "I" ∈ uW := uW_t (i := 662) (by decide +kernel) (by decide +kernel)
theorem m_664 : Jvm.Cond.lays "TrapHartModel" "TrapHartModel" "written" "I" ∈ uW := uW_t (i := 664) (by decide +kernel) (by decide +kernel)
theorem m_666 : Jvm.Cond.lays "TrapHartModel" "TrapHartModel" "vector" "[I" ∈ uW := uW_t (i := 666) (by decide +kernel) (by decide +kernel)
theorem m_668 : Jvm.Cond.lays "TrapHartModel" "TrapHartModel" "back" "[I" ∈ uW := uW_t (i := 668) (by decide +kernel) (by decide +kernel)
theorem m_670 : Jvm.Cond.lays "TrapHartModel" "TrapHartModel" "cause" "[I" ∈ uW := uW_t (i := 670) (by decide +kernel) (by decide +kernel)
theorem m_673 : Jvm.Cond.arrayClass Jvm.ClassFile.FieldType.boolean ∈ uW := uW_t (i := 673) (by decide +kernel) (by decide +kernel)
theorem m_674 : Jvm.Cond.methodLink "TrapHartLaw" 66 y_mo_thrown ∈ uW := uW_t (i := 674) (by decide +kernel) (by decide +kernel)
theorem m_675 : Jvm.Cond.instanceMethod y_mo_thrown ∈ uW := uW_t (i := 675) (by decide +kernel) (by decide +kernel)
theorem m_676 : Jvm.Cond.selects "TrapHartModel" y_mo_thrown y_mo_thrown ∈ uW := uW_t (i := 676) (by decide +kernel) (by decide +kernel)
theorem m_677 : Jvm.Cond.code y_mo_thrown prog_10_method_2_code 1 (Option.some Jvm.ClassFile.FieldType.int) ∈ uW := uW_t (i := 677) (by decide +kernel) (by decide +kernel)
theorem m_678 : Jvm.Cond.methodLink "TrapHartLaw" 61 y_mo_lines ∈ uW := uW_t (i := 678) (by decide +kernel) (by decide +kernel)
theorem m_679 : Jvm.Cond.instanceMethod y_mo_lines ∈ uW := uW_t (i := 679) (by decide +kernel) (by decide +kernel)
theorem m_680 : Jvm.Cond.selects "TrapHartModel" y_mo_lines y_mo_lines ∈ uW := uW_t (i := 680) (by decide +kernel) (by decide +kernel)
theorem m_681 : Jvm.Cond.code y_mo_lines prog_10_method_5_code 4 (Option.some Jvm.ClassFile.FieldType.int) ∈ uW := uW_t (i := 681) (by decide +kernel) (by decide +kernel)
theorem m_682 : Jvm.Cond.methodLink "TrapHartModel" 57 y_mo_forward ∈ uW := uW_t (i := 682) (by decide +kernel) (by decide +kernel)
theorem m_684 : Jvm.Cond.instanceMethod y_mo_forward ∈ uW := uW_t (i := 684) (by decide +kernel) (by decide +kernel)
theorem m_685 : Jvm.Cond.code y_mo_forward prog_10_method_3_code 2 (Option.none : Option Jvm.ClassFile.FieldType) ∈ uW := uW_t (i := 685) (by decide +kernel) (by decide +kernel)
theorem m_686 : Jvm.Cond.methodLink "TrapHartModel" 60 y_mo_pendingSet ∈ uW := uW_t (i := 686) (by decide +kernel) (by decide +kernel)
theorem m_688 : Jvm.Cond.instanceMethod y_mo_pendingSet ∈ uW := uW_t (i := 688) (by decide +kernel) (by decide +kernel)
theorem m_689 : Jvm.Cond.code y_mo_pendingSet prog_10_method_4_code 3 (Option.some Jvm.ClassFile.FieldType.int) ∈ uW := uW_t (i := 689) (by decide +kernel) (by decide +kernel)
theorem m_690 : Jvm.Cond.methodLink "TrapHartLaw" 65 y_mo_ticks ∈ uW := uW_t (i := 690) (by decide +kernel) (by decide +kernel)
theorem m_691 : Jvm.Cond.instanceMethod y_mo_ticks ∈ uW := uW_t (i := 691) (by decide +kernel) (by decide +kernel)
theorem m_692 : Jvm.Cond.selects "TrapHartModel" y_mo_ticks y_mo_ticks ∈ uW := uW_t (i := 692) (by decide +kernel) (by decide +kernel)
theorem m_693 : Jvm.Cond.code y_mo_ticks prog_10_method_10_code 2 (Option.none : Option Jvm.ClassFile.FieldType) ∈ uW := uW_t (i := 693) (by decide +kernel) (by decide +kernel)
theorem m_694 : Jvm.Cond.methodLink "TrapHartLaw" 73 y_mo_load ∈ uW := uW_t (i := 694) (by decide +kernel) (by decide +kernel)
theorem m_695 : Jvm.Cond.instanceMethod y_mo_load ∈ uW := uW_t (i := 695) (by decide +kernel) (by decide +kernel)
theorem m_696 : Jvm.Cond.selects "TrapHartModel" y_mo_load y_mo_load ∈ uW := uW_t (i := 696) (by decide +kernel) (by decide +kernel)
theorem m_697 : Jvm.Cond.code y_mo_load prog_10_method_17_code 2 (Option.some Jvm.ClassFile.FieldType.int) ∈ uW := uW_t (i := 697) (by decide +kernel) (by decide +kernel)
theorem m_698 : Jvm.Cond.methodLink "TrapHartModel" 95 y_mo_bar ∈ uW := uW_t (i := 698) (by decide +kernel) (by decide +kernel)
theorem m_699 : Jvm.Cond.static y_mo_bar ∈ uW := uW_t (i := 699) (by decide +kernel) (by decide +kernel)
theorem m_700 : Jvm.Cond.code y_mo_bar prog_10_method_13_code 3 (Option.some Jvm.ClassFile.FieldType.int) ∈ uW := uW_t (i := 700) (by decide +kernel) (by decide +kernel)
theorem m_701 : Jvm.Cond.methodLink "TrapHartModel" 71 y_mo_wordAt ∈ uW := uW_t (i := 701) (by decide +kernel) (by decide +kernel)
theorem m_702 : Jvm.Cond.static y_mo_wordAt ∈ uW := uW_t (i := 702) (by decide +kernel) (by decide +kernel)
theorem m_703 : Jvm.Cond.code y_mo_wordAt prog_10_method_11_code 2 (Option.some Jvm.ClassFile.FieldType.int) ∈ uW := uW_t (i := 703) (by decide +kernel) (by decide +kernel)
theorem m_704 : Jvm.Cond.methodLink "TrapHartModel" 99 y_mo_take ∈ uW := uW_t (i := 704) (by decide +kernel) (by decide +kernel)
theorem m_706 : Jvm.Cond.instanceMethod y_mo_take ∈ uW := uW_t (i := 706) (by decide +kernel) (by decide +kernel)
theorem m_707 : Jvm.Cond.code y_mo_take prog_10_method_14_code 3 (Option.some Jvm.ClassFile.FieldType.int) ∈ uW := uW_t (i := 707) (by decide +kernel) (by decide +kernel)
theorem m_708 : Jvm.Cond.methodLink "TrapHartModel" 75 y_mo_contextAt ∈ uW := uW_t (i := 708) (by decide +kernel) (by decide +kernel)
theorem m_709 : Jvm.Cond.static y_mo_contextAt ∈ uW := uW_t (i := 709) (by decide +kernel) (by decide +kernel)
theorem m_710 : Jvm.Cond.code y_mo_contextAt prog_10_method_12_code 1 (Option.some Jvm.ClassFile.FieldType.int) ∈ uW := uW_t (i := 710) (by decide +kernel) (by decide +kernel)
theorem m_711 : Jvm.Cond.methodLink "TrapHartModel" 78 y_mo_claim ∈ uW := uW_t (i := 711) (by decide +kernel) (by decide +kernel)
theorem m_713 : Jvm.Cond.instanceMethod y_mo_claim ∈ uW := uW_t (i := 713) (by decide +kernel) (by decide +kernel)
theorem m_714 : Jvm.Cond.code y_mo_claim prog_10_method_7_code 4 (Option.some Jvm.ClassFile.FieldType.int) ∈ uW := uW_t (i := 714) (by decide +kernel) (by decide +kernel)
theorem m_715 : Jvm.Cond.methodLink "TrapHartModel" 64 y_mo_isEnabled ∈ uW := uW_t (i := 715) (by decide +kernel) (by decide +kernel)
theorem m_717 : Jvm.Cond.instanceMethod y_mo_isEnabled ∈ uW := uW_t (i := 717) (by decide +kernel) (by decide +kernel)
theorem m_718 : Jvm.Cond.code y_mo_isEnabled prog_10_method_6_code 3 (Option.some Jvm.ClassFile.FieldType.boolean) ∈ uW := uW_t (i := 718) (by decide +kernel) (by decide +kernel)
theorem m_719 : Jvm.Cond.methodLink "TrapHartLaw" 77 y_mo_store ∈ uW := uW_t (i := 719) (by decide +kernel) (by decide +kernel)
theorem m_720 : Jvm.Cond.instanceMethod y_mo_store ∈ uW := uW_t (i := 720) (by decide +kernel) (by decide +kernel)
theorem m_721 : Jvm.Cond.selects "TrapHartModel" y_mo_store y_mo_store ∈ uW := uW_t (i := 721) (by decide +kernel) (by decide +kernel)
theorem m_722 : Jvm.Cond.code y_mo_store prog_10_method_18_code 3 (Option.none : Option Jvm.ClassFile.FieldType) ∈ uW := uW_t (i := 722) (by decide +kernel) (by decide +kernel)
theorem m_723 : Jvm.Cond.methodLink "TrapHartModel" 102 y_mo_put ∈ uW := uW_t (i := 723) (by decide +kernel) (by decide +kernel)
theorem m_725 : Jvm.Cond.instanceMethod y_mo_put ∈ uW := uW_t (i := 725) (by decide +kernel) (by decide +kernel)
theorem m_726 : Jvm.Cond.code y_mo_put prog_10_method_16_code 4 (Option.none : Option Jvm.ClassFile.FieldType) ∈ uW := uW_t (i := 726) (by decide +kernel) (by decide +kernel)
theorem m_727 : Jvm.Cond.constant "TrapHartModel" 86 (65534 : Int32) ∈ uW := uW_t (i := 727) (by decide +kernel) (by decide +kernel)
theorem m_728 : Jvm.Cond.methodLink "TrapHartModel" 87 y_mo_complete ∈ uW := uW_t (i := 728) (by decide +kernel) (by decide +kernel)
theorem m_730 : Jvm.Cond.instanceMethod y_mo_complete ∈ uW := uW_t (i := 730) (by decide +kernel) (by decide +kernel)
theorem m_731 : Jvm.Cond.code y_mo_complete prog_10_method_8_code 3 (Option.none : Option Jvm.ClassFile.FieldType) ∈ uW := uW_t (i := 731) (by decide +kernel) (by decide +kernel)
theorem m_732 : Jvm.Cond.methodLink "TrapHartModel" 91 y_mo_half ∈ uW := uW_t (i := 732) (by decide +kernel) (by decide +kernel)
theorem m_733 : Jvm.Cond.static y_mo_half ∈ uW := uW_t (i := 733) (by decide +kernel) (by decide +kernel)
theorem m_734 : Jvm.Cond.code y_mo_half prog_10_method_15_code 8 (Option.some Jvm.ClassFile.FieldType.long) ∈ uW := uW_t (i := 734) (by decide +kernel) (by decide +kernel)
theorem m_735 : Jvm.Cond.constantLong "TrapHartModel" 84 (4294967295 : Int64) ∈ uW := uW_t (i := 735) (by decide +kernel) (by decide +kernel)
theorem m_736 : Jvm.Cond.methodLink "TrapHartLaw" 82 y_mo_access ∈ uW := uW_t (i := 736) (by decide +kernel) (by decide +kernel)
theorem m_737 : Jvm.Cond.instanceMethod y_mo_access ∈ uW := uW_t (i := 737) (by decide +kernel) (by decide +kernel)
theorem m_738 : Jvm.Cond.selects "TrapHartModel" y_mo_access y_mo_access ∈ uW := uW_t (i := 738) (by decide +kernel) (by decide +kernel)
theorem m_739 : Jvm.Cond.code y_mo_access prog_10_method_19_code 6 (Option.some Jvm.ClassFile.FieldType.long) ∈ uW := uW_t (i := 739) (by decide +kernel) (by decide +kernel)
theorem m_740 : Jvm.Cond.methodLink "TrapHartModel" 105 y_mo_trap ∈ uW := uW_t (i := 740) (by decide +kernel) (by decide +kernel)
theorem m_742 : Jvm.Cond.instanceMethod y_mo_trap ∈ uW := uW_t (i := 742) (by decide +kernel) (by decide +kernel)
theorem m_743 : Jvm.Cond.code y_mo_trap prog_10_method_29_code 5 (Option.none : Option Jvm.ClassFile.FieldType) ∈ uW := uW_t (i := 743) (by decide +kernel) (by decide +kernel)
theorem m_744 : Jvm.Cond.constant "TrapHartModel" 151 (-2147483648 : Int32) ∈ uW := uW_t (i := 744) (by decide +kernel) (by decide +kernel)
theorem m_745 : Jvm.Cond.methodLink "TrapHartModel" 152 y_mo_bit ∈ uW := uW_t (i := 745) (by decide +kernel) (by decide +kernel)
theorem m_747 : Jvm.Cond.instanceMethod y_mo_bit ∈ uW := uW_t (i := 747) (by decide +kernel) (by decide +kernel)
theorem m_748 : Jvm.Cond.code y_mo_bit prog_10_method_27_code 2 (Option.some Jvm.ClassFile.FieldType.boolean) ∈ uW := uW_t (i := 748) (by decide +kernel) (by decide +kernel)
theorem m_749 : Jvm.Cond.methodLink "TrapHartModel" 155 y_mo_setBit ∈ uW := uW_t (i := 749) (by decide +kernel) (by decide +kernel)
theorem m_751 : Jvm.Cond.instanceMethod y_mo_setBit ∈ uW := uW_t (i := 751) (by decide +kernel) (by decide +kernel)
theorem m_752 : Jvm.Cond.code y_mo_setBit prog_10_method_28_code 3 (Option.none : Option Jvm.ClassFile.FieldType) ∈ uW := uW_t (i := 752) (by decide +kernel) (by decide +kernel)
theorem m_753 : Jvm.Cond.methodLink "TrapHartModel" 146 y_mo_mixed ∈ uW := uW_t (i := 753) (by decide +kernel) (by decide +kernel)
theorem m_754 : Jvm.Cond.static y_mo_mixed ∈ uW := uW_t (i := 754) (by decide +kernel) (by decide +kernel)
theorem m_755 : Jvm.Cond.code y_mo_mixed prog_10_method_25_code 3 (Option.some Jvm.ClassFile.FieldType.int) ∈ uW := uW_t (i := 755) (by decide +kernel) (by decide +kernel)
theorem m_756 : Jvm.Cond.methodLink "TrapHartLaw" 85 y_mo_read ∈ uW := uW_t (i := 756) (by decide +kernel) (by decide +kernel)
theorem m_757 : Jvm.Cond.instanceMethod y_mo_read ∈ uW := uW_t (i := 757) (by decide +kernel) (by decide +kernel)
theorem m_758 : Jvm.Cond.selects "TrapHartModel" y_mo_read y_mo_read ∈ uW := uW_t (i := 758) (by decide +kernel) (by decide +kernel)
theorem m_759 : Jvm.Cond.code y_mo_read prog_10_method_24_code 2 (Option.some Jvm.ClassFile.FieldType.int) ∈ uW := uW_t (i := 759) (by decide +kernel) (by decide +kernel)
theorem m_760 : Jvm.Cond.methodLink "TrapHartModel" 128 y_mo_barRegister ∈ uW := uW_t (i := 760) (by decide +kernel) (by decide +kernel)
theorem m_762 : Jvm.Cond.instanceMethod y_mo_barRegister ∈ uW := uW_t (i := 762) (by decide +kernel) (by decide +kernel)
theorem m_763 : Jvm.Cond.code y_mo_barRegister prog_10_method_23_code 2 (Option.some Jvm.ClassFile.FieldType.int) ∈ uW := uW_t (i := 763) (by decide +kernel) (by decide +kernel)
theorem m_764 : Jvm.Cond.methodLink "TrapHartModel" 125 y_mo_isRegister ∈ uW := uW_t (i := 764) (by decide +kernel) (by decide +kernel)
theorem m_765 : Jvm.Cond.static y_mo_isRegister ∈ uW := uW_t (i := 765) (by decide +kernel) (by decide +kernel)
theorem m_766 : Jvm.Cond.code y_mo_isRegister prog_10_method_22_code 1 (Option.some Jvm.ClassFile.FieldType.boolean) ∈ uW := uW_t (i := 766) (by decide +kernel) (by decide +kernel)
theorem m_767 : Jvm.Cond.methodLink "TrapHartModel" 143 y_mo_interrupts ∈ uW := uW_t (i := 767) (by decide +kernel) (by decide +kernel)
theorem m_769 : Jvm.Cond.instanceMethod y_mo_interrupts ∈ uW := uW_t (i := 769) (by decide +kernel) (by decide +kernel)
theorem m_770 : Jvm.Cond.code y_mo_interrupts prog_10_method_21_code 2 (Option.some Jvm.ClassFile.FieldType.int) ∈ uW := uW_t (i := 770) (by decide +kernel) (by decide +kernel)
theorem m_771 : Jvm.Cond.methodLink "TrapHartModel" 117 y_mo_late ∈ uW := uW_t (i := 771) (by decide +kernel) (by decide +kernel)
theorem m_773 : Jvm.Cond.instanceMethod y_mo_late ∈ uW := uW_t (i := 773) (by decide +kernel) (by decide +kernel)
theorem m_774 : Jvm.Cond.code y_mo_late prog_10_method_20_code 1 (Option.some Jvm.ClassFile.FieldType.boolean) ∈ uW := uW_t (i := 774) (by decide +kernel) (by decide +kernel)
theorem m_775 : Jvm.Cond.constantLong "TrapHartModel" 112 (-9223372036854775808 : Int64) ∈ uW := uW_t (i := 775) (by decide +kernel) (by decide +kernel)
theorem m_776 : Jvm.Cond.methodLink "TrapHartModel" 121 y_mo_calls ∈ uW := uW_t (i := 776) (by decide +kernel) (by decide +kernel)
theorem m_778 : Jvm.Cond.instanceMethod y_mo_calls ∈ uW := uW_t (i := 778) (by decide +kernel) (by decide +kernel)
theorem m_779 : Jvm.Cond.code y_mo_calls prog_10_method_9_code 4 (Option.some Jvm.ClassFile.FieldType.boolean) ∈ uW := uW_t (i := 779) (by decide +kernel) (by decide +kernel)
theorem m_780 : Jvm.Cond.methodLink "TrapHartLaw" 88 y_mo_write ∈ uW := uW_t (i := 780) (by decide +kernel) (by decide +kernel)
theorem m_781 : Jvm.Cond.instanceMethod y_mo_write ∈ uW := uW_t (i := 781) (by decide +kernel) (by decide +kernel)
theorem m_782 : Jvm.Cond.selects "TrapHartModel" y_mo_write y_mo_write ∈ uW := uW_t (i := 782) (by decide +kernel) (by decide +kernel)
theorem m_783 : Jvm.Cond.code y_mo_write prog_10_method_26_code 3 (Option.none : Option Jvm.ClassFile.FieldType) ∈ uW := uW_t (i := 783) (by decide +kernel) (by decide +kernel)
theorem m_784 : Jvm.Cond.constant "TrapHartModel" 150 (46079 : Int32) ∈ uW := uW_t (i := 784) (by decide +kernel) (by decide +kernel)
theorem m_785 : Jvm.Cond.methodLink "TrapHartLaw" 111 y_mo_due ∈ uW := uW_t (i := 785) (by decide +kernel) (by decide +kernel)
theorem m_786 : Jvm.Cond.instanceMethod y_mo_due ∈ uW := uW_t (i := 786) (by decide +kernel) (by decide +kernel)
theorem m_787 : Jvm.Cond.selects "TrapHartModel" y_mo_due y_mo_due ∈ uW := uW_t (i := 787) (by decide +kernel) (by decide +kernel)
theorem m_788 : Jvm.Cond.code y_mo_due prog_10_method_32_code 1 (Option.some Jvm.ClassFile.FieldType.int) ∈ uW := uW_t (i := 788) (by decide +kernel) (by decide +kernel)
theorem m_789 : Jvm.Cond.methodLink "TrapHartModel" 161 y_mo_dueNow ∈ uW := uW_t (i := 789) (by decide +kernel) (by decide +kernel)
theorem m_791 : Jvm.Cond.instanceMethod y_mo_dueNow ∈ uW := uW_t (i := 791) (by decide +kernel) (by decide +kernel)
theorem m_792 : Jvm.Cond.code y_mo_dueNow prog_10_method_31_code 6 (Option.some Jvm.ClassFile.FieldType.int) ∈ uW := uW_t (i := 792) (by decide +kernel) (by decide +kernel)
theorem m_793 : Jvm.Cond.methodLink "TrapHartModel" 158 y_mo_order ∈ uW := uW_t (i := 793) (by decide +kernel) (by decide +kernel)
theorem m_794 : Jvm.Cond.static y_mo_order ∈ uW := uW_t (i := 794) (by decide +kernel) (by decide +kernel)
theorem m_795 : Jvm.Cond.code y_mo_order prog_10_method_30_code 1 (Option.some Jvm.ClassFile.FieldType.int) ∈ uW := uW_t (i := 795) (by decide +kernel) (by decide +kernel)
theorem m_796 : Jvm.Cond.methodLink "TrapHartLaw" 92 y_mo_step ∈ uW := uW_t (i := 796) (by decide +kernel) (by decide +kernel)
theorem m_797 : Jvm.Cond.instanceMethod y_mo_step ∈ uW := uW_t (i := 797) (by decide +kernel) (by decide +kernel)
theorem m_798 : Jvm.Cond.selects "TrapHartModel" y_mo_step y_mo_step ∈ uW := uW_t (i := 798) (by decide +kernel) (by decide +kernel)
theorem m_799 : Jvm.Cond.code y_mo_step prog_10_method_33_code 2 (Option.some Jvm.ClassFile.FieldType.int) ∈ uW := uW_t (i := 799) (by decide +kernel) (by decide +kernel)
theorem m_800 : Jvm.Cond.methodLink "TrapHartLaw" 95 y_mo_raise ∈ uW := uW_t (i := 800) (by decide +kernel) (by decide +kernel)
theorem m_801 : Jvm.Cond.instanceMethod y_mo_raise ∈ uW := uW_t (i := 801) (by decide +kernel) (by decide +kernel)
theorem m_802 : Jvm.Cond.selects "TrapHartModel" y_mo_raise y_mo_raise ∈ uW := uW_t (i := 802) (by decide +kernel) (by decide +kernel)
theorem m_803 : Jvm.Cond.code y_mo_raise prog_10_method_34_code 3 (Option.some Jvm.ClassFile.FieldType.int) ∈ uW := uW_t (i := 803) (by decide +kernel) (by decide +kernel)
theorem m_804 : Jvm.Cond.methodLink "TrapHartLaw" 99 y_mo_leave ∈ uW := uW_t (i := 804) (by decide +kernel) (by decide +kernel)
theorem m_805 : Jvm.Cond.instanceMethod y_mo_leave ∈ uW := uW_t (i := 805) (by decide +kernel) (by decide +kernel)
theorem m_806 : Jvm.Cond.selects "TrapHartModel" y_mo_leave y_mo_leave ∈ uW := uW_t (i := 806) (by decide +kernel) (by decide +kernel)
theorem m_807 : Jvm.Cond.code y_mo_leave prog_10_method_35_code 2 (Option.some Jvm.ClassFile.FieldType.int) ∈ uW := uW_t (i := 807) (by decide +kernel) (by decide +kernel)
theorem m_808 : Jvm.Cond.methodLink "TrapHartLaw" 103 y_mo_privilege ∈ uW := uW_t (i := 808) (by decide +kernel) (by decide +kernel)
theorem m_809 : Jvm.Cond.instanceMethod y_mo_privilege ∈ uW := uW_t (i := 809) (by decide +kernel) (by decide +kernel)
theorem m_810 : Jvm.Cond.selects "TrapHartModel" y_mo_privilege y_mo_privilege ∈ uW := uW_t (i := 810) (by decide +kernel) (by decide +kernel)
theorem m_811 : Jvm.Cond.code y_mo_privilege prog_10_method_36_code 1 (Option.some Jvm.ClassFile.FieldType.int) ∈ uW := uW_t (i := 811) (by decide +kernel) (by decide +kernel)
theorem m_812 : Jvm.Cond.methodLink "TrapHartLaw" 107 y_mo_pc ∈ uW := uW_t (i := 812) (by decide +kernel) (by decide +kernel)
theorem m_813 : Jvm.Cond.instanceMethod y_mo_pc ∈ uW := uW_t (i := 813) (by decide +kernel) (by decide +kernel)
theorem m_814 : Jvm.Cond.selects "TrapHartModel" y_mo_pc y_mo_pc ∈ uW := uW_t (i := 814) (by decide +kernel) (by decide +kernel)
theorem m_815 : Jvm.Cond.code y_mo_pc prog_10_method_37_code 1 (Option.some Jvm.ClassFile.FieldType.int) ∈ uW := uW_t (i := 815) (by decide +kernel) (by decide +kernel)
theorem m_816 : Jvm.Cond.methodLink "TrapHartLaw" 114 y_mo_source ∈ uW := uW_t (i := 816) (by decide +kernel) (by decide +kernel)
theorem m_817 : Jvm.Cond.instanceMethod y_mo_source ∈ uW := uW_t (i := 817) (by decide +kernel) (by decide +kernel)
theorem m_818 : Jvm.Cond.selects "TrapHartModel" y_mo_source y_mo_source ∈ uW := uW_t (i := 818) (by decide +kernel) (by decide +kernel)
theorem m_819 : Jvm.Cond.code y_mo_source prog_10_method_38_code 2 (Option.some Jvm.ClassFile.FieldType.int) ∈ uW := uW_t (i := 819) (by decide +kernel) (by decide +kernel)
theorem m_820 : Jvm.Cond.arrayClass Jvm.ClassFile.FieldType.long ∈ uW := uW_t (i := 820) (by decide +kernel) (by decide +kernel)
theorem ms_0 : Jvm.Cond.selects "TrapHart$Sources" y_so_drive y_so_drive ∈ uW := uW_s (i := 0) (by decide +kernel) (by decide +kernel)
theorem ms_1 : Jvm.Cond.selects "TrapHart$Sources" y_so_forward y_so_forward ∈ uW := uW_s (i := 1) (by decide +kernel) (by decide +kernel)
theorem ms_2 : Jvm.Cond.selects "TrapHart" y_th_enterTrap y_th_enterTrap ∈ uW := uW_s (i := 2) (by decide +kernel) (by decide +kernel)
theorem ms_3 : Jvm.Cond.selects "TrapHart$Registers" y_rg_isDelegated y_rg_isDelegated ∈ uW := uW_s (i := 3) (by decide +kernel) (by decide +kernel)
theorem ms_4 : Jvm.Cond.selects "TrapHart$Status" y_st_enterSupervisor y_st_enterSupervisor ∈ uW := uW_s (i := 4) (by decide +kernel) (by decide +kernel)
theorem ms_5 : Jvm.Cond.selects "TrapHart$Status" y_st_enterMachine y_st_enterMachine ∈ uW := uW_s (i := 5) (by decide +kernel) (by decide +kernel)
theorem ms_6 : Jvm.Cond.selects "TrapHart$Handler" y_hd_take y_hd_take ∈ uW := uW_s (i := 6) (by decide +kernel) (by decide +kernel)
theorem ms_7 : Jvm.Cond.selects "TrapHart$Devices" y_dv_writeWord y_dv_writeWord ∈ uW := uW_s (i := 7) (by decide +kernel) (by decide +kernel)
theorem ms_8 : Jvm.Cond.selects "TrapHart$Context" y_ct_complete y_ct_complete ∈ uW := uW_s (i := 8) (by decide +kernel) (by decide +kernel)
theorem ms_9 : Jvm.Cond.selects "TrapHart$Sources" y_so_release y_so_release ∈ uW := uW_s (i := 9) (by decide +kernel) (by decide +kernel)
theorem ms_10 : Jvm.Cond.selects "TrapHart$Devices" y_dv_readWord y_dv_readWord ∈ uW := uW_s (i := 10) (by decide +kernel) (by decide +kernel)
theorem ms_11 : Jvm.Cond.selects "TrapHart$Context" y_ct_claim y_ct_claim ∈ uW := uW_s (i := 11) (by decide +kernel) (by decide +kernel)
theorem ms_12 : Jvm.Cond.selects "TrapHart$Sources" y_so_best y_so_best ∈ uW := uW_s (i := 12) (by decide +kernel) (by decide +kernel)
theorem ms_13 : Jvm.Cond.selects "TrapHart$Sources" y_so_serve y_so_serve ∈ uW := uW_s (i := 13) (by decide +kernel) (by decide +kernel)
theorem ms_14 : Jvm.Cond.selects "TrapHart" y_th_interruptToTake y_th_interruptToTake ∈ uW := uW_s (i := 14) (by decide +kernel) (by decide +kernel)
theorem ms_15 : Jvm.Cond.selects "TrapHart$Registers" y_rg_pendingInterrupts y_rg_pendingInterrupts ∈ uW := uW_s (i := 15) (by decide +kernel) (by decide +kernel)
theorem ms_16 : Jvm.Cond.selects "TrapHart$Devices" y_dv_interrupts y_dv_interrupts ∈ uW := uW_s (i := 16) (by decide +kernel) (by decide +kernel)
theorem ms_17 : Jvm.Cond.selects "TrapHart$Timer" y_tm_isReached y_tm_isReached ∈ uW := uW_s (i := 17) (by decide +kernel) (by decide +kernel)
theorem ms_18 : Jvm.Cond.selects "TrapHart$Context" y_ct_isCalling y_ct_isCalling ∈ uW := uW_s (i := 18) (by decide +kernel) (by decide +kernel)
theorem ms_19 : Jvm.Cond.selects "TrapHart$Status" y_st_machineOpen y_st_machineOpen ∈ uW := uW_s (i := 19) (by decide +kernel) (by decide +kernel)
theorem ms_20 : Jvm.Cond.selects "TrapHart$Status" y_st_supervisorOpen y_st_supervisorOpen ∈ uW := uW_s (i := 20) (by decide +kernel) (by decide +kernel)
theorem ms_22 : Jvm.Cond.selects "TrapHart" y_th_refuseRegister y_th_refuseRegister ∈ uW := uW_s (i := 22) (by decide +kernel) (by decide +kernel)
theorem ms_23 : Jvm.Cond.selects "TrapHart$Registers" y_rg_valueOf y_rg_valueOf ∈ uW := uW_s (i := 23) (by decide +kernel) (by decide +kernel)
theorem ms_24 : Jvm.Cond.selects "TrapHart$Registers" y_rg_change y_rg_change ∈ uW := uW_s (i := 24) (by decide +kernel) (by decide +kernel)
theorem ms_25 : Jvm.Cond.selects "TrapHart$Registers" y_rg_changeOfMachine y_rg_changeOfMachine ∈ uW := uW_s (i := 25) (by decide +kernel) (by decide +kernel)
theorem ms_26 : Jvm.Cond.selects "TrapHart$Status" y_st_changeByMachine y_st_changeByMachine ∈ uW := uW_s (i := 26) (by decide +kernel) (by decide +kernel)
theorem ms_27 : Jvm.Cond.selects "TrapHart$Registers" y_rg_changeOfSupervisor y_rg_changeOfSupervisor ∈ uW := uW_s (i := 27) (by decide +kernel) (by decide +kernel)
theorem ms_28 : Jvm.Cond.selects "TrapHart$Status" y_st_changeBySupervisor y_st_changeBySupervisor ∈ uW := uW_s (i := 28) (by decide +kernel) (by decide +kernel)
theorem ms_29 : Jvm.Cond.selects "TrapHart$Status" y_st_leaveMachine y_st_leaveMachine ∈ uW := uW_s (i := 29) (by decide +kernel) (by decide +kernel)
theorem ms_30 : Jvm.Cond.selects "TrapHart$Status" y_st_leaveSupervisor y_st_leaveSupervisor ∈ uW := uW_s (i := 30) (by decide +kernel) (by decide +kernel)
theorem ms_31 : Jvm.Cond.selects "TrapHartModel" y_mo_forward y_mo_forward ∈ uW := uW_s (i := 31) (by decide +kernel) (by decide +kernel)
theorem ms_32 : Jvm.Cond.selects "TrapHartModel" y_mo_pendingSet y_mo_pendingSet ∈ uW := uW_s (i := 32) (by decide +kernel) (by decide +kernel)
theorem ms_33 : Jvm.Cond.selects "TrapHartModel" y_mo_take y_mo_take ∈ uW := uW_s (i := 33) (by decide +kernel) (by decide +kernel)
theorem ms_34 : Jvm.Cond.selects "TrapHartModel" y_mo_claim y_mo_claim ∈ uW := uW_s (i := 34) (by decide +kernel) (by decide +kernel)
theorem ms_35 : Jvm.Cond.selects "TrapHartModel" y_mo_isEnabled y_mo_isEnabled ∈ uW := uW_s (i := 35) (by decide +kernel) (by decide +kernel)
theorem ms_36 : Jvm.Cond.selects "TrapHartModel" y_mo_put y_mo_put ∈ uW := uW_s (i := 36) (by decide +kernel) (by decide +kernel)
theorem ms_37 : Jvm.Cond.selects "TrapHartModel" y_mo_complete y_mo_complete ∈ uW := uW_s (i := 37) (by decide +kernel) (by decide +kernel)
theorem ms_38 : Jvm.Cond.selects "TrapHartModel" y_mo_trap y_mo_trap ∈ uW := uW_s (i := 38) (by decide +kernel) (by decide +kernel)
theorem ms_39 : Jvm.Cond.selects "TrapHartModel" y_mo_bit y_mo_bit ∈ uW := uW_s (i := 39) (by decide +kernel) (by decide +kernel)
theorem ms_40 : Jvm.Cond.selects "TrapHartModel" y_mo_setBit y_mo_setBit ∈ uW := uW_s (i := 40) (by decide +kernel) (by decide +kernel)
theorem ms_41 : Jvm.Cond.selects "TrapHartModel" y_mo_barRegister y_mo_barRegister ∈ uW := uW_s (i := 41) (by decide +kernel) (by decide +kernel)
theorem ms_42 : Jvm.Cond.selects "TrapHartModel" y_mo_interrupts y_mo_interrupts ∈ uW := uW_s (i := 42) (by decide +kernel) (by decide +kernel)
theorem ms_43 : Jvm.Cond.selects "TrapHartModel" y_mo_late y_mo_late ∈ uW := uW_s (i := 43) (by decide +kernel) (by decide +kernel)
theorem ms_44 : Jvm.Cond.selects "TrapHartModel" y_mo_calls y_mo_calls ∈ uW := uW_s (i := 44) (by decide +kernel) (by decide +kernel)
theorem ms_45 : Jvm.Cond.selects "TrapHartModel" y_mo_dueNow y_mo_dueNow ∈ uW := uW_s (i := 45) (by decide +kernel) (by decide +kernel)
/-- the links to members of a nest mate -/
def nL : List Cond := [Jvm.Cond.methodLinkNest "TrapHart" 9 y_dv_init "TrapHart", Jvm.Cond.methodLinkNest "TrapHart$Devices" 9 y_so_init "TrapHart", Jvm.Cond.fieldLinkNest "TrapHart$Devices" 44 "TrapHart$Sources" "priority" "[I" "TrapHart", Jvm.Cond.fieldLinkNest "TrapHart" 148 "TrapHart$Sources" "waiting" "[I" "TrapHart", Jvm.Cond.fieldLinkNest "TrapHart" 152 "TrapHart$Sources" "server" "[I" "TrapHart", Jvm.Cond.fieldLinkNest "TrapHart" 43 "TrapHart$Sources" "pending" "I" "TrapHart", Jvm.Cond.fieldLinkNest "TrapHart$Devices" 48 "TrapHart$Sources" "pending" "I" "TrapHart", Jvm.Cond.methodLinkNest "TrapHart$Devices" 20 y_ct_init "TrapHart", Jvm.Cond.fieldLinkNest "TrapHart$Devices" 52 "TrapHart$Context" "enabledSet" "I" "TrapHart", Jvm.Cond.fieldLinkNest "TrapHart$Devices" 55 "TrapHart$Context" "threshold" "I" "TrapHart", Jvm.Cond.methodLinkNest "TrapHart$Devices" 32 y_tm_init "TrapHart", Jvm.Cond.fieldLinkNest "TrapHart" 57 "TrapHart$Timer" "time" "J" "TrapHart", Jvm.Cond.fieldLinkNest "TrapHart$Devices" 69 "TrapHart$Timer" "time" "J" "TrapHart", Jvm.Cond.fieldLinkNest "TrapHart$Devices" 65 "TrapHart$Timer" "compare" "J" "TrapHart", Jvm.Cond.fieldLinkNest "TrapHart$Devices" 62 "TrapHart$Timer" "soft" "I" "TrapHart", Jvm.Cond.fieldLinkNest "TrapHart" 34 "TrapHart$Devices" "sources" "LTrapHart$Sources;" "TrapHart", Jvm.Cond.fieldLinkNest "TrapHart" 53 "TrapHart$Devices" "timer" "LTrapHart$Timer;" "TrapHart", Jvm.Cond.methodLinkNest "TrapHart" 20 y_rg_init "TrapHart", Jvm.Cond.methodLinkNest "TrapHart$Registers" 11 y_st_init "TrapHart", Jvm.Cond.fieldLinkNest "TrapHart$Registers" 56 "TrapHart$Status" "bits" "I" "TrapHart", Jvm.Cond.methodLinkNest "TrapHart$Registers" 20 y_hd_init "TrapHart", Jvm.Cond.fieldLinkNest "TrapHart$Registers" 62 "TrapHart$Handler" "vector" "I" "TrapHart", Jvm.Cond.fieldLinkNest "TrapHart$Registers" 65 "TrapHart$Handler" "comeBack" "I" "TrapHart", Jvm.Cond.fieldLinkNest "TrapHart" 132 "TrapHart$Handler" "comeBack" "I" "TrapHart", Jvm.Cond.fieldLinkNest "TrapHart$Registers" 68 "TrapHart$Handler" "cause" "I" "TrapHart", Jvm.Cond.fieldLinkNest "TrapHart" 119 "TrapHart$Registers" "status" "LTrapHart$Status;" "TrapHart", Jvm.Cond.fieldLinkNest "TrapHart" 128 "TrapHart$Registers" "machine" "LTrapHart$Handler;" "TrapHart", Jvm.Cond.fieldLinkNest "TrapHart" 140 "TrapHart$Registers" "supervisor" "LTrapHart$Handler;" "TrapHart", Jvm.Cond.fieldLinkNest "TrapHart" 181 "TrapHart$Registers" "delegatedInterrupts" "I" "TrapHart", Jvm.Cond.fieldLinkNest "TrapHart" 174 "TrapHart$Registers" "enabled" "I" "TrapHart", Jvm.Cond.methodLinkNest "TrapHart" 38 y_so_drive "TrapHart", Jvm.Cond.methodLinkNest "TrapHart$Sources" 27 y_th_hasBit "TrapHart", Jvm.Cond.methodLinkNest "TrapHart" 63 y_dv_faultAt "TrapHart", Jvm.Cond.methodLinkNest "TrapHart" 190 y_rg_isDelegated "TrapHart", Jvm.Cond.methodLinkNest "TrapHart$Registers" 36 y_th_hasBit "TrapHart", Jvm.Cond.methodLinkNest "TrapHart" 194 y_st_enterSupervisor "TrapHart", Jvm.Cond.methodLinkNest "TrapHart$Status" 13 y_th_replaceBits "TrapHart", Jvm.Cond.methodLinkNest "TrapHart" 197 y_st_enterMachine "TrapHart", Jvm.Cond.methodLinkNest "TrapHart" 200 y_hd_take "TrapHart", Jvm.Cond.methodLinkNest "TrapHart" 79 y_dv_writeWord "TrapHart", Jvm.Cond.methodLinkNest "TrapHart$Devices" 73 y_ct_complete "TrapHart", Jvm.Cond.methodLinkNest "TrapHart$Context" 30 y_th_hasBit "TrapHart", Jvm.Cond.methodLinkNest "TrapHart$Context" 36 y_so_release "TrapHart", Jvm.Cond.methodLinkNest "TrapHart$Devices" 76 y_tm_withLower "TrapHart", Jvm.Cond.methodLinkNest "TrapHart$Devices" 80 y_tm_withHigher "TrapHart", Jvm.Cond.methodLinkNest "TrapHart" 70 y_dv_readWord "TrapHart", Jvm.Cond.methodLinkNest "TrapHart$Devices" 58 y_ct_claim "TrapHart", Jvm.Cond.methodLinkNest "TrapHart$Context" 20 y_so_best "TrapHart", Jvm.Cond.methodLinkNest "TrapHart$Context" 26 y_so_serve "TrapHart", Jvm.Cond.methodLinkNest "TrapHart" 171 y_rg_pendingInterrupts "TrapHart", Jvm.Cond.methodLinkNest "TrapHart$Registers" 50 y_dv_interrupts "TrapHart", Jvm.Cond.methodLinkNest "TrapHart$Devices" 83 y_tm_isReached "TrapHart", Jvm.Cond.methodLinkNest "TrapHart$Devices" 87 y_ct_isCalling "TrapHart", Jvm.Cond.methodLinkNest "TrapHart" 177 y_st_machineOpen "TrapHart", Jvm.Cond.methodLinkNest "TrapHart" 184 y_rg_firstInterrupt "TrapHart", Jvm.Cond.methodLinkNest "TrapHart" 187 y_st_supervisorOpen "TrapHart", Jvm.Cond.methodLinkNest "TrapHart" 159 y_rg_isThere "TrapHart", Jvm.Cond.methodLinkNest "TrapHart" 168 y_rg_isOfMachine "TrapHart", Jvm.Cond.methodLinkNest "TrapHart" 97 y_rg_valueOf "TrapHart", Jvm.Cond.methodLinkNest "TrapHart" 100 y_rg_change "TrapHart", Jvm.Cond.methodLinkNest "TrapHart$Registers" 85 y_st_changeByMachine "TrapHart", Jvm.Cond.methodLinkNest "TrapHart$Registers" 90 y_st_changeBySupervisor "TrapHart", Jvm.Cond.methodLinkNest "TrapHart$Registers" 93 y_th_replaceBits "TrapHart", Jvm.Cond.methodLinkNest "TrapHart" 123 y_st_leaveMachine "TrapHart", Jvm.Cond.methodLinkNest "TrapHart" 137 y_st_leaveSupervisor "TrapHart"]
theorem nL_in : ∀ w ∈ nL, w ∈ tables_1 := by
  intro w h
  simp only [nL, List.mem_cons, List.not_mem_nil, or_false] at h
  rcases h with h | h | h | h | h | h | h | h | h | h | h | h | h | h | h | h | h | h | h | h | h | h | h | h | h | h | h | h | h | h | h | h | h | h | h | h | h | h | h | h | h | h | h | h | h | h | h | h | h | h | h | h | h | h | h | h | h | h | h | h | h | h | h | h | h
  · subst h; exact List.mem_of_getElem? (i := 28) (by decide +kernel)
  · subst h; exact List.mem_of_getElem? (i := 34) (by decide +kernel)
  · subst h; exact List.mem_of_getElem? (i := 41) (by decide +kernel)
  · subst h; exact List.mem_of_getElem? (i := 43) (by decide +kernel)
  · subst h; exact List.mem_of_getElem? (i := 45) (by decide +kernel)
  · subst h; exact List.mem_of_getElem? (i := 47) (by decide +kernel)
  · subst h; exact List.mem_of_getElem? (i := 49) (by decide +kernel)
  · subst h; exact List.mem_of_getElem? (i := 66) (by decide +kernel)
  · subst h; exact List.mem_of_getElem? (i := 73) (by decide +kernel)
  · subst h; exact List.mem_of_getElem? (i := 75) (by decide +kernel)
  · subst h; exact List.mem_of_getElem? (i := 87) (by decide +kernel)
  · subst h; exact List.mem_of_getElem? (i := 93) (by decide +kernel)
  · subst h; exact List.mem_of_getElem? (i := 94) (by decide +kernel)
  · subst h; exact List.mem_of_getElem? (i := 96) (by decide +kernel)
  · subst h; exact List.mem_of_getElem? (i := 98) (by decide +kernel)
  · subst h; exact List.mem_of_getElem? (i := 107) (by decide +kernel)
  · subst h; exact List.mem_of_getElem? (i := 111) (by decide +kernel)
  · subst h; exact List.mem_of_getElem? (i := 123) (by decide +kernel)
  · subst h; exact List.mem_of_getElem? (i := 129) (by decide +kernel)
  · subst h; exact List.mem_of_getElem? (i := 134) (by decide +kernel)
  · subst h; exact List.mem_of_getElem? (i := 140) (by decide +kernel)
  · subst h; exact List.mem_of_getElem? (i := 145) (by decide +kernel)
  · subst h; exact List.mem_of_getElem? (i := 147) (by decide +kernel)
  · subst h; exact List.mem_of_getElem? (i := 148) (by decide +kernel)
  · subst h; exact List.mem_of_getElem? (i := 150) (by decide +kernel)
  · subst h; exact List.mem_of_getElem? (i := 160) (by decide +kernel)
  · subst h; exact List.mem_of_getElem? (i := 162) (by decide +kernel)
  · subst h; exact List.mem_of_getElem? (i := 164) (by decide +kernel)
  · subst h; exact List.mem_of_getElem? (i := 167) (by decide +kernel)
  · subst h; exact List.mem_of_getElem? (i := 169) (by decide +kernel)
  · subst h; exact List.mem_of_getElem? (i := 205) (by decide +kernel)
  · subst h; exact List.mem_of_getElem? (i := 209) (by decide +kernel)
  · subst h; exact List.mem_of_getElem? (i := 220) (by decide +kernel)
  · subst h; exact List.mem_of_getElem? (i := 236) (by decide +kernel)
  · subst h; exact List.mem_of_getElem? (i := 240) (by decide +kernel)
  · subst h; exact List.mem_of_getElem? (i := 241) (by decide +kernel)
  · subst h; exact List.mem_of_getElem? (i := 245) (by decide +kernel)
  · subst h; exact List.mem_of_getElem? (i := 248) (by decide +kernel)
  · subst h; exact List.mem_of_getElem? (i := 252) (by decide +kernel)
  · subst h; exact List.mem_of_getElem? (i := 258) (by decide +kernel)
  · subst h; exact List.mem_of_getElem? (i := 263) (by decide +kernel)
  · subst h; exact List.mem_of_getElem? (i := 267) (by decide +kernel)
  · subst h; exact List.mem_of_getElem? (i := 268) (by decide +kernel)
  · subst h; exact List.mem_of_getElem? (i := 272) (by decide +kernel)
  · subst h; exact List.mem_of_getElem? (i := 277) (by decide +kernel)
  · subst h; exact List.mem_of_getElem? (i := 280) (by decide +kernel)
  · subst h; exact List.mem_of_getElem? (i := 284) (by decide +kernel)
  · subst h; exact List.mem_of_getElem? (i := 288) (by decide +kernel)
  · subst h; exact List.mem_of_getElem? (i := 292) (by decide +kernel)
  · subst h; exact List.mem_of_getElem? (i := 305) (by decide +kernel)
  · subst h; exact List.mem_of_getElem? (i := 309) (by decide +kernel)
  · subst h; exact List.mem_of_getElem? (i := 313) (by decide +kernel)
  · subst h; exact List.mem_of_getElem? (i := 318) (by decide +kernel)
  · subst h; exact List.mem_of_getElem? (i := 322) (by decide +kernel)
  · subst h; exact List.mem_of_getElem? (i := 326) (by decide +kernel)
  · subst h; exact List.mem_of_getElem? (i := 331) (by decide +kernel)
  · subst h; exact List.mem_of_getElem? (i := 493) (by decide +kernel)
  · subst h; exact List.mem_of_getElem? (i := 512) (by decide +kernel)
  · subst h; exact List.mem_of_getElem? (i := 531) (by decide +kernel)
  · subst h; exact List.mem_of_getElem? (i := 543) (by decide +kernel)
  · subst h; exact List.mem_of_getElem? (i := 552) (by decide +kernel)
  · subst h; exact List.mem_of_getElem? (i := 561) (by decide +kernel)
  · subst h; exact List.mem_of_getElem? (i := 565) (by decide +kernel)
  · subst h; exact List.mem_of_getElem? (i := 583) (by decide +kernel)
  · subst h; exact List.mem_of_getElem? (i := 587) (by decide +kernel)
theorem n_28 : Jvm.Cond.methodLinkNest "TrapHart" 9 y_dv_init "TrapHart" ∈ nL := List.mem_of_getElem? (i := 0) rfl
theorem n_34 : Jvm.Cond.methodLinkNest "TrapHart$Devices" 9 y_so_init "TrapHart" ∈ nL := List.mem_of_getElem? (i := 1) rfl
theorem n_41 : Jvm.Cond.fieldLinkNest "TrapHart$Devices" 44 "TrapHart$Sources" "priority" "[I" "TrapHart" ∈ nL := List.mem_of_getElem? (i := 2) rfl
theorem n_43 : Jvm.Cond.fieldLinkNest "TrapHart" 148 "TrapHart$Sources" "waiting" "[I" "TrapHart" ∈ nL := List.mem_of_getElem? (i := 3) rfl
theorem n_45 : Jvm.Cond.fieldLinkNest "TrapHart" 152 "TrapHart$Sources" "server" "[I" "TrapHart" ∈ nL := List.mem_of_getElem? (i := 4) rfl
theorem n_47 : Jvm.Cond.fieldLinkNest "TrapHart" 43 "TrapHart$Sources" "pending" "I" "TrapHart" ∈ nL := List.mem_of_getElem? (i := 5) rfl
theorem n_49 : Jvm.Cond.fieldLinkNest "TrapHart$Devices" 48 "TrapHart$Sources" "pending" "I" "TrapHart" ∈ nL := List.mem_of_getElem? (i := 6) rfl
theorem n_66 : Jvm.Cond.methodLinkNest "TrapHart$Devices" 20 y_ct_init "TrapHart" ∈ nL := List.mem_of_getElem? (i := 7) rfl
theorem n_73 : Jvm.Cond.fieldLinkNest "TrapHart$Devices" 52 "TrapHart$Context" "enabledSet" "I" "TrapHart" ∈ nL := List.mem_of_getElem? (i := 8) rfl
theorem n_75 : Jvm.Cond.fieldLinkNest "TrapHart$Devices" 55 "TrapHart$Context" "threshold" "I" "TrapHart" ∈ nL := List.mem_of_getElem? (i := 9) rfl
theorem n_87 : Jvm.Cond.methodLinkNest "TrapHart$Devices" 32 y_tm_init "TrapHart" ∈ nL := List.mem_of_getElem? (i := 10) rfl
theorem n_93 : Jvm.Cond.fieldLinkNest "TrapHart" 57 "TrapHart$Timer" "time" "J" "TrapHart" ∈ nL := List.mem_of_getElem? (i := 11) rfl
theorem n_94 : Jvm.Cond.fieldLinkNest "TrapHart$Devices" 69 "TrapHart$Timer" "time" "J" "TrapHart" ∈ nL := List.mem_of_getElem? (i := 12) rfl
theorem n_96 : Jvm.Cond.fieldLinkNest "TrapHart$Devices" 65 "TrapHart$Timer" "compare" "J" "TrapHart" ∈ nL := List.mem_of_getElem? (i := 13) rfl
theorem n_98 : Jvm.Cond.fieldLinkNest "TrapHart$Devices" 62 "TrapHart$Timer" "soft" "I" "TrapHart" ∈ nL := List.mem_of_getElem? (i := 14) rfl
theorem n_107 : Jvm.Cond.fieldLinkNest "TrapHart" 34 "TrapHart$Devices" "sources" "LTrapHart$Sources;" "TrapHart" ∈ nL := List.mem_of_getElem? (i := 15) rfl
theorem n_111 : Jvm.Cond.fieldLinkNest "TrapHart" 53 "TrapHart$Devices" "timer" "LTrapHart$Timer;" "TrapHart" ∈ nL := List.mem_of_getElem? (i := 16) rfl
theorem n_123 : Jvm.Cond.methodLinkNest "TrapHart" 20 y_rg_init "TrapHart" ∈ nL := List.mem_of_getElem? (i := 17) rfl
theorem n_129 : Jvm.Cond.methodLinkNest "TrapHart$Registers" 11 y_st_init "TrapHart" ∈ nL := List.mem_of_getElem? (i := 18) rfl
theorem n_134 : Jvm.Cond.fieldLinkNest "TrapHart$Registers" 56 "TrapHart$Status" "bits" "I" "TrapHart" ∈ nL := List.mem_of_getElem? (i := 19) rfl
theorem n_140 : Jvm.Cond.methodLinkNest "TrapHart$Registers" 20 y_hd_init "TrapHart" ∈ nL := List.mem_of_getElem? (i := 20) rfl
theorem n_145 : Jvm.Cond.fieldLinkNest "TrapHart$Registers" 62 "TrapHart$Handler" "vector" "I" "TrapHart" ∈ nL := List.mem_of_getElem? (i := 21) rfl
theorem n_147 : Jvm.Cond.fieldLinkNest "TrapHart$Registers" 65 "TrapHart$Handler" "comeBack" "I" "TrapHart" ∈ nL := List.mem_of_getElem? (i := 22) rfl
theorem n_148 : Jvm.Cond.fieldLinkNest "TrapHart" 132 "TrapHart$Handler" "comeBack" "I" "TrapHart" ∈ nL := List.mem_of_getElem? (i := 23) rfl
theorem n_150 : Jvm.Cond.fieldLinkNest "TrapHart$Registers" 68 "TrapHart$Handler" "cause" "I" "TrapHart" ∈ nL := List.mem_of_getElem? (i := 24) rfl
theorem n_160 : Jvm.Cond.fieldLinkNest "TrapHart" 119 "TrapHart$Registers" "status" "LTrapHart$Status;" "TrapHart" ∈ nL := List.mem_of_getElem? (i := 25) rfl
theorem n_162 : Jvm.Cond.fieldLinkNest "TrapHart" 128 "TrapHart$Registers" "machine" "LTrapHart$Handler;" "TrapHart" ∈ nL := List.mem_of_getElem? (i := 26) rfl
theorem n_164 : Jvm.Cond.fieldLinkNest "TrapHart" 140 "TrapHart$Registers" "supervisor" "LTrapHart$Handler;" "TrapHart" ∈ nL := List.mem_of_getElem? (i := 27) rfl
theorem n_167 : Jvm.Cond.fieldLinkNest "TrapHart" 181 "TrapHart$Registers" "delegatedInterrupts" "I" "TrapHart" ∈ nL := List.mem_of_getElem? (i := 28) rfl
theorem n_169 : Jvm.Cond.fieldLinkNest "TrapHart" 174 "TrapHart$Registers" "enabled" "I" "TrapHart" ∈ nL := List.mem_of_getElem? (i := 29) rfl
theorem n_205 : Jvm.Cond.methodLinkNest "TrapHart" 38 y_so_drive "TrapHart" ∈ nL := List.mem_of_getElem? (i := 30) rfl
theorem n_209 : Jvm.Cond.methodLinkNest "TrapHart$Sources" 27 y_th_hasBit "TrapHart" ∈ nL := List.mem_of_getElem? (i := 31) rfl
theorem n_220 : Jvm.Cond.methodLinkNest "TrapHart" 63 y_dv_faultAt "TrapHart" ∈ nL := List.mem_of_getElem? (i := 32) rfl
theorem n_236 : Jvm.Cond.methodLinkNest "TrapHart" 190 y_rg_isDelegated "TrapHart" ∈ nL := List.mem_of_getElem? (i := 33) rfl
theorem n_240 : Jvm.Cond.methodLinkNest "TrapHart$Registers" 36 y_th_hasBit "TrapHart" ∈ nL := List.mem_of_getElem? (i := 34) rfl
theorem n_241 : Jvm.Cond.methodLinkNest "TrapHart" 194 y_st_enterSupervisor "TrapHart" ∈ nL := List.mem_of_getElem? (i := 35) rfl
theorem n_245 : Jvm.Cond.methodLinkNest "TrapHart$Status" 13 y_th_replaceBits "TrapHart" ∈ nL := List.mem_of_getElem? (i := 36) rfl
theorem n_248 : Jvm.Cond.methodLinkNest "TrapHart" 197 y_st_enterMachine "TrapHart" ∈ nL := List.mem_of_getElem? (i := 37) rfl
theorem n_252 : Jvm.Cond.methodLinkNest "TrapHart" 200 y_hd_take "TrapHart" ∈ nL := List.mem_of_getElem? (i := 38) rfl
theorem n_258 : Jvm.Cond.methodLinkNest "TrapHart" 79 y_dv_writeWord "TrapHart" ∈ nL := List.mem_of_getElem? (i := 39) rfl
theorem n_263 : Jvm.Cond.methodLinkNest "TrapHart$Devices" 73 y_ct_complete "TrapHart" ∈ nL := List.mem_of_getElem? (i := 40) rfl
theorem n_267 : Jvm.Cond.methodLinkNest "TrapHart$Context" 30 y_th_hasBit "TrapHart" ∈ nL := List.mem_of_getElem? (i := 41) rfl
theorem n_268 : Jvm.Cond.methodLinkNest "TrapHart$Context" 36 y_so_release "TrapHart" ∈ nL := List.mem_of_getElem? (i := 42) rfl
theorem n_272 : Jvm.Cond.methodLinkNest "TrapHart$Devices" 76 y_tm_withLower "TrapHart" ∈ nL := List.mem_of_getElem? (i := 43) rfl
theorem n_277 : Jvm.Cond.methodLinkNest "TrapHart$Devices" 80 y_tm_withHigher "TrapHart" ∈ nL := List.mem_of_getElem? (i := 44) rfl
theorem n_280 : Jvm.Cond.methodLinkNest "TrapHart" 70 y_dv_readWord "TrapHart" ∈ nL := List.mem_of_getElem? (i := 45) rfl
theorem n_284 : Jvm.Cond.methodLinkNest "TrapHart$Devices" 58 y_ct_claim "TrapHart" ∈ nL := List.mem_of_getElem? (i := 46) rfl
theorem n_288 : Jvm.Cond.methodLinkNest "TrapHart$Context" 20 y_so_best "TrapHart" ∈ nL := List.mem_of_getElem? (i := 47) rfl
theorem n_292 : Jvm.Cond.methodLinkNest "TrapHart$Context" 26 y_so_serve "TrapHart" ∈ nL := List.mem_of_getElem? (i := 48) rfl
theorem n_305 : Jvm.Cond.methodLinkNest "TrapHart" 171 y_rg_pendingInterrupts "TrapHart" ∈ nL := List.mem_of_getElem? (i := 49) rfl
theorem n_309 : Jvm.Cond.methodLinkNest "TrapHart$Registers" 50 y_dv_interrupts "TrapHart" ∈ nL := List.mem_of_getElem? (i := 50) rfl
theorem n_313 : Jvm.Cond.methodLinkNest "TrapHart$Devices" 83 y_tm_isReached "TrapHart" ∈ nL := List.mem_of_getElem? (i := 51) rfl
theorem n_318 : Jvm.Cond.methodLinkNest "TrapHart$Devices" 87 y_ct_isCalling "TrapHart" ∈ nL := List.mem_of_getElem? (i := 52) rfl
theorem n_322 : Jvm.Cond.methodLinkNest "TrapHart" 177 y_st_machineOpen "TrapHart" ∈ nL := List.mem_of_getElem? (i := 53) rfl
theorem n_326 : Jvm.Cond.methodLinkNest "TrapHart" 184 y_rg_firstInterrupt "TrapHart" ∈ nL := List.mem_of_getElem? (i := 54) rfl
theorem n_331 : Jvm.Cond.methodLinkNest "TrapHart" 187 y_st_supervisorOpen "TrapHart" ∈ nL := List.mem_of_getElem? (i := 55) rfl
theorem n_493 : Jvm.Cond.methodLinkNest "TrapHart" 159 y_rg_isThere "TrapHart" ∈ nL := List.mem_of_getElem? (i := 56) rfl
theorem n_512 : Jvm.Cond.methodLinkNest "TrapHart" 168 y_rg_isOfMachine "TrapHart" ∈ nL := List.mem_of_getElem? (i := 57) rfl
theorem n_531 : Jvm.Cond.methodLinkNest "TrapHart" 97 y_rg_valueOf "TrapHart" ∈ nL := List.mem_of_getElem? (i := 58) rfl
theorem n_543 : Jvm.Cond.methodLinkNest "TrapHart" 100 y_rg_change "TrapHart" ∈ nL := List.mem_of_getElem? (i := 59) rfl
theorem n_552 : Jvm.Cond.methodLinkNest "TrapHart$Registers" 85 y_st_changeByMachine "TrapHart" ∈ nL := List.mem_of_getElem? (i := 60) rfl
theorem n_561 : Jvm.Cond.methodLinkNest "TrapHart$Registers" 90 y_st_changeBySupervisor "TrapHart" ∈ nL := List.mem_of_getElem? (i := 61) rfl
theorem n_565 : Jvm.Cond.methodLinkNest "TrapHart$Registers" 93 y_th_replaceBits "TrapHart" ∈ nL := List.mem_of_getElem? (i := 62) rfl
theorem n_583 : Jvm.Cond.methodLinkNest "TrapHart" 123 y_st_leaveMachine "TrapHart" ∈ nL := List.mem_of_getElem? (i := 63) rfl
theorem n_587 : Jvm.Cond.methodLinkNest "TrapHart" 137 y_st_leaveSupervisor "TrapHart" ∈ nL := List.mem_of_getElem? (i := 64) rfl
theorem iu_ct : ∀ w ∈ u_ws R_ct T_ct 4, w ∈ uW := fun w h => by
  obtain ⟨k, hk, rfl⟩ := List.mem_map.mp h
  have hk := List.mem_range.mp hk
  match k, hk with
  | 0, _ => exact m_76
  | 1, _ => exact m_78
  | 2, _ => exact m_80
  | 3, _ => exact m_82
  | k + 4, h => exact absurd h (by omega)
theorem iu_dv : ∀ w ∈ u_ws R_dv T_dv 4, w ∈ uW := fun w h => by
  obtain ⟨k, hk, rfl⟩ := List.mem_map.mp h
  have hk := List.mem_range.mp hk
  match k, hk with
  | 0, _ => exact m_112
  | 1, _ => exact m_114
  | 2, _ => exact m_116
  | 3, _ => exact m_118
  | k + 4, h => exact absurd h (by omega)
theorem iu_hd : ∀ w ∈ u_ws R_hd T_hd 3, w ∈ uW := fun w h => by
  obtain ⟨k, hk, rfl⟩ := List.mem_map.mp h
  have hk := List.mem_range.mp hk
  match k, hk with
  | 0, _ => exact m_151
  | 1, _ => exact m_153
  | 2, _ => exact m_155
  | k + 3, h => exact absurd h (by omega)
theorem iu_rg : ∀ w ∈ u_ws R_rg T_rg 8, w ∈ uW := fun w h => by
  obtain ⟨k, hk, rfl⟩ := List.mem_map.mp h
  have hk := List.mem_range.mp hk
  match k, hk with
  | 0, _ => exact m_171
  | 1, _ => exact m_173
  | 2, _ => exact m_175
  | 3, _ => exact m_177
  | 4, _ => exact m_179
  | 5, _ => exact m_181
  | 6, _ => exact m_183
  | 7, _ => exact m_185
  | k + 8, h => exact absurd h (by omega)
theorem iu_so : ∀ w ∈ u_ws R_so T_so 6, w ∈ uW := fun w h => by
  obtain ⟨k, hk, rfl⟩ := List.mem_map.mp h
  have hk := List.mem_range.mp hk
  match k, hk with
  | 0, _ => exact m_50
  | 1, _ => exact m_52
  | 2, _ => exact m_54
  | 3, _ => exact m_56
  | 4, _ => exact m_58
  | 5, _ => exact m_60
  | k + 6, h => exact absurd h (by omega)
theorem iu_st : ∀ w ∈ u_ws R_st T_st 1, w ∈ uW := fun w h => by
  obtain ⟨k, hk, rfl⟩ := List.mem_map.mp h
  have hk := List.mem_range.mp hk
  match k, hk with
  | 0, _ => exact m_135
  | k + 1, h => exact absurd h (by omega)
theorem iu_tm : ∀ w ∈ u_ws R_tm T_tm 3, w ∈ uW := fun w h => by
  obtain ⟨k, hk, rfl⟩ := List.mem_map.mp h
  have hk := List.mem_range.mp hk
  match k, hk with
  | 0, _ => exact m_99
  | 1, _ => exact m_101
  | 2, _ => exact m_103
  | k + 3, h => exact absurd h (by omega)
theorem iu_th : ∀ w ∈ u_ws R_th T_th 4, w ∈ uW := fun w h => by
  obtain ⟨k, hk, rfl⟩ := List.mem_map.mp h
  have hk := List.mem_range.mp hk
  match k, hk with
  | 0, _ => exact m_192
  | 1, _ => exact m_194
  | 2, _ => exact m_196
  | 3, _ => exact m_198
  | k + 4, h => exact absurd h (by omega)
theorem iu_mo : ∀ w ∈ u_ws R_mo T_mo 22, w ∈ uW := fun w h => by
  obtain ⟨k, hk, rfl⟩ := List.mem_map.mp h
  have hk := List.mem_range.mp hk
  match k, hk with
  | 0, _ => exact m_628
  | 1, _ => exact m_630
  | 2, _ => exact m_632
  | 3, _ => exact m_634
  | 4, _ => exact m_636
  | 5, _ => exact m_638
  | 6, _ => exact m_640
  | 7, _ => exact m_642
  | 8, _ => exact m_644
  | 9, _ => exact m_646
  | 10, _ => exact m_648
  | 11, _ => exact m_650
  | 12, _ => exact m_652
  | 13, _ => exact m_654
  | 14, _ => exact m_656
  | 15, _ => exact m_658
  | 16, _ => exact m_660
  | 17, _ => exact m_662
  | 18, _ => exact m_664
  | 19, _ => exact m_666
  | 20, _ => exact m_668
  | 21, _ => exact m_670
  | k + 22, h => exact absurd h (by omega)
/-- the classes whose objects the worlds hold -/
abbrev cls : List vw_C := [(R_ct, T_ct, 4), (R_dv, T_dv, 4), (R_hd, T_hd, 3), (R_rg, T_rg, 8), (R_so, T_so, 6), (R_st, T_st, 1), (R_tm, T_tm, 3), (R_th, T_th, 4), (R_mo, T_mo, 22)]
