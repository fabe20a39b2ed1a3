section
-- ===== PART A: goes FIRST, ahead of the names: the tables' words, and 'selects' of the private methods out of them =====
/-- a private method of a class that the tables say can be made, by its rows of tables_1 -/
def lw_okq (q : MethodName × Nat) : Prop := (q.1.cls ≠ "java/lang/invoke/MethodHandle" ∧ q.1.cls ≠ "java/lang/invoke/VarHandle") ∧ Cond.instantiable q.1.cls q.2 ∈ tables_1 ∧ Cond.privateMethod q.1 ∈ tables_1 ∧ Cond.instanceMethod q.1 ∈ tables_1
theorem lw_p0 : lw_okq (⟨"TrapHart$Sources", "drive", "(I)V"⟩, 6) := ⟨⟨by decide +kernel, by decide +kernel⟩, List.mem_of_getElem? (i := 33) (by decide +kernel), List.mem_of_getElem? (i := 206) (by decide +kernel), List.mem_of_getElem? (i := 207) (by decide +kernel)⟩
theorem lw_p1 : lw_okq (⟨"TrapHart$Sources", "forward", "(I)V"⟩, 6) := ⟨⟨by decide +kernel, by decide +kernel⟩, List.mem_of_getElem? (i := 33) (by decide +kernel), List.mem_of_getElem? (i := 213) (by decide +kernel), List.mem_of_getElem? (i := 214) (by decide +kernel)⟩
theorem lw_p2 : lw_okq (⟨"TrapHart", "enterTrap", "(IZ)V"⟩, 4) := ⟨⟨by decide +kernel, by decide +kernel⟩, List.mem_of_getElem? (i := 19) (by decide +kernel), List.mem_of_getElem? (i := 233) (by decide +kernel), List.mem_of_getElem? (i := 234) (by decide +kernel)⟩
theorem lw_p3 : lw_okq (⟨"TrapHart$Registers", "isDelegated", "(IZ)Z"⟩, 8) := ⟨⟨by decide +kernel, by decide +kernel⟩, List.mem_of_getElem? (i := 122) (by decide +kernel), List.mem_of_getElem? (i := 237) (by decide +kernel), List.mem_of_getElem? (i := 238) (by decide +kernel)⟩
theorem lw_p4 : lw_okq (⟨"TrapHart$Status", "enterSupervisor", "(I)V"⟩, 1) := ⟨⟨by decide +kernel, by decide +kernel⟩, List.mem_of_getElem? (i := 128) (by decide +kernel), List.mem_of_getElem? (i := 242) (by decide +kernel), List.mem_of_getElem? (i := 243) (by decide +kernel)⟩
theorem lw_p5 : lw_okq (⟨"TrapHart$Status", "enterMachine", "(I)V"⟩, 1) := ⟨⟨by decide +kernel, by decide +kernel⟩, List.mem_of_getElem? (i := 128) (by decide +kernel), List.mem_of_getElem? (i := 249) (by decide +kernel), List.mem_of_getElem? (i := 250) (by decide +kernel)⟩
theorem lw_p6 : lw_okq (⟨"TrapHart$Handler", "take", "(IIZ)I"⟩, 3) := ⟨⟨by decide +kernel, by decide +kernel⟩, List.mem_of_getElem? (i := 139) (by decide +kernel), List.mem_of_getElem? (i := 253) (by decide +kernel), List.mem_of_getElem? (i := 254) (by decide +kernel)⟩
theorem lw_p7 : lw_okq (⟨"TrapHart$Devices", "writeWord", "(II)V"⟩, 4) := ⟨⟨by decide +kernel, by decide +kernel⟩, List.mem_of_getElem? (i := 27) (by decide +kernel), List.mem_of_getElem? (i := 259) (by decide +kernel), List.mem_of_getElem? (i := 260) (by decide +kernel)⟩
theorem lw_p8 : lw_okq (⟨"TrapHart$Context", "complete", "(I)V"⟩, 4) := ⟨⟨by decide +kernel, by decide +kernel⟩, List.mem_of_getElem? (i := 65) (by decide +kernel), List.mem_of_getElem? (i := 264) (by decide +kernel), List.mem_of_getElem? (i := 265) (by decide +kernel)⟩
theorem lw_p9 : lw_okq (⟨"TrapHart$Sources", "release", "(I)V"⟩, 6) := ⟨⟨by decide +kernel, by decide +kernel⟩, List.mem_of_getElem? (i := 33) (by decide +kernel), List.mem_of_getElem? (i := 269) (by decide +kernel), List.mem_of_getElem? (i := 270) (by decide +kernel)⟩
theorem lw_p10 : lw_okq (⟨"TrapHart$Devices", "readWord", "(I)I"⟩, 4) := ⟨⟨by decide +kernel, by decide +kernel⟩, List.mem_of_getElem? (i := 27) (by decide +kernel), List.mem_of_getElem? (i := 281) (by decide +kernel), List.mem_of_getElem? (i := 282) (by decide +kernel)⟩
theorem lw_p11 : lw_okq (⟨"TrapHart$Context", "claim", "()I"⟩, 4) := ⟨⟨by decide +kernel, by decide +kernel⟩, List.mem_of_getElem? (i := 65) (by decide +kernel), List.mem_of_getElem? (i := 285) (by decide +kernel), List.mem_of_getElem? (i := 286) (by decide +kernel)⟩
theorem lw_p12 : lw_okq (⟨"TrapHart$Sources", "best", "(II)I"⟩, 6) := ⟨⟨by decide +kernel, by decide +kernel⟩, List.mem_of_getElem? (i := 33) (by decide +kernel), List.mem_of_getElem? (i := 289) (by decide +kernel), List.mem_of_getElem? (i := 290) (by decide +kernel)⟩
theorem lw_p13 : lw_okq (⟨"TrapHart$Sources", "serve", "(II)V"⟩, 6) := ⟨⟨by decide +kernel, by decide +kernel⟩, List.mem_of_getElem? (i := 33) (by decide +kernel), List.mem_of_getElem? (i := 293) (by decide +kernel), List.mem_of_getElem? (i := 294) (by decide +kernel)⟩
theorem lw_p14 : lw_okq (⟨"TrapHart", "interruptToTake", "()I"⟩, 4) := ⟨⟨by decide +kernel, by decide +kernel⟩, List.mem_of_getElem? (i := 19) (by decide +kernel), List.mem_of_getElem? (i := 302) (by decide +kernel), List.mem_of_getElem? (i := 303) (by decide +kernel)⟩
theorem lw_p15 : lw_okq (⟨"TrapHart$Registers", "pendingInterrupts", "()I"⟩, 8) := ⟨⟨by decide +kernel, by decide +kernel⟩, List.mem_of_getElem? (i := 122) (by decide +kernel), List.mem_of_getElem? (i := 306) (by decide +kernel), List.mem_of_getElem? (i := 307) (by decide +kernel)⟩
def lw_privs_1 : List (MethodName × Nat) := [(⟨"TrapHart$Sources", "drive", "(I)V"⟩, 6), (⟨"TrapHart$Sources", "forward", "(I)V"⟩, 6), (⟨"TrapHart", "enterTrap", "(IZ)V"⟩, 4), (⟨"TrapHart$Registers", "isDelegated", "(IZ)Z"⟩, 8), (⟨"TrapHart$Status", "enterSupervisor", "(I)V"⟩, 1), (⟨"TrapHart$Status", "enterMachine", "(I)V"⟩, 1), (⟨"TrapHart$Handler", "take", "(IIZ)I"⟩, 3), (⟨"TrapHart$Devices", "writeWord", "(II)V"⟩, 4), (⟨"TrapHart$Context", "complete", "(I)V"⟩, 4), (⟨"TrapHart$Sources", "release", "(I)V"⟩, 6), (⟨"TrapHart$Devices", "readWord", "(I)I"⟩, 4), (⟨"TrapHart$Context", "claim", "()I"⟩, 4), (⟨"TrapHart$Sources", "best", "(II)I"⟩, 6), (⟨"TrapHart$Sources", "serve", "(II)V"⟩, 6), (⟨"TrapHart", "interruptToTake", "()I"⟩, 4), (⟨"TrapHart$Registers", "pendingInterrupts", "()I"⟩, 8)]
theorem lw_r1 : ∀ q ∈ lw_privs_1, lw_okq q := List.forall_mem_cons.mpr ⟨lw_p0, List.forall_mem_cons.mpr ⟨lw_p1, List.forall_mem_cons.mpr ⟨lw_p2, List.forall_mem_cons.mpr ⟨lw_p3, List.forall_mem_cons.mpr ⟨lw_p4, List.forall_mem_cons.mpr ⟨lw_p5, List.forall_mem_cons.mpr ⟨lw_p6, List.forall_mem_cons.mpr ⟨lw_p7, List.forall_mem_cons.mpr ⟨lw_p8, List.forall_mem_cons.mpr ⟨lw_p9, List.forall_mem_cons.mpr ⟨lw_p10, List.forall_mem_cons.mpr ⟨lw_p11, List.forall_mem_cons.mpr ⟨lw_p12, List.forall_mem_cons.mpr ⟨lw_p13, List.forall_mem_cons.mpr ⟨lw_p14, List.forall_mem_cons.mpr ⟨lw_p15, fun _ h => absurd h List.not_mem_nil⟩⟩⟩⟩⟩⟩⟩⟩⟩⟩⟩⟩⟩⟩⟩⟩
theorem lw_p16 : lw_okq (⟨"TrapHart$Devices", "interrupts", "()I"⟩, 4) := ⟨⟨by decide +kernel, by decide +kernel⟩, List.mem_of_getElem? (i := 27) (by decide +kernel), List.mem_of_getElem? (i := 310) (by decide +kernel), List.mem_of_getElem? (i := 311) (by decide +kernel)⟩
theorem lw_p17 : lw_okq (⟨"TrapHart$Timer", "isReached", "()Z"⟩, 3) := ⟨⟨by decide +kernel, by decide +kernel⟩, List.mem_of_getElem? (i := 86) (by decide +kernel), List.mem_of_getElem? (i := 314) (by decide +kernel), List.mem_of_getElem? (i := 315) (by decide +kernel)⟩
theorem lw_p18 : lw_okq (⟨"TrapHart$Context", "isCalling", "()Z"⟩, 4) := ⟨⟨by decide +kernel, by decide +kernel⟩, List.mem_of_getElem? (i := 65) (by decide +kernel), List.mem_of_getElem? (i := 319) (by decide +kernel), List.mem_of_getElem? (i := 320) (by decide +kernel)⟩
theorem lw_p19 : lw_okq (⟨"TrapHart$Status", "machineOpen", "()Z"⟩, 1) := ⟨⟨by decide +kernel, by decide +kernel⟩, List.mem_of_getElem? (i := 128) (by decide +kernel), List.mem_of_getElem? (i := 323) (by decide +kernel), List.mem_of_getElem? (i := 324) (by decide +kernel)⟩
theorem lw_p20 : lw_okq (⟨"TrapHart$Status", "supervisorOpen", "()Z"⟩, 1) := ⟨⟨by decide +kernel, by decide +kernel⟩, List.mem_of_getElem? (i := 128) (by decide +kernel), List.mem_of_getElem? (i := 332) (by decide +kernel), List.mem_of_getElem? (i := 333) (by decide +kernel)⟩
theorem lw_p21 : lw_okq (⟨"java/lang/Throwable", "fillInStackTrace", "(I)Ljava/lang/Throwable;"⟩, 6) := ⟨⟨by decide +kernel, by decide +kernel⟩, List.mem_of_getElem? (i := 399) (by decide +kernel), List.mem_of_getElem? (i := 397) (by decide +kernel), List.mem_of_getElem? (i := 398) (by decide +kernel)⟩
theorem lw_p22 : lw_okq (⟨"TrapHart", "refuseRegister", "(I)V"⟩, 4) := ⟨⟨by decide +kernel, by decide +kernel⟩, List.mem_of_getElem? (i := 19) (by decide +kernel), List.mem_of_getElem? (i := 490) (by decide +kernel), List.mem_of_getElem? (i := 491) (by decide +kernel)⟩
theorem lw_p23 : lw_okq (⟨"TrapHart$Registers", "valueOf", "(I)I"⟩, 8) := ⟨⟨by decide +kernel, by decide +kernel⟩, List.mem_of_getElem? (i := 122) (by decide +kernel), List.mem_of_getElem? (i := 532) (by decide +kernel), List.mem_of_getElem? (i := 533) (by decide +kernel)⟩
theorem lw_p24 : lw_okq (⟨"TrapHart$Registers", "change", "(II)V"⟩, 8) := ⟨⟨by decide +kernel, by decide +kernel⟩, List.mem_of_getElem? (i := 122) (by decide +kernel), List.mem_of_getElem? (i := 544) (by decide +kernel), List.mem_of_getElem? (i := 545) (by decide +kernel)⟩
theorem lw_p25 : lw_okq (⟨"TrapHart$Registers", "changeOfMachine", "(II)V"⟩, 8) := ⟨⟨by decide +kernel, by decide +kernel⟩, List.mem_of_getElem? (i := 122) (by decide +kernel), List.mem_of_getElem? (i := 549) (by decide +kernel), List.mem_of_getElem? (i := 550) (by decide +kernel)⟩
theorem lw_p26 : lw_okq (⟨"TrapHart$Status", "changeByMachine", "(I)V"⟩, 1) := ⟨⟨by decide +kernel, by decide +kernel⟩, List.mem_of_getElem? (i := 128) (by decide +kernel), List.mem_of_getElem? (i := 553) (by decide +kernel), List.mem_of_getElem? (i := 554) (by decide +kernel)⟩
theorem lw_p27 : lw_okq (⟨"TrapHart$Registers", "changeOfSupervisor", "(II)V"⟩, 8) := ⟨⟨by decide +kernel, by decide +kernel⟩, List.mem_of_getElem? (i := 122) (by decide +kernel), List.mem_of_getElem? (i := 558) (by decide +kernel), List.mem_of_getElem? (i := 559) (by decide +kernel)⟩
theorem lw_p28 : lw_okq (⟨"TrapHart$Status", "changeBySupervisor", "(I)V"⟩, 1) := ⟨⟨by decide +kernel, by decide +kernel⟩, List.mem_of_getElem? (i := 128) (by decide +kernel), List.mem_of_getElem? (i := 562) (by decide +kernel), List.mem_of_getElem? (i := 563) (by decide +kernel)⟩
theorem lw_p29 : lw_okq (⟨"TrapHart$Status", "leaveMachine", "()I"⟩, 1) := ⟨⟨by decide +kernel, by decide +kernel⟩, List.mem_of_getElem? (i := 128) (by decide +kernel), List.mem_of_getElem? (i := 584) (by decide +kernel), List.mem_of_getElem? (i := 585) (by decide +kernel)⟩
theorem lw_p30 : lw_okq (⟨"TrapHart$Status", "leaveSupervisor", "()I"⟩, 1) := ⟨⟨by decide +kernel, by decide +kernel⟩, List.mem_of_getElem? (i := 128) (by decide +kernel), List.mem_of_getElem? (i := 588) (by decide +kernel), List.mem_of_getElem? (i := 589) (by decide +kernel)⟩
theorem lw_p31 : lw_okq (⟨"TrapHartModel", "forward", "()V"⟩, 22) := ⟨⟨by decide +kernel, by decide +kernel⟩, List.mem_of_getElem? (i := 600) (by decide +kernel), List.mem_of_getElem? (i := 683) (by decide +kernel), List.mem_of_getElem? (i := 684) (by decide +kernel)⟩
def lw_privs_2 : List (MethodName × Nat) := [(⟨"TrapHart$Devices", "interrupts", "()I"⟩, 4), (⟨"TrapHart$Timer", "isReached", "()Z"⟩, 3), (⟨"TrapHart$Context", "isCalling", "()Z"⟩, 4), (⟨"TrapHart$Status", "machineOpen", "()Z"⟩, 1), (⟨"TrapHart$Status", "supervisorOpen", "()Z"⟩, 1), (⟨"java/lang/Throwable", "fillInStackTrace", "(I)Ljava/lang/Throwable;"⟩, 6), (⟨"TrapHart", "refuseRegister", "(I)V"⟩, 4), (⟨"TrapHart$Registers", "valueOf", "(I)I"⟩, 8), (⟨"TrapHart$Registers", "change", "(II)V"⟩, 8), (⟨"TrapHart$Registers", "changeOfMachine", "(II)V"⟩, 8), (⟨"TrapHart$Status", "changeByMachine", "(I)V"⟩, 1), (⟨"TrapHart$Registers", "changeOfSupervisor", "(II)V"⟩, 8), (⟨"TrapHart$Status", "changeBySupervisor", "(I)V"⟩, 1), (⟨"TrapHart$Status", "leaveMachine", "()I"⟩, 1), (⟨"TrapHart$Status", "leaveSupervisor", "()I"⟩, 1), (⟨"TrapHartModel", "forward", "()V"⟩, 22)]
theorem lw_r2 : ∀ q ∈ lw_privs_2, lw_okq q := List.forall_mem_cons.mpr ⟨lw_p16, List.forall_mem_cons.mpr ⟨lw_p17, List.forall_mem_cons.mpr ⟨lw_p18, List.forall_mem_cons.mpr ⟨lw_p19, List.forall_mem_cons.mpr ⟨lw_p20, List.forall_mem_cons.mpr ⟨lw_p21, List.forall_mem_cons.mpr ⟨lw_p22, List.forall_mem_cons.mpr ⟨lw_p23, List.forall_mem_cons.mpr ⟨lw_p24, List.forall_mem_cons.mpr ⟨lw_p25, List.forall_mem_cons.mpr ⟨lw_p26, List.forall_mem_cons.mpr ⟨lw_p27, List.forall_mem_cons.mpr ⟨lw_p28, List.forall_mem_cons.mpr ⟨lw_p29, List.forall_mem_cons.mpr ⟨lw_p30, List.forall_mem_cons.mpr ⟨lw_p31, fun _ h => absurd h List.not_mem_nil⟩⟩⟩⟩⟩⟩⟩⟩⟩⟩⟩⟩⟩⟩⟩⟩
theorem lw_p32 : lw_okq (⟨"TrapHartModel", "pendingSet", "()I"⟩, 22) := ⟨⟨by decide +kernel, by decide +kernel⟩, List.mem_of_getElem? (i := 600) (by decide +kernel), List.mem_of_getElem? (i := 687) (by decide +kernel), List.mem_of_getElem? (i := 688) (by decide +kernel)⟩
theorem lw_p33 : lw_okq (⟨"TrapHartModel", "take", "(I)I"⟩, 22) := ⟨⟨by decide +kernel, by decide +kernel⟩, List.mem_of_getElem? (i := 600) (by decide +kernel), List.mem_of_getElem? (i := 705) (by decide +kernel), List.mem_of_getElem? (i := 706) (by decide +kernel)⟩
theorem lw_p34 : lw_okq (⟨"TrapHartModel", "claim", "(I)I"⟩, 22) := ⟨⟨by decide +kernel, by decide +kernel⟩, List.mem_of_getElem? (i := 600) (by decide +kernel), List.mem_of_getElem? (i := 712) (by decide +kernel), List.mem_of_getElem? (i := 713) (by decide +kernel)⟩
theorem lw_p35 : lw_okq (⟨"TrapHartModel", "isEnabled", "(II)Z"⟩, 22) := ⟨⟨by decide +kernel, by decide +kernel⟩, List.mem_of_getElem? (i := 600) (by decide +kernel), List.mem_of_getElem? (i := 716) (by decide +kernel), List.mem_of_getElem? (i := 717) (by decide +kernel)⟩
theorem lw_p36 : lw_okq (⟨"TrapHartModel", "put", "(II)V"⟩, 22) := ⟨⟨by decide +kernel, by decide +kernel⟩, List.mem_of_getElem? (i := 600) (by decide +kernel), List.mem_of_getElem? (i := 724) (by decide +kernel), List.mem_of_getElem? (i := 725) (by decide +kernel)⟩
theorem lw_p37 : lw_okq (⟨"TrapHartModel", "complete", "(II)V"⟩, 22) := ⟨⟨by decide +kernel, by decide +kernel⟩, List.mem_of_getElem? (i := 600) (by decide +kernel), List.mem_of_getElem? (i := 729) (by decide +kernel), List.mem_of_getElem? (i := 730) (by decide +kernel)⟩
theorem lw_p38 : lw_okq (⟨"TrapHartModel", "trap", "(IZ)V"⟩, 22) := ⟨⟨by decide +kernel, by decide +kernel⟩, List.mem_of_getElem? (i := 600) (by decide +kernel), List.mem_of_getElem? (i := 741) (by decide +kernel), List.mem_of_getElem? (i := 742) (by decide +kernel)⟩
theorem lw_p39 : lw_okq (⟨"TrapHartModel", "bit", "(I)Z"⟩, 22) := ⟨⟨by decide +kernel, by decide +kernel⟩, List.mem_of_getElem? (i := 600) (by decide +kernel), List.mem_of_getElem? (i := 746) (by decide +kernel), List.mem_of_getElem? (i := 747) (by decide +kernel)⟩
theorem lw_p40 : lw_okq (⟨"TrapHartModel", "setBit", "(IZ)V"⟩, 22) := ⟨⟨by decide +kernel, by decide +kernel⟩, List.mem_of_getElem? (i := 600) (by decide +kernel), List.mem_of_getElem? (i := 750) (by decide +kernel), List.mem_of_getElem? (i := 751) (by decide +kernel)⟩
theorem lw_p41 : lw_okq (⟨"TrapHartModel", "barRegister", "(I)I"⟩, 22) := ⟨⟨by decide +kernel, by decide +kernel⟩, List.mem_of_getElem? (i := 600) (by decide +kernel), List.mem_of_getElem? (i := 761) (by decide +kernel), List.mem_of_getElem? (i := 762) (by decide +kernel)⟩
theorem lw_p42 : lw_okq (⟨"TrapHartModel", "interrupts", "()I"⟩, 22) := ⟨⟨by decide +kernel, by decide +kernel⟩, List.mem_of_getElem? (i := 600) (by decide +kernel), List.mem_of_getElem? (i := 768) (by decide +kernel), List.mem_of_getElem? (i := 769) (by decide +kernel)⟩
theorem lw_p43 : lw_okq (⟨"TrapHartModel", "late", "()Z"⟩, 22) := ⟨⟨by decide +kernel, by decide +kernel⟩, List.mem_of_getElem? (i := 600) (by decide +kernel), List.mem_of_getElem? (i := 772) (by decide +kernel), List.mem_of_getElem? (i := 773) (by decide +kernel)⟩
theorem lw_p44 : lw_okq (⟨"TrapHartModel", "calls", "(I)Z"⟩, 22) := ⟨⟨by decide +kernel, by decide +kernel⟩, List.mem_of_getElem? (i := 600) (by decide +kernel), List.mem_of_getElem? (i := 777) (by decide +kernel), List.mem_of_getElem? (i := 778) (by decide +kernel)⟩
theorem lw_p45 : lw_okq (⟨"TrapHartModel", "dueNow", "()I"⟩, 22) := ⟨⟨by decide +kernel, by decide +kernel⟩, List.mem_of_getElem? (i := 600) (by decide +kernel), List.mem_of_getElem? (i := 790) (by decide +kernel), List.mem_of_getElem? (i := 791) (by decide +kernel)⟩
def lw_privs_3 : List (MethodName × Nat) := [(⟨"TrapHartModel", "pendingSet", "()I"⟩, 22), (⟨"TrapHartModel", "take", "(I)I"⟩, 22), (⟨"TrapHartModel", "claim", "(I)I"⟩, 22), (⟨"TrapHartModel", "isEnabled", "(II)Z"⟩, 22), (⟨"TrapHartModel", "put", "(II)V"⟩, 22), (⟨"TrapHartModel", "complete", "(II)V"⟩, 22), (⟨"TrapHartModel", "trap", "(IZ)V"⟩, 22), (⟨"TrapHartModel", "bit", "(I)Z"⟩, 22), (⟨"TrapHartModel", "setBit", "(IZ)V"⟩, 22), (⟨"TrapHartModel", "barRegister", "(I)I"⟩, 22), (⟨"TrapHartModel", "interrupts", "()I"⟩, 22), (⟨"TrapHartModel", "late", "()Z"⟩, 22), (⟨"TrapHartModel", "calls", "(I)Z"⟩, 22), (⟨"TrapHartModel", "dueNow", "()I"⟩, 22)]
theorem lw_r3 : ∀ q ∈ lw_privs_3, lw_okq q := List.forall_mem_cons.mpr ⟨lw_p32, List.forall_mem_cons.mpr ⟨lw_p33, List.forall_mem_cons.mpr ⟨lw_p34, List.forall_mem_cons.mpr ⟨lw_p35, List.forall_mem_cons.mpr ⟨lw_p36, List.forall_mem_cons.mpr ⟨lw_p37, List.forall_mem_cons.mpr ⟨lw_p38, List.forall_mem_cons.mpr ⟨lw_p39, List.forall_mem_cons.mpr ⟨lw_p40, List.forall_mem_cons.mpr ⟨lw_p41, List.forall_mem_cons.mpr ⟨lw_p42, List.forall_mem_cons.mpr ⟨lw_p43, List.forall_mem_cons.mpr ⟨lw_p44, List.forall_mem_cons.mpr ⟨lw_p45, fun _ h => absurd h List.not_mem_nil⟩⟩⟩⟩⟩⟩⟩⟩⟩⟩⟩⟩⟩⟩
def lw_privs : List (MethodName × Nat) := lw_privs_1 ++ (lw_privs_2 ++ (lw_privs_3))
def lw_tbl : List Cond := k2_sels lw_privs ++ tables_1
theorem lw_privs_ok : ∀ q ∈ lw_privs, lw_okq q := by
  show ∀ q ∈ lw_privs_1 ++ (lw_privs_2 ++ (lw_privs_3)), lw_okq q
  exact List.forall_mem_append.mpr ⟨lw_r1, List.forall_mem_append.mpr ⟨lw_r2, lw_r3⟩⟩
/-- the tables' words that may be handed from caller to callee -/
def uW : List Cond := lw_tbl.filter goodWord
theorem uW_t {w : Cond} {i : Nat} (h : tables_1[i]? = some w) (hg : goodWord w = true) : w ∈ uW := List.mem_filter.mpr ⟨List.mem_append_right _ (List.mem_of_getElem? h), hg⟩
theorem uW_s {w : Cond} {i : Nat} (h : (k2_sels lw_privs)[i]? = some w) (hg : goodWord w = true) : w ∈ uW := List.mem_filter.mpr ⟨List.mem_append_left _ (List.mem_of_getElem? h), hg⟩
theorem uW_lw {w : Cond} (h : w ∈ uW) : w ∈ lw_tbl := (List.mem_filter.mp h).1
theorem uW_good {w : Cond} (h : w ∈ uW) : (w.onTables && w.keeps) = true ∨ ∃ ty, w = .arrayClass ty := good_of_word (List.mem_filter.mp h).2
theorem gd_I {big : List Cond} (hb : ∀ w ∈ uW, w ∈ big) {c : Cond} (hc : c ∈ uW) : GoodIn big (c :: uW) := fun w h => by
  rcases List.mem_cons.mp h with h | h
  · subst h; exact ⟨hb _ hc, uW_good hc⟩
  · exact ⟨hb _ h, uW_good h⟩
theorem gd_V {big : List Cond} (hb : ∀ w ∈ uW, w ∈ big) {own C : String} {i : Nat} {y : MethodName} {c : Cond} (h1 : Cond.methodLink own i y ∈ uW) (h2 : Cond.instanceMethod y ∈ uW) (h3 : Cond.selects C y y ∈ uW) (h4 : Cond.initialized C ∈ uW) (hc : c ∈ uW) : GoodIn big (wsV own i C y (c :: uW)) := fun w h => by
  rcases List.mem_append.mp h with h | h
  · have q : w ∈ uW := by
      rcases List.mem_cons.mp h with h | h
      · subst h; exact h1
      rcases List.mem_cons.mp h with h | h
      · subst h; exact h2
      rcases List.mem_cons.mp h with h | h
      · subst h; exact h3
      rcases List.mem_cons.mp h with h | h
      · subst h; exact h4
      exact absurd h List.not_mem_nil
    exact ⟨hb _ q, uW_good q⟩
  · exact gd_I hb hc w h
theorem gd_S {big : List Cond} (hb : ∀ w ∈ uW, w ∈ big) {own : String} {i : Nat} {y : MethodName} {c : Cond} (h1 : Cond.methodLink own i y ∈ uW) (h2 : Cond.static y ∈ uW) (h4 : Cond.initialized own ∈ uW) (hc : c ∈ uW) : GoodIn big (wsS own i y (c :: uW)) := fun w h => by
  rcases List.mem_append.mp h with h | h
  · have q : w ∈ uW := by
      rcases List.mem_cons.mp h with h | h
      · subst h; exact h1
      rcases List.mem_cons.mp h with h | h
      · subst h; exact h2
      rcases List.mem_cons.mp h with h | h
      · subst h; exact h4
      exact absurd h List.not_mem_nil
    exact ⟨hb _ q, uW_good q⟩
  · exact gd_I hb hc w h
theorem uW_id : ∀ w ∈ uW, w ∈ uW := fun _ h => h
theorem uW_tb : ∀ w ∈ uW, w ∈ lw_tbl := fun _ h => uW_lw h
end
section
def R_ct : String := "TrapHart$Context"
def T_ct : u_T := fun k => match k with
  | 0 => ("TrapHart$Context", "sources", "LTrapHart$Sources;", true)
  | 1 => ("TrapHart$Context", "server", "I", true)
  | 2 => ("TrapHart$Context", "enabledSet", "I", false)
  | _ => ("TrapHart$Context", "threshold", "I", false)
def t_ct : Nat → FieldType := fun k => match k with
  | 0 => .object "TrapHart$Sources"
  | 1 => .int
  | 2 => .int
  | _ => .int
theorem nm_ct : ∀ a, a < 4 → ∀ b, b < 4 → a ≠ b → (T_ct a).2.1 ≠ (T_ct b).2.1 := by decide +kernel
theorem tk_ct : ∀ k, k < 4 → parseFieldDescriptor (T_ct k).2.2.1 = some (t_ct k) := by decide +kernel
def R_dv : String := "TrapHart$Devices"
def T_dv : u_T := fun k => match k with
  | 0 => ("TrapHart$Devices", "sources", "LTrapHart$Sources;", true)
  | 1 => ("TrapHart$Devices", "machine", "LTrapHart$Context;", true)
  | 2 => ("TrapHart$Devices", "supervisor", "LTrapHart$Context;", true)
  | _ => ("TrapHart$Devices", "timer", "LTrapHart$Timer;", true)
def t_dv : Nat → FieldType := fun k => match k with
  | 0 => .object "TrapHart$Sources"
  | 1 => .object "TrapHart$Context"
  | 2 => .object "TrapHart$Context"
  | _ => .object "TrapHart$Timer"
theorem nm_dv : ∀ a, a < 4 → ∀ b, b < 4 → a ≠ b → (T_dv a).2.1 ≠ (T_dv b).2.1 := by decide +kernel
theorem tk_dv : ∀ k, k < 4 → parseFieldDescriptor (T_dv k).2.2.1 = some (t_dv k) := by decide +kernel
def R_hd : String := "TrapHart$Handler"
def T_hd : u_T := fun k => match k with
  | 0 => ("TrapHart$Handler", "vector", "I", false)
  | 1 => ("TrapHart$Handler", "comeBack", "I", false)
  | _ => ("TrapHart$Handler", "cause", "I", false)
def t_hd : Nat → FieldType := fun k => match k with
  | 0 => .int
  | 1 => .int
  | _ => .int
theorem nm_hd : ∀ a, a < 3 → ∀ b, b < 3 → a ≠ b → (T_hd a).2.1 ≠ (T_hd b).2.1 := by decide +kernel
theorem tk_hd : ∀ k, k < 3 → parseFieldDescriptor (T_hd k).2.2.1 = some (t_hd k) := by decide +kernel
def R_rg : String := "TrapHart$Registers"
def T_rg : u_T := fun k => match k with
  | 0 => ("TrapHart$Registers", "devices", "LTrapHart$Devices;", true)
  | 1 => ("TrapHart$Registers", "status", "LTrapHart$Status;", true)
  | 2 => ("TrapHart$Registers", "machine", "LTrapHart$Handler;", true)
  | 3 => ("TrapHart$Registers", "supervisor", "LTrapHart$Handler;", true)
  | 4 => ("TrapHart$Registers", "delegatedExceptions", "I", false)
  | 5 => ("TrapHart$Registers", "delegatedInterrupts", "I", false)
  | 6 => ("TrapHart$Registers", "enabled", "I", false)
  | _ => ("TrapHart$Registers", "written", "I", false)
def t_rg : Nat → FieldType := fun k => match k with
  | 0 => .object "TrapHart$Devices"
  | 1 => .object "TrapHart$Status"
  | 2 => .object "TrapHart$Handler"
  | 3 => .object "TrapHart$Handler"
  | 4 => .int
  | 5 => .int
  | 6 => .int
  | _ => .int
theorem nm_rg : ∀ a, a < 8 → ∀ b, b < 8 → a ≠ b → (T_rg a).2.1 ≠ (T_rg b).2.1 := by decide +kernel
theorem tk_rg : ∀ k, k < 8 → parseFieldDescriptor (T_rg k).2.2.1 = some (t_rg k) := by decide +kernel
def R_so : String := "TrapHart$Sources"
def T_so : u_T := fun k => match k with
  | 0 => ("TrapHart$Sources", "edges", "I", true)
  | 1 => ("TrapHart$Sources", "priority", "[I", true)
  | 2 => ("TrapHart$Sources", "waiting", "[I", true)
  | 3 => ("TrapHart$Sources", "server", "[I", true)
  | 4 => ("TrapHart$Sources", "high", "I", false)
  | _ => ("TrapHart$Sources", "pending", "I", false)
def t_so : Nat → FieldType := fun k => match k with
  | 0 => .int
  | 1 => .array .int
  | 2 => .array .int
  | 3 => .array .int
  | 4 => .int
  | _ => .int
theorem nm_so : ∀ a, a < 6 → ∀ b, b < 6 → a ≠ b → (T_so a).2.1 ≠ (T_so b).2.1 := by decide +kernel
theorem tk_so : ∀ k, k < 6 → parseFieldDescriptor (T_so k).2.2.1 = some (t_so k) := by decide +kernel
def R_st : String := "TrapHart$Status"
def T_st : u_T := fun k => match k with
  | _ => ("TrapHart$Status", "bits", "I", false)
def t_st : Nat → FieldType := fun k => match k with
  | _ => .int
theorem nm_st : ∀ a, a < 1 → ∀ b, b < 1 → a ≠ b → (T_st a).2.1 ≠ (T_st b).2.1 := by decide +kernel
theorem tk_st : ∀ k, k < 1 → parseFieldDescriptor (T_st k).2.2.1 = some (t_st k) := by decide +kernel
def R_tm : String := "TrapHart$Timer"
def T_tm : u_T := fun k => match k with
  | 0 => ("TrapHart$Timer", "time", "J", false)
  | 1 => ("TrapHart$Timer", "compare", "J", false)
  | _ => ("TrapHart$Timer", "soft", "I", false)
def t_tm : Nat → FieldType := fun k => match k with
  | 0 => .long
  | 1 => .long
  | _ => .int
theorem nm_tm : ∀ a, a < 3 → ∀ b, b < 3 → a ≠ b → (T_tm a).2.1 ≠ (T_tm b).2.1 := by decide +kernel
theorem tk_tm : ∀ k, k < 3 → parseFieldDescriptor (T_tm k).2.2.1 = some (t_tm k) := by decide +kernel
def R_th : String := "TrapHart"
def T_th : u_T := fun k => match k with
  | 0 => ("TrapHart", "devices", "LTrapHart$Devices;", true)
  | 1 => ("TrapHart", "registers", "LTrapHart$Registers;", true)
  | 2 => ("TrapHart", "mode", "I", false)
  | _ => ("TrapHart", "counter", "I", false)
def t_th : Nat → FieldType := fun k => match k with
  | 0 => .object "TrapHart$Devices"
  | 1 => .object "TrapHart$Registers"
  | 2 => .int
  | _ => .int
theorem nm_th : ∀ a, a < 4 → ∀ b, b < 4 → a ≠ b → (T_th a).2.1 ≠ (T_th b).2.1 := by decide +kernel
theorem tk_th : ∀ k, k < 4 → parseFieldDescriptor (T_th k).2.2.1 = some (t_th k) := by decide +kernel
def R_mo : String := "TrapHartModel"
def T_mo : u_T := fun k => match k with
  | 0 => ("TrapHartModel", "thrown", "I", false)
  | 1 => ("TrapHartModel", "privilege", "I", false)
  | 2 => ("TrapHartModel", "pc", "I", false)
  | 3 => ("TrapHartModel", "edges", "[Z", false)
  | 4 => ("TrapHartModel", "line", "[Z", false)
  | 5 => ("TrapHartModel", "priority", "[I", false)
  | 6 => ("TrapHartModel", "pending", "[Z", false)
  | 7 => ("TrapHartModel", "served", "[I", false)
  | 8 => ("TrapHartModel", "waiting", "[I", false)
  | 9 => ("TrapHartModel", "enabled", "[I", false)
  | 10 => ("TrapHartModel", "threshold", "[I", false)
  | 11 => ("TrapHartModel", "time", "J", false)
  | 12 => ("TrapHartModel", "compare", "J", false)
  | 13 => ("TrapHartModel", "soft", "I", false)
  | 14 => ("TrapHartModel", "status", "I", false)
  | 15 => ("TrapHartModel", "givenExceptions", "I", false)
  | 16 => ("TrapHartModel", "givenInterrupts", "I", false)
  | 17 => ("TrapHartModel", "wanted", "I", false)
  | 18 => ("TrapHartModel", "written", "I", false)
  | 19 => ("TrapHartModel", "vector", "[I", false)
  | 20 => ("TrapHartModel", "back", "[I", false)
  | _ => ("TrapHartModel", "cause", "[I", false)
def t_mo : Nat → FieldType := fun k => match k with
  | 0 => .int
  | 1 => .int
  | 2 => .int
  | 3 => .array .boolean
  | 4 => .array .boolean
  | 5 => .array .int
  | 6 => .array .boolean
  | 7 => .array .int
  | 8 => .array .int
  | 9 => .array .int
  | 10 => .array .int
  | 11 => .long
  | 12 => .long
  | 13 => .int
  | 14 => .int
  | 15 => .int
  | 16 => .int
  | 17 => .int
  | 18 => .int
  | 19 => .array .int
  | 20 => .array .int
  | _ => .array .int
theorem nm_mo : ∀ a, a < 22 → ∀ b, b < 22 → a ≠ b → (T_mo a).2.1 ≠ (T_mo b).2.1 := by decide +kernel
theorem tk_mo : ∀ k, k < 22 → parseFieldDescriptor (T_mo k).2.2.1 = some (t_mo k) := by decide +kernel
def R_la : String := "TrapHartLaw"
abbrev b_th_init : ByteArray := prog_1_method_1_code
def y_th_init : MethodName := ⟨"TrapHart", "<init>", "(I)V"⟩
abbrev b_th_lines : ByteArray := prog_1_method_2_code
def y_th_lines : MethodName := ⟨"TrapHart", "lines", "(I)I"⟩
abbrev b_th_ticks : ByteArray := prog_1_method_3_code
def y_th_ticks : MethodName := ⟨"TrapHart", "ticks", "(I)V"⟩
abbrev b_th_load : ByteArray := prog_1_method_4_code
def y_th_load : MethodName := ⟨"TrapHart", "load", "(I)I"⟩
abbrev b_th_store : ByteArray := prog_1_method_5_code
def y_th_store : MethodName := ⟨"TrapHart", "store", "(II)V"⟩
abbrev b_th_access : ByteArray := prog_1_method_6_code
def y_th_access : MethodName := ⟨"TrapHart", "access", "(IZI)J"⟩
abbrev b_th_read : ByteArray := prog_1_method_7_code
def y_th_read : MethodName := ⟨"TrapHart", "read", "(I)I"⟩
abbrev b_th_write : ByteArray := prog_1_method_8_code
def y_th_write : MethodName := ⟨"TrapHart", "write", "(II)V"⟩
abbrev b_th_step : ByteArray := prog_1_method_9_code
def y_th_step : MethodName := ⟨"TrapHart", "step", "()I"⟩
abbrev b_th_raise : ByteArray := prog_1_method_10_code
def y_th_raise : MethodName := ⟨"TrapHart", "raise", "(I)I"⟩
abbrev b_th_leave : ByteArray := prog_1_method_11_code
def y_th_leave : MethodName := ⟨"TrapHart", "leave", "(Z)I"⟩
abbrev b_th_privilege : ByteArray := prog_1_method_12_code
def y_th_privilege : MethodName := ⟨"TrapHart", "privilege", "()I"⟩
abbrev b_th_pc : ByteArray := prog_1_method_13_code
def y_th_pc : MethodName := ⟨"TrapHart", "pc", "()I"⟩
abbrev b_th_due : ByteArray := prog_1_method_14_code
def y_th_due : MethodName := ⟨"TrapHart", "due", "()I"⟩
abbrev b_th_source : ByteArray := prog_1_method_15_code
def y_th_source : MethodName := ⟨"TrapHart", "source", "(I)I"⟩
abbrev b_th_refuseWrongOrAbsent : ByteArray := prog_1_method_16_code
def y_th_refuseWrongOrAbsent : MethodName := ⟨"TrapHart", "refuseWrongOrAbsent", "(I)V"⟩
abbrev b_th_refuseRegister : ByteArray := prog_1_method_17_code
def y_th_refuseRegister : MethodName := ⟨"TrapHart", "refuseRegister", "(I)V"⟩
abbrev b_th_causeOf : ByteArray := prog_1_method_18_code
def y_th_causeOf : MethodName := ⟨"TrapHart", "causeOf", "(IZ)I"⟩
abbrev b_th_interruptToTake : ByteArray := prog_1_method_19_code
def y_th_interruptToTake : MethodName := ⟨"TrapHart", "interruptToTake", "()I"⟩
abbrev b_th_enterTrap : ByteArray := prog_1_method_20_code
def y_th_enterTrap : MethodName := ⟨"TrapHart", "enterTrap", "(IZ)V"⟩
abbrev b_th_hasBit : ByteArray := prog_1_method_21_code
def y_th_hasBit : MethodName := ⟨"TrapHart", "hasBit", "(II)Z"⟩
abbrev b_th_replaceBits : ByteArray := prog_1_method_22_code
def y_th_replaceBits : MethodName := ⟨"TrapHart", "replaceBits", "(III)I"⟩
abbrev b_mo_init : ByteArray := prog_10_method_1_code
def y_mo_init : MethodName := ⟨"TrapHartModel", "<init>", "(I)V"⟩
abbrev b_mo_thrown : ByteArray := prog_10_method_2_code
def y_mo_thrown : MethodName := ⟨"TrapHartModel", "thrown", "()I"⟩
abbrev b_mo_forward : ByteArray := prog_10_method_3_code
def y_mo_forward : MethodName := ⟨"TrapHartModel", "forward", "()V"⟩
abbrev b_mo_pendingSet : ByteArray := prog_10_method_4_code
def y_mo_pendingSet : MethodName := ⟨"TrapHartModel", "pendingSet", "()I"⟩
abbrev b_mo_lines : ByteArray := prog_10_method_5_code
def y_mo_lines : MethodName := ⟨"TrapHartModel", "lines", "(I)I"⟩
abbrev b_mo_isEnabled : ByteArray := prog_10_method_6_code
def y_mo_isEnabled : MethodName := ⟨"TrapHartModel", "isEnabled", "(II)Z"⟩
abbrev b_mo_claim : ByteArray := prog_10_method_7_code
def y_mo_claim : MethodName := ⟨"TrapHartModel", "claim", "(I)I"⟩
abbrev b_mo_complete : ByteArray := prog_10_method_8_code
def y_mo_complete : MethodName := ⟨"TrapHartModel", "complete", "(II)V"⟩
abbrev b_mo_calls : ByteArray := prog_10_method_9_code
def y_mo_calls : MethodName := ⟨"TrapHartModel", "calls", "(I)Z"⟩
abbrev b_mo_ticks : ByteArray := prog_10_method_10_code
def y_mo_ticks : MethodName := ⟨"TrapHartModel", "ticks", "(I)V"⟩
abbrev b_mo_wordAt : ByteArray := prog_10_method_11_code
def y_mo_wordAt : MethodName := ⟨"TrapHartModel", "wordAt", "(I)I"⟩
abbrev b_mo_contextAt : ByteArray := prog_10_method_12_code
def y_mo_contextAt : MethodName := ⟨"TrapHartModel", "contextAt", "(I)I"⟩
abbrev b_mo_bar : ByteArray := prog_10_method_13_code
def y_mo_bar : MethodName := ⟨"TrapHartModel", "bar", "(IZ)I"⟩
abbrev b_mo_take : ByteArray := prog_10_method_14_code
def y_mo_take : MethodName := ⟨"TrapHartModel", "take", "(I)I"⟩
abbrev b_mo_half : ByteArray := prog_10_method_15_code
def y_mo_half : MethodName := ⟨"TrapHartModel", "half", "(JIZ)J"⟩
abbrev b_mo_put : ByteArray := prog_10_method_16_code
def y_mo_put : MethodName := ⟨"TrapHartModel", "put", "(II)V"⟩
abbrev b_mo_load : ByteArray := prog_10_method_17_code
def y_mo_load : MethodName := ⟨"TrapHartModel", "load", "(I)I"⟩
abbrev b_mo_store : ByteArray := prog_10_method_18_code
def y_mo_store : MethodName := ⟨"TrapHartModel", "store", "(II)V"⟩
abbrev b_mo_access : ByteArray := prog_10_method_19_code
def y_mo_access : MethodName := ⟨"TrapHartModel", "access", "(IZI)J"⟩
abbrev b_mo_late : ByteArray := prog_10_method_20_code
def y_mo_late : MethodName := ⟨"TrapHartModel", "late", "()Z"⟩
abbrev b_mo_interrupts : ByteArray := prog_10_method_21_code
def y_mo_interrupts : MethodName := ⟨"TrapHartModel", "interrupts", "()I"⟩
abbrev b_mo_isRegister : ByteArray := prog_10_method_22_code
def y_mo_isRegister : MethodName := ⟨"TrapHartModel", "isRegister", "(I)Z"⟩
abbrev b_mo_barRegister : ByteArray := prog_10_method_23_code
def y_mo_barRegister : MethodName := ⟨"TrapHartModel", "barRegister", "(I)I"⟩
abbrev b_mo_read : ByteArray := prog_10_method_24_code
def y_mo_read : MethodName := ⟨"TrapHartModel", "read", "(I)I"⟩
abbrev b_mo_mixed : ByteArray := prog_10_method_25_code
def y_mo_mixed : MethodName := ⟨"TrapHartModel", "mixed", "(III)I"⟩
abbrev b_mo_write : ByteArray := prog_10_method_26_code
def y_mo_write : MethodName := ⟨"TrapHartModel", "write", "(II)V"⟩
abbrev b_mo_bit : ByteArray := prog_10_method_27_code
def y_mo_bit : MethodName := ⟨"TrapHartModel", "bit", "(I)Z"⟩
abbrev b_mo_setBit : ByteArray := prog_10_method_28_code
def y_mo_setBit : MethodName := ⟨"TrapHartModel", "setBit", "(IZ)V"⟩
abbrev b_mo_trap : ByteArray := prog_10_method_29_code
def y_mo_trap : MethodName := ⟨"TrapHartModel", "trap", "(IZ)V"⟩
abbrev b_mo_order : ByteArray := prog_10_method_30_code
def y_mo_order : MethodName := ⟨"TrapHartModel", "order", "(I)I"⟩
abbrev b_mo_dueNow : ByteArray := prog_10_method_31_code
def y_mo_dueNow : MethodName := ⟨"TrapHartModel", "dueNow", "()I"⟩
abbrev b_mo_due : ByteArray := prog_10_method_32_code
def y_mo_due : MethodName := ⟨"TrapHartModel", "due", "()I"⟩
abbrev b_mo_step : ByteArray := prog_10_method_33_code
def y_mo_step : MethodName := ⟨"TrapHartModel", "step", "()I"⟩
abbrev b_mo_raise : ByteArray := prog_10_method_34_code
def y_mo_raise : MethodName := ⟨"TrapHartModel", "raise", "(I)I"⟩
abbrev b_mo_leave : ByteArray := prog_10_method_35_code
def y_mo_leave : MethodName := ⟨"TrapHartModel", "leave", "(Z)I"⟩
abbrev b_mo_privilege : ByteArray := prog_10_method_36_code
def y_mo_privilege : MethodName := ⟨"TrapHartModel", "privilege", "()I"⟩
abbrev b_mo_pc : ByteArray := prog_10_method_37_code
def y_mo_pc : MethodName := ⟨"TrapHartModel", "pc", "()I"⟩
abbrev b_mo_source : ByteArray := prog_10_method_38_code
def y_mo_source : MethodName := ⟨"TrapHartModel", "source", "(I)I"⟩
abbrev b_ct_init : ByteArray := prog_2_method_1_code
def y_ct_init : MethodName := ⟨"TrapHart$Context", "<init>", "(LTrapHart$Sources;I)V"⟩
abbrev b_ct_claim : ByteArray := prog_2_method_2_code
def y_ct_claim : MethodName := ⟨"TrapHart$Context", "claim", "()I"⟩
abbrev b_ct_complete : ByteArray := prog_2_method_3_code
def y_ct_complete : MethodName := ⟨"TrapHart$Context", "complete", "(I)V"⟩
abbrev b_ct_isCalling : ByteArray := prog_2_method_4_code
def y_ct_isCalling : MethodName := ⟨"TrapHart$Context", "isCalling", "()Z"⟩
abbrev b_dv_init : ByteArray := prog_3_method_1_code
def y_dv_init : MethodName := ⟨"TrapHart$Devices", "<init>", "(I)V"⟩
abbrev b_dv_faultAt : ByteArray := prog_3_method_2_code
def y_dv_faultAt : MethodName := ⟨"TrapHart$Devices", "faultAt", "(IZ)I"⟩
abbrev b_dv_isWord : ByteArray := prog_3_method_3_code
def y_dv_isWord : MethodName := ⟨"TrapHart$Devices", "isWord", "(I)Z"⟩
abbrev b_dv_isPriority : ByteArray := prog_3_method_4_code
def y_dv_isPriority : MethodName := ⟨"TrapHart$Devices", "isPriority", "(I)Z"⟩
abbrev b_dv_readWord : ByteArray := prog_3_method_5_code
def y_dv_readWord : MethodName := ⟨"TrapHart$Devices", "readWord", "(I)I"⟩
abbrev b_dv_writeWord : ByteArray := prog_3_method_6_code
def y_dv_writeWord : MethodName := ⟨"TrapHart$Devices", "writeWord", "(II)V"⟩
abbrev b_dv_interrupts : ByteArray := prog_3_method_7_code
def y_dv_interrupts : MethodName := ⟨"TrapHart$Devices", "interrupts", "()I"⟩
abbrev b_hd_init : ByteArray := prog_4_method_1_code
def y_hd_init : MethodName := ⟨"TrapHart$Handler", "<init>", "()V"⟩
abbrev b_hd_take : ByteArray := prog_4_method_2_code
def y_hd_take : MethodName := ⟨"TrapHart$Handler", "take", "(IIZ)I"⟩
abbrev b_rg_init : ByteArray := prog_5_method_1_code
def y_rg_init : MethodName := ⟨"TrapHart$Registers", "<init>", "(LTrapHart$Devices;)V"⟩
abbrev b_rg_isThere : ByteArray := prog_5_method_2_code
def y_rg_isThere : MethodName := ⟨"TrapHart$Registers", "isThere", "(I)Z"⟩
abbrev b_rg_isOfMachine : ByteArray := prog_5_method_3_code
def y_rg_isOfMachine : MethodName := ⟨"TrapHart$Registers", "isOfMachine", "(I)Z"⟩
abbrev b_rg_firstInterrupt : ByteArray := prog_5_method_4_code
def y_rg_firstInterrupt : MethodName := ⟨"TrapHart$Registers", "firstInterrupt", "(I)I"⟩
abbrev b_rg_isDelegated : ByteArray := prog_5_method_5_code
def y_rg_isDelegated : MethodName := ⟨"TrapHart$Registers", "isDelegated", "(IZ)Z"⟩
abbrev b_rg_pendingInterrupts : ByteArray := prog_5_method_6_code
def y_rg_pendingInterrupts : MethodName := ⟨"TrapHart$Registers", "pendingInterrupts", "()I"⟩
abbrev b_rg_valueOf : ByteArray := prog_5_method_7_code
def y_rg_valueOf : MethodName := ⟨"TrapHart$Registers", "valueOf", "(I)I"⟩
abbrev b_rg_change : ByteArray := prog_5_method_8_code
def y_rg_change : MethodName := ⟨"TrapHart$Registers", "change", "(II)V"⟩
abbrev b_rg_changeOfMachine : ByteArray := prog_5_method_9_code
def y_rg_changeOfMachine : MethodName := ⟨"TrapHart$Registers", "changeOfMachine", "(II)V"⟩
abbrev b_rg_changeOfSupervisor : ByteArray := prog_5_method_10_code
def y_rg_changeOfSupervisor : MethodName := ⟨"TrapHart$Registers", "changeOfSupervisor", "(II)V"⟩
abbrev b_so_init : ByteArray := prog_6_method_1_code
def y_so_init : MethodName := ⟨"TrapHart$Sources", "<init>", "(I)V"⟩
abbrev b_so_drive : ByteArray := prog_6_method_2_code
def y_so_drive : MethodName := ⟨"TrapHart$Sources", "drive", "(I)V"⟩
abbrev b_so_forward : ByteArray := prog_6_method_3_code
def y_so_forward : MethodName := ⟨"TrapHart$Sources", "forward", "(I)V"⟩
abbrev b_so_best : ByteArray := prog_6_method_4_code
def y_so_best : MethodName := ⟨"TrapHart$Sources", "best", "(II)I"⟩
abbrev b_so_serve : ByteArray := prog_6_method_5_code
def y_so_serve : MethodName := ⟨"TrapHart$Sources", "serve", "(II)V"⟩
abbrev b_so_release : ByteArray := prog_6_method_6_code
def y_so_release : MethodName := ⟨"TrapHart$Sources", "release", "(I)V"⟩
abbrev b_st_init : ByteArray := prog_7_method_1_code
def y_st_init : MethodName := ⟨"TrapHart$Status", "<init>", "()V"⟩
abbrev b_st_machineOpen : ByteArray := prog_7_method_2_code
def y_st_machineOpen : MethodName := ⟨"TrapHart$Status", "machineOpen", "()Z"⟩
abbrev b_st_supervisorOpen : ByteArray := prog_7_method_3_code
def y_st_supervisorOpen : MethodName := ⟨"TrapHart$Status", "supervisorOpen", "()Z"⟩
abbrev b_st_changeByMachine : ByteArray := prog_7_method_4_code
def y_st_changeByMachine : MethodName := ⟨"TrapHart$Status", "changeByMachine", "(I)V"⟩
abbrev b_st_changeBySupervisor : ByteArray := prog_7_method_5_code
def y_st_changeBySupervisor : MethodName := ⟨"TrapHart$Status", "changeBySupervisor", "(I)V"⟩
abbrev b_st_enterMachine : ByteArray := prog_7_method_6_code
def y_st_enterMachine : MethodName := ⟨"TrapHart$Status", "enterMachine", "(I)V"⟩
abbrev b_st_enterSupervisor : ByteArray := prog_7_method_7_code
def y_st_enterSupervisor : MethodName := ⟨"TrapHart$Status", "enterSupervisor", "(I)V"⟩
abbrev b_st_leaveMachine : ByteArray := prog_7_method_8_code
def y_st_leaveMachine : MethodName := ⟨"TrapHart$Status", "leaveMachine", "()I"⟩
abbrev b_st_leaveSupervisor : ByteArray := prog_7_method_9_code
def y_st_leaveSupervisor : MethodName := ⟨"TrapHart$Status", "leaveSupervisor", "()I"⟩
abbrev b_tm_init : ByteArray := prog_8_method_1_code
def y_tm_init : MethodName := ⟨"TrapHart$Timer", "<init>", "()V"⟩
abbrev b_tm_isReached : ByteArray := prog_8_method_2_code
def y_tm_isReached : MethodName := ⟨"TrapHart$Timer", "isReached", "()Z"⟩
abbrev b_tm_withLower : ByteArray := prog_8_method_3_code
def y_tm_withLower : MethodName := ⟨"TrapHart$Timer", "withLower", "(JI)J"⟩
abbrev b_tm_withHigher : ByteArray := prog_8_method_4_code
def y_tm_withHigher : MethodName := ⟨"TrapHart$Timer", "withHigher", "(JI)J"⟩
abbrev b_la_cell : ByteArray := method_2_code
def y_la_cell : MethodName := ⟨"TrapHartLaw", "cell", "([II)I"⟩
abbrev b_la_ticks : ByteArray := method_3_code
def y_la_ticks : MethodName := ⟨"TrapHartLaw", "ticks", "(LTrapHart;I)I"⟩
abbrev b_la_load : ByteArray := method_4_code
def y_la_load : MethodName := ⟨"TrapHartLaw", "load", "(LTrapHart;I[J)I"⟩
abbrev b_la_store : ByteArray := method_5_code
def y_la_store : MethodName := ⟨"TrapHartLaw", "store", "(LTrapHart;II)I"⟩
abbrev b_la_read : ByteArray := method_6_code
def y_la_read : MethodName := ⟨"TrapHartLaw", "read", "(LTrapHart;I[J)I"⟩
abbrev b_la_write : ByteArray := method_7_code
def y_la_write : MethodName := ⟨"TrapHartLaw", "write", "(LTrapHart;II)I"⟩
abbrev b_la_raise : ByteArray := method_8_code
def y_la_raise : MethodName := ⟨"TrapHartLaw", "raise", "(LTrapHart;I[J)I"⟩
abbrev b_la_leave : ByteArray := method_9_code
def y_la_leave : MethodName := ⟨"TrapHartLaw", "leave", "(LTrapHart;Z[J)I"⟩
abbrev b_la_source : ByteArray := method_10_code
def y_la_source : MethodName := ⟨"TrapHartLaw", "source", "(LTrapHart;I[J)I"⟩
abbrev b_la_law : ByteArray := code
def y_la_law : MethodName := ⟨"TrapHartLaw", "law", "([I)Z"⟩
theorem m_0 : Jvm.Cond.initialized "TrapHartLaw" ∈ uW := uW_t (i := 0) (by decide +kernel) (by decide +kernel)
theorem m_1 : Jvm.Cond.initialized "TrapHart" ∈ uW := uW_t (i := 1) (by decide +kernel) (by decide +kernel)
theorem m_2 : Jvm.Cond.initialized "TrapHart$Devices" ∈ uW := uW_t (i := 2) (by decide +kernel) (by decide +kernel)
theorem m_3 : Jvm.Cond.initialized "TrapHart$Sources" ∈ uW := uW_t (i := 3) (by decide +kernel) (by decide +kernel)
theorem m_4 : Jvm.Cond.initialized "TrapHart$Context" ∈ uW := uW_t (i := 4) (by decide +kernel) (by decide +kernel)
theorem m_5 : Jvm.Cond.initialized "TrapHart$Timer" ∈ uW := uW_t (i := 5) (by decide +kernel) (by decide +kernel)
theorem m_6 : Jvm.Cond.initialized "TrapHart$Registers" ∈ uW := uW_t (i := 6) (by decide +kernel) (by decide +kernel)
theorem m_7 : Jvm.Cond.initialized "TrapHart$Status" ∈ uW := uW_t (i := 7) (by decide +kernel) (by decide +kernel)
theorem m_8 : Jvm.Cond.initialized "TrapHart$Handler" ∈ uW := uW_t (i := 8) (by decide +kernel) (by decide +kernel)
theorem m_9 : Jvm.Cond.initialized "TrapHartModel" ∈ uW := uW_t (i := 9) (by decide +kernel) (by decide +kernel)
theorem m_10 : Jvm.Cond.initialized "java/lang/Throwable" ∈ uW := uW_t (i := 10) (by decide +kernel) (by decide +kernel)
theorem m_11 : Jvm.Cond.initialized "java/lang/Exception" ∈ uW := uW_t (i := 11) (by decide +kernel) (by decide +kernel)
theorem m_12 : Jvm.Cond.initialized "java/lang/RuntimeException" ∈ uW := uW_t (i := 12) (by decide +kernel) (by decide +kernel)
theorem m_13 : Jvm.Cond.initialized "java/lang/IllegalArgumentException" ∈ uW := uW_t (i := 13) (by decide +kernel) (by decide +kernel)
theorem m_14 : Jvm.Cond.initialized "java/lang/IndexOutOfBoundsException" ∈ uW := uW_t (i := 14) (by decide +kernel) (by decide +kernel)
theorem m_15 : Jvm.Cond.initialized "java/lang/UnsupportedOperationException" ∈ uW := uW_t (i := 15) (by decide +kernel) (by decide +kernel)
theorem m_16 : Jvm.Cond.initialized "java/util/NoSuchElementException" ∈ uW := uW_t (i := 16) (by decide +kernel) (by decide +kernel)
theorem m_17 : Jvm.Cond.initialized "java/lang/IllegalStateException" ∈ uW := uW_t (i := 17) (by decide +kernel) (by decide +kernel)
theorem m_18 : Jvm.Cond.classLink "TrapHartLaw" 8 "TrapHart" ∈ uW := uW_t (i := 18) (by decide +kernel) (by decide +kernel)
theorem m_19 : Jvm.Cond.instantiable "TrapHart" 4 ∈ uW := uW_t (i := 19) (by decide +kernel) (by decide +kernel)
theorem m_20 : Jvm.Cond.methodLink "TrapHartLaw" 53 y_th_init ∈ uW := uW_t (i := 20) (by decide +kernel) (by decide +kernel)
theorem m_21 : Jvm.Cond.instanceMethod y_th_init ∈ uW := uW_t (i := 21) (by decide +kernel) (by decide +kernel)
theorem m_22 : Jvm.Cond.code y_th_init prog_1_method_1_code 2 (Option.none : Option Jvm.ClassFile.FieldType) ∈ uW := uW_t (i := 22) (by decide +kernel) (by decide +kernel)
theorem m_23 : Jvm.Cond.methodLink "TrapHart" 1 objectInit ∈ uW := uW_t (i := 23) (by decide +kernel) (by decide +kernel)
theorem m_24 : Jvm.Cond.instanceMethod objectInit ∈ uW := uW_t (i := 24) (by decide +kernel) (by decide +kernel)
theorem m_25 : Jvm.Cond.code objectInit object_method_1_code 1 (Option.none : Option Jvm.ClassFile.FieldType) ∈ uW := uW_t (i := 25) (by decide +kernel) (by decide +kernel)
theorem m_26 : Jvm.Cond.classLink "TrapHart" 7 "TrapHart$Devices" ∈ uW := uW_t (i := 26) (by decide +kernel) (by decide +kernel)
theorem m_27 : Jvm.Cond.instantiable "TrapHart$Devices" 4 ∈ uW := uW_t (i := 27) (by decide +kernel) (by decide +kernel)
theorem m_29 : Jvm.Cond.instanceMethod y_dv_init ∈ uW := uW_t (i := 29) (by decide +kernel) (by decide +kernel)
theorem m_30 : Jvm.Cond.code y_dv_init prog_3_method_1_code 2 (Option.none : Option Jvm.ClassFile.FieldType) ∈ uW := uW_t (i := 30) (by decide +kernel) (by decide +kernel)
theorem m_31 : Jvm.Cond.methodLink "TrapHart$Devices" 1 objectInit ∈ uW := uW_t (i := 31) (by decide +kernel) (by decide +kernel)
theorem m_32 : Jvm.Cond.classLink "TrapHart$Devices" 7 "TrapHart$Sources" ∈ uW := uW_t (i := 32) (by decide +kernel) (by decide +kernel)
theorem m_33 : Jvm.Cond.instantiable "TrapHart$Sources" 6 ∈ uW := uW_t (i := 33) (by decide +kernel) (by decide +kernel)
theorem m_35 : Jvm.Cond.instanceMethod y_so_init ∈ uW := uW_t (i := 35) (by decide +kernel) (by decide +kernel)
theorem m_36 : Jvm.Cond.code y_so_init prog_6_method_1_code 2 (Option.none : Option Jvm.ClassFile.FieldType) ∈ uW := uW_t (i := 36) (by decide +kernel) (by decide +kernel)
theorem m_37 : Jvm.Cond.methodLink "TrapHart$Sources" 1 objectInit ∈ uW := uW_t (i := 37) (by decide +kernel) (by decide +kernel)
theorem m_38 : Jvm.Cond.constant "TrapHart$Sources" 19 (65534 : Int32) ∈ uW := uW_t (i := 38) (by decide +kernel) (by decide +kernel)
theorem m_39 : Jvm.Cond.fieldLink "TrapHart$Sources" 20 "TrapHart$Sources" "edges" "I" ∈ uW := uW_t (i := 39) (by decide +kernel) (by decide +kernel)
theorem m_40 : Jvm.Cond.fieldLink "TrapHart$Sources" 9 "TrapHart$Sources" "priority" "[I" ∈ uW := uW_t (i := 40) (by decide +kernel) (by decide +kernel)
theorem m_42 : Jvm.Cond.fieldLink "TrapHart$Sources" 13 "TrapHart$Sources" "waiting" "[I" ∈ uW := uW_t (i := 42) (by decide +kernel) (by decide +kernel)
theorem m_44 : Jvm.Cond.fieldLink "TrapHart$Sources" 16 "TrapHart$Sources" "server" "[I" ∈ uW := uW_t (i := 44) (by decide +kernel) (by decide +kernel)
theorem m_46 : Jvm.Cond.fieldLink "TrapHart$Sources" 24 "TrapHart$Sources" "high" "I" ∈ uW := uW_t (i := 46) (by decide +kernel) (by decide +kernel)
theorem m_48 : Jvm.Cond.fieldLink "TrapHart$Sources" 37 "TrapHart$Sources" "pending" "I" ∈ uW := uW_t (i := 48) (by decide +kernel) (by decide +kernel)
theorem m_50 : Jvm.Cond.laysFinal "TrapHart$Sources" "TrapHart$Sources" "edges" "I" ∈ uW := uW_t (i := 50) (by decide +kernel) (by decide +kernel)
theorem m_52 : Jvm.Cond.laysFinal "TrapHart$Sources" "TrapHart$Sources" "priority" "[I" ∈ uW := uW_t (i := 52) (by decide +kernel) (by decide +kernel)
theorem m_54 : Jvm.Cond.laysFinal "TrapHart$Sources" "TrapHart$Sources" "waiting" "[I" ∈ uW := uW_t (i := 54) (by decide +kernel) (by decide +kernel)
theorem m_56 : Jvm.Cond.laysFinal "TrapHart$Sources" "TrapHart$Sources" "server" "[I" ∈ uW := uW_t (i := 56) (by decide +kernel) (by decide +kernel)
theorem m_58 : Jvm.Cond.lays "TrapHart$Sources" "TrapHart$Sources" "high" "I" ∈ uW := uW_t (i := 58) (by decide +kernel) (by decide +kernel)
theorem m_60 : Jvm.Cond.lays "TrapHart$Sources" "TrapHart$Sources" "pending" "I" ∈ uW := uW_t (i := 60) (by decide +kernel) (by decide +kernel)
theorem m_63 : Jvm.Cond.arrayClass Jvm.ClassFile.FieldType.int ∈ uW := uW_t (i := 63) (by decide +kernel) (by decide +kernel)
theorem m_64 : Jvm.Cond.classLink "TrapHart$Devices" 18 "TrapHart$Context" ∈ uW := uW_t (i := 64) (by decide +kernel) (by decide +kernel)
theorem m_65 : Jvm.Cond.instantiable "TrapHart$Context" 4 ∈ uW := uW_t (i := 65) (by decide +kernel) (by decide +kernel)
theorem m_67 : Jvm.Cond.instanceMethod y_ct_init ∈ uW := uW_t (i := 67) (by decide +kernel) (by decide +kernel)
theorem m_68 : Jvm.Cond.code y_ct_init prog_2_method_1_code 3 (Option.none : Option Jvm.ClassFile.FieldType) ∈ uW := uW_t (i := 68) (by decide +kernel) (by decide +kernel)
theorem m_69 : Jvm.Cond.methodLink "TrapHart$Context" 1 objectInit ∈ uW := uW_t (i := 69) (by decide +kernel) (by decide +kernel)
theorem m_70 : Jvm.Cond.fieldLink "TrapHart$Context" 7 "TrapHart$Context" "sources" "LTrapHart$Sources;" ∈ uW := uW_t (i := 70) (by decide +kernel) (by decide +kernel)
theorem m_71 : Jvm.Cond.fieldLink "TrapHart$Context" 13 "TrapHart$Context" "server" "I" ∈ uW := uW_t (i := 71) (by decide +kernel) (by decide +kernel)
theorem m_72 : Jvm.Cond.fieldLink "TrapHart$Context" 17 "TrapHart$Context" "enabledSet" "I" ∈ uW := uW_t (i := 72) (by decide +kernel) (by decide +kernel)
theorem m_74 : Jvm.Cond.fieldLink "TrapHart$Context" 40 "TrapHart$Context" "threshold" "I" ∈ uW := uW_t (i := 74) (by decide +kernel) (by decide +kernel)
theorem m_76 : Jvm.Cond.laysFinal "TrapHart$Context" "TrapHart$Context" "sources" "LTrapHart$Sources;" ∈ uW := uW_t (i := 76) (by decide +kernel) (by decide +kernel)
theorem m_78 : Jvm.Cond.laysFinal "TrapHart$Context" "TrapHart$Context" "server" "I" ∈ uW := uW_t (i := 78) (by decide +kernel) (by decide +kernel)
theorem m_80 : Jvm.Cond.lays "TrapHart$Context" "TrapHart$Context" "enabledSet" "I" ∈ uW := uW_t (i := 80) (by decide +kernel) (by decide +kernel)
theorem m_82 : Jvm.Cond.lays "TrapHart$Context" "TrapHart$Context" "threshold" "I" ∈ uW := uW_t (i := 82) (by decide +kernel) (by decide +kernel)
theorem m_85 : Jvm.Cond.classLink "TrapHart$Devices" 30 "TrapHart$Timer" ∈ uW := uW_t (i := 85) (by decide +kernel) (by decide +kernel)
theorem m_86 : Jvm.Cond.instantiable "TrapHart$Timer" 3 ∈ uW := uW_t (i := 86) (by decide +kernel) (by decide +kernel)
theorem m_88 : Jvm.Cond.instanceMethod y_tm_init ∈ uW := uW_t (i := 88) (by decide +kernel) (by decide +kernel)
theorem m_89 : Jvm.Cond.code y_tm_init prog_8_method_1_code 1 (Option.none : Option Jvm.ClassFile.FieldType) ∈ uW := uW_t (i := 89) (by decide +kernel) (by decide +kernel)
theorem m_90 : Jvm.Cond.methodLink "TrapHart$Timer" 1 objectInit ∈ uW := uW_t (i := 90) (by decide +kernel) (by decide +kernel)
theorem m_91 : Jvm.Cond.constantLong "TrapHart$Timer" 13 (-1 : Int64) ∈ uW := uW_t (i := 91) (by decide +kernel) (by decide +kernel)
theorem m_92 : Jvm.Cond.fieldLink "TrapHart$Timer" 7 "TrapHart$Timer" "time" "J" ∈ uW := uW_t (i := 92) (by decide +kernel) (by decide +kernel)
theorem m_95 : Jvm.Cond.fieldLink "TrapHart$Timer" 15 "TrapHart$Timer" "compare" "J" ∈ uW := uW_t (i := 95) (by decide +kernel) (by decide +kernel)
theorem m_97 : Jvm.Cond.fieldLink "TrapHart$Timer" 18 "TrapHart$Timer" "soft" "I" ∈ uW := uW_t (i := 97) (by decide +kernel) (by decide +kernel)
theorem m_99 : Jvm.Cond.lays "TrapHart$Timer" "TrapHart$Timer" "time" "J" ∈ uW := uW_t (i := 99) (by decide +kernel) (by decide +kernel)
theorem m_101 : Jvm.Cond.lays "TrapHart$Timer" "TrapHart$Timer" "compare" "J" ∈ uW := uW_t (i := 101) (by decide +kernel) (by decide +kernel)
theorem m_103 : Jvm.Cond.lays "TrapHart$Timer" "TrapHart$Timer" "soft" "I" ∈ uW := uW_t (i := 103) (by decide +kernel) (by decide +kernel)
theorem m_106 : Jvm.Cond.fieldLink "TrapHart$Devices" 12 "TrapHart$Devices" "sources" "LTrapHart$Sources;" ∈ uW := uW_t (i := 106) (by decide +kernel) (by decide +kernel)
theorem m_108 : Jvm.Cond.fieldLink "TrapHart$Devices" 23 "TrapHart$Devices" "machine" "LTrapHart$Context;" ∈ uW := uW_t (i := 108) (by decide +kernel) (by decide +kernel)
theorem m_109 : Jvm.Cond.fieldLink "TrapHart$Devices" 27 "TrapHart$Devices" "supervisor" "LTrapHart$Context;" ∈ uW := uW_t (i := 109) (by decide +kernel) (by decide +kernel)
theorem m_110 : Jvm.Cond.fieldLink "TrapHart$Devices" 33 "TrapHart$Devices" "timer" "LTrapHart$Timer;" ∈ uW := uW_t (i := 110) (by decide +kernel) (by decide +kernel)
theorem m_112 : Jvm.Cond.laysFinal "TrapHart$Devices" "TrapHart$Devices" "sources" "LTrapHart$Sources;" ∈ uW := uW_t (i := 112) (by decide +kernel) (by decide +kernel)
theorem m_114 : Jvm.Cond.laysFinal "TrapHart$Devices" "TrapHart$Devices" "machine" "LTrapHart$Context;" ∈ uW := uW_t (i := 114) (by decide +kernel) (by decide +kernel)
theorem m_116 : Jvm.Cond.laysFinal "TrapHart$Devices" "TrapHart$Devices" "supervisor" "LTrapHart$Context;" ∈ uW := uW_t (i := 116) (by decide +kernel) (by decide +kernel)
theorem m_118 : Jvm.Cond.laysFinal "TrapHart$Devices" "TrapHart$Devices" "timer" "LTrapHart$Timer;" ∈ uW := uW_t (i := 118) (by decide +kernel) (by decide +kernel)
theorem m_121 : Jvm.Cond.classLink "TrapHart" 18 "TrapHart$Registers" ∈ uW := uW_t (i := 121) (by decide +kernel) (by decide +kernel)
theorem m_122 : Jvm.Cond.instantiable "TrapHart$Registers" 8 ∈ uW := uW_t (i := 122) (by decide +kernel) (by decide +kernel)
theorem m_124 : Jvm.Cond.instanceMethod y_rg_init ∈ uW := uW_t (i := 124) (by decide +kernel) (by decide +kernel)
theorem m_125 : Jvm.Cond.code y_rg_init prog_5_method_1_code 2 (Option.none : Option Jvm.ClassFile.FieldType) ∈ uW := uW_t (i := 125) (by decide +kernel) (by decide +kernel)
theorem m_126 : Jvm.Cond.methodLink "TrapHart$Registers" 3 objectInit ∈ uW := uW_t (i := 126) (by decide +kernel) (by decide +kernel)
theorem m_127 : Jvm.Cond.classLink "TrapHart$Registers" 9 "TrapHart$Status" ∈ uW := uW_t (i := 127) (by decide +kernel) (by decide +kernel)
theorem m_128 : Jvm.Cond.instantiable "TrapHart$Status" 1 ∈ uW := uW_t (i := 128) (by decide +kernel) (by decide +kernel)
theorem m_130 : Jvm.Cond.instanceMethod y_st_init ∈ uW := uW_t (i := 130) (by decide +kernel) (by decide +kernel)
theorem m_131 : Jvm.Cond.code y_st_init prog_7_method_1_code 1 (Option.none : Option Jvm.ClassFile.FieldType) ∈ uW := uW_t (i := 131) (by decide +kernel) (by decide +kernel)
theorem m_132 : Jvm.Cond.methodLink "TrapHart$Status" 3 objectInit ∈ uW := uW_t (i := 132) (by decide +kernel) (by decide +kernel)
theorem m_133 : Jvm.Cond.fieldLink "TrapHart$Status" 9 "TrapHart$Status" "bits" "I" ∈ uW := uW_t (i := 133) (by decide +kernel) (by decide +kernel)
theorem m_135 : Jvm.Cond.lays "TrapHart$Status" "TrapHart$Status" "bits" "I" ∈ uW := uW_t (i := 135) (by decide +kernel) (by decide +kernel)
theorem m_138 : Jvm.Cond.classLink "TrapHart$Registers" 18 "TrapHart$Handler" ∈ uW := uW_t (i := 138) (by decide +kernel) (by decide +kernel)
theorem m_139 : Jvm.Cond.instantiable "TrapHart$Handler" 3 ∈ uW := uW_t (i := 139) (by decide +kernel) (by decide +kernel)
theorem m_141 : Jvm.Cond.instanceMethod y_hd_init ∈ uW := uW_t (i := 141) (by decide +kernel) (by decide +kernel)
theorem m_142 : Jvm.Cond.code y_hd_init prog_4_method_1_code 1 (Option.none : Option Jvm.ClassFile.FieldType) ∈ uW := uW_t (i := 142) (by decide +kernel) (by decide +kernel)
theorem m_143 : Jvm.Cond.methodLink "TrapHart$Handler" 1 objectInit ∈ uW := uW_t (i := 143) (by decide +kernel) (by decide +kernel)
theorem m_144 : Jvm.Cond.fieldLink "TrapHart$Handler" 17 "TrapHart$Handler" "vector" "I" ∈ uW := uW_t (i := 144) (by decide +kernel) (by decide +kernel)
theorem m_146 : Jvm.Cond.fieldLink "TrapHart$Handler" 9 "TrapHart$Handler" "comeBack" "I" ∈ uW := uW_t (i := 146) (by decide +kernel) (by decide +kernel)
theorem m_149 : Jvm.Cond.fieldLink "TrapHart$Handler" 14 "TrapHart$Handler" "cause" "I" ∈ uW := uW_t (i := 149) (by decide +kernel) (by decide +kernel)
theorem m_151 : Jvm.Cond.lays "TrapHart$Handler" "TrapHart$Handler" "vector" "I" ∈ uW := uW_t (i := 151) (by decide +kernel) (by decide +kernel)
theorem m_153 : Jvm.Cond.lays "TrapHart$Handler" "TrapHart$Handler" "comeBack" "I" ∈ uW := uW_t (i := 153) (by decide +kernel) (by decide +kernel)
theorem m_155 : Jvm.Cond.lays "TrapHart$Handler" "TrapHart$Handler" "cause" "I" ∈ uW := uW_t (i := 155) (by decide +kernel) (by decide +kernel)
theorem m_158 : Jvm.Cond.fieldLink "TrapHart$Registers" 28 "TrapHart$Registers" "devices" "LTrapHart$Devices;" ∈ uW := uW_t (i := 158) (by decide +kernel) (by decide +kernel)
theorem m_159 : Jvm.Cond.fieldLink "TrapHart$Registers" 12 "TrapHart$Registers" "status" "LTrapHart$Status;" ∈ uW := uW_t (i := 159) (by decide +kernel) (by decide +kernel)
theorem m_161 : Jvm.Cond.fieldLink "TrapHart$Registers" 21 "TrapHart$Registers" "machine" "LTrapHart$Handler;" ∈ uW := uW_t (i := 161) (by decide +kernel) (by decide +kernel)
theorem m_163 : Jvm.Cond.fieldLink "TrapHart$Registers" 25 "TrapHart$Registers" "supervisor" "LTrapHart$Handler;" ∈ uW := uW_t (i := 163) (by decide +kernel) (by decide +kernel)
theorem m_165 : Jvm.Cond.fieldLink "TrapHart$Registers" 44 "TrapHart$Registers" "delegatedExceptions" "I" ∈ uW := uW_t (i := 165) (by decide +kernel) (by decide +kernel)
theorem m_166 : Jvm.Cond.fieldLink "TrapHart$Registers" 40 "TrapHart$Registers" "delegatedInterrupts" "I" ∈ uW := uW_t (i := 166) (by decide +kernel) (by decide +kernel)
theorem m_168 : Jvm.Cond.fieldLink "TrapHart$Registers" 59 "TrapHart$Registers" "enabled" "I" ∈ uW := uW_t (i := 168) (by decide +kernel) (by decide +kernel)
theorem m_170 : Jvm.Cond.fieldLink "TrapHart$Registers" 47 "TrapHart$Registers" "written" "I" ∈ uW := uW_t (i := 170) (by decide +kernel) (by decide +kernel)
theorem m_171 : Jvm.Cond.laysFinal "TrapHart$Registers" "TrapHart$Registers" "devices" "LTrapHart$Devices;" ∈ uW := uW_t (i := 171) (by decide +kernel) (by decide +kernel)
theorem m_173 : Jvm.Cond.laysFinal "TrapHart$Registers" "TrapHart$Registers" "status" "LTrapHart$Status;" ∈ uW := uW_t (i := 173) (by decide +kernel) (by decide +kernel)
theorem m_175 : Jvm.Cond.laysFinal "TrapHart$Registers" "TrapHart$Registers" "machine" "LTrapHart$Handler;" ∈ uW := uW_t (i := 175) (by decide +kernel) (by decide +kernel)
theorem m_177 : Jvm.Cond.laysFinal "TrapHart$Registers" "TrapHart$Registers" "supervisor" "LTrapHart$Handler;" ∈ uW := uW_t (i := 177) (by decide +kernel) (by decide +kernel)
theorem m_179 : Jvm.Cond.lays "TrapHart$Registers" "TrapHart$Registers" "delegatedExceptions" "I" ∈ uW := uW_t (i := 179) (by decide +kernel) (by decide +kernel)
theorem m_181 : Jvm.Cond.lays "TrapHart$Registers" "TrapHart$Registers" "delegatedInterrupts" "I" ∈ uW := uW_t (i := 181) (by decide +kernel) (by decide +kernel)
theorem m_183 : Jvm.Cond.lays "TrapHart$Registers" "TrapHart$Registers" "enabled" "I" ∈ uW := uW_t (i := 183) (by decide +kernel) (by decide +kernel)
theorem m_185 : Jvm.Cond.lays "TrapHart$Registers" "TrapHart$Registers" "written" "I" ∈ uW := uW_t (i := 185) (by decide +kernel) (by decide +kernel)
theorem m_188 : Jvm.Cond.fieldLink "TrapHart" 12 "TrapHart" "devices" "LTrapHart$Devices;" ∈ uW := uW_t (i := 188) (by decide +kernel) (by decide +kernel)
theorem m_189 : Jvm.Cond.fieldLink "TrapHart" 23 "TrapHart" "registers" "LTrapHart$Registers;" ∈ uW := uW_t (i := 189) (by decide +kernel) (by decide +kernel)
theorem m_190 : Jvm.Cond.fieldLink "TrapHart" 27 "TrapHart" "mode" "I" ∈ uW := uW_t (i := 190) (by decide +kernel) (by decide +kernel)
theorem m_191 : Jvm.Cond.fieldLink "TrapHart" 31 "TrapHart" "counter" "I" ∈ uW := uW_t (i := 191) (by decide +kernel) (by decide +kernel)
theorem m_192 : Jvm.Cond.laysFinal "TrapHart" "TrapHart" "devices" "LTrapHart$Devices;" ∈ uW := uW_t (i := 192) (by decide +kernel) (by decide +kernel)
theorem m_194 : Jvm.Cond.laysFinal "TrapHart" "TrapHart" "registers" "LTrapHart$Registers;" ∈ uW := uW_t (i := 194) (by decide +kernel) (by decide +kernel)
theorem m_196 : Jvm.Cond.lays "TrapHart" "TrapHart" "mode" "I" ∈ uW := uW_t (i := 196) (by decide +kernel) (by decide +kernel)
theorem m_198 : Jvm.Cond.lays "TrapHart" "TrapHart" "counter" "I" ∈ uW := uW_t (i := 198) (by decide +kernel) (by decide +kernel)
theorem m_201 : Jvm.Cond.methodLink "TrapHartLaw" 58 y_th_lines ∈ uW := uW_t (i := 201) (by decide +kernel) (by decide +kernel)
theorem m_202 : Jvm.Cond.instanceMethod y_th_lines ∈ uW := uW_t (i := 202) (by decide +kernel) (by decide +kernel)
theorem m_203 : Jvm.Cond.selects "TrapHart" y_th_lines y_th_lines ∈ uW := uW_t (i := 203) (by decide +kernel) (by decide +kernel)
theorem m_204 : Jvm.Cond.code y_th_lines prog_1_method_2_code 2 (Option.some Jvm.ClassFile.FieldType.int) ∈ uW := uW_t (i := 204) (by decide +kernel) (by decide +kernel)
theorem m_207 : Jvm.Cond.instanceMethod y_so_drive ∈ uW := uW_t (i := 207) (by decide +kernel) (by decide +kernel)
theorem m_208 : Jvm.Cond.code y_so_drive prog_6_method_2_code 4 (Option.none : Option Jvm.ClassFile.FieldType) ∈ uW := uW_t (i := 208) (by decide +kernel) (by decide +kernel)
theorem m_210 : Jvm.Cond.static y_th_hasBit ∈ uW := uW_t (i := 210) (by decide +kernel) (by decide +kernel)
theorem m_211 : Jvm.Cond.code y_th_hasBit prog_1_method_21_code 2 (Option.some Jvm.ClassFile.FieldType.boolean) ∈ uW := uW_t (i := 211) (by decide +kernel) (by decide +kernel)
theorem m_212 : Jvm.Cond.methodLink "TrapHart$Sources" 33 y_so_forward ∈ uW := uW_t (i := 212) (by decide +kernel) (by decide +kernel)
theorem m_214 : Jvm.Cond.instanceMethod y_so_forward ∈ uW := uW_t (i := 214) (by decide +kernel) (by decide +kernel)
theorem m_215 : Jvm.Cond.code y_so_forward prog_6_method_3_code 2 (Option.none : Option Jvm.ClassFile.FieldType) ∈ uW := uW_t (i := 215) (by decide +kernel) (by decide +kernel)
theorem m_216 : Jvm.Cond.methodLink "TrapHartLaw" 78 y_th_access ∈ uW := uW_t (i := 216) (by decide +kernel) (by decide +kernel)
theorem m_217 : Jvm.Cond.instanceMethod y_th_access ∈ uW := uW_t (i := 217) (by decide +kernel) (by decide +kernel)
theorem m_218 : Jvm.Cond.selects "TrapHart" y_th_access y_th_access ∈ uW := uW_t (i := 218) (by decide +kernel) (by decide +kernel)
theorem m_219 : Jvm.Cond.code y_th_access prog_1_method_6_code 7 (Option.some Jvm.ClassFile.FieldType.long) ∈ uW := uW_t (i := 219) (by decide +kernel) (by decide +kernel)
theorem m_221 : Jvm.Cond.static y_dv_faultAt ∈ uW := uW_t (i := 221) (by decide +kernel) (by decide +kernel)
theorem m_222 : Jvm.Cond.code y_dv_faultAt prog_3_method_2_code 2 (Option.some Jvm.ClassFile.FieldType.int) ∈ uW := uW_t (i := 222) (by decide +kernel) (by decide +kernel)
theorem m_223 : Jvm.Cond.methodLink "TrapHart$Devices" 37 y_dv_isWord ∈ uW := uW_t (i := 223) (by decide +kernel) (by decide +kernel)
theorem m_224 : Jvm.Cond.static y_dv_isWord ∈ uW := uW_t (i := 224) (by decide +kernel) (by decide +kernel)
theorem m_225 : Jvm.Cond.code y_dv_isWord prog_3_method_3_code 1 (Option.some Jvm.ClassFile.FieldType.boolean) ∈ uW := uW_t (i := 225) (by decide +kernel) (by decide +kernel)
theorem m_226 : Jvm.Cond.methodLink "TrapHart$Devices" 41 y_dv_isPriority ∈ uW := uW_t (i := 226) (by decide +kernel) (by decide +kernel)
theorem m_227 : Jvm.Cond.static y_dv_isPriority ∈ uW := uW_t (i := 227) (by decide +kernel) (by decide +kernel)
theorem m_228 : Jvm.Cond.code y_dv_isPriority prog_3_method_4_code 1 (Option.some Jvm.ClassFile.FieldType.boolean) ∈ uW := uW_t (i := 228) (by decide +kernel) (by decide +kernel)
theorem m_229 : Jvm.Cond.methodLink "TrapHart" 83 y_th_causeOf ∈ uW := uW_t (i := 229) (by decide +kernel) (by decide +kernel)
theorem m_230 : Jvm.Cond.static y_th_causeOf ∈ uW := uW_t (i := 230) (by decide +kernel) (by decide +kernel)
theorem m_231 : Jvm.Cond.code y_th_causeOf prog_1_method_18_code 2 (Option.some Jvm.ClassFile.FieldType.int) ∈ uW := uW_t (i := 231) (by decide +kernel) (by decide +kernel)
theorem m_232 : Jvm.Cond.methodLink "TrapHart" 86 y_th_enterTrap ∈ uW := uW_t (i := 232) (by decide +kernel) (by decide +kernel)
theorem m_234 : Jvm.Cond.instanceMethod y_th_enterTrap ∈ uW := uW_t (i := 234) (by decide +kernel) (by decide +kernel)
theorem m_235 : Jvm.Cond.code y_th_enterTrap prog_1_method_20_code 4 (Option.none : Option Jvm.ClassFile.FieldType) ∈ uW := uW_t (i := 235) (by decide +kernel) (by decide +kernel)
theorem m_238 : Jvm.Cond.instanceMethod y_rg_isDelegated ∈ uW := uW_t (i := 238) (by decide +kernel) (by decide +kernel)
theorem m_239 : Jvm.Cond.code y_rg_isDelegated prog_5_method_5_code 3 (Option.some Jvm.ClassFile.FieldType.boolean) ∈ uW := uW_t (i := 239) (by decide +kernel) (by decide +kernel)
theorem m_243 : Jvm.Cond.instanceMethod y_st_enterSupervisor ∈ uW := uW_t (i := 243) (by decide +kernel) (by decide +kernel)
theorem m_244 : Jvm.Cond.code y_st_enterSupervisor prog_7_method_7_code 3 (Option.none : Option Jvm.ClassFile.FieldType) ∈ uW := uW_t (i := 244) (by decide +kernel) (by decide +kernel)
theorem m_246 : Jvm.Cond.static y_th_replaceBits ∈ uW := uW_t (i := 246) (by decide +kernel) (by decide +kernel)
theorem m_247 : Jvm.Cond.code y_th_replaceBits prog_1_method_22_code 3 (Option.some Jvm.ClassFile.FieldType.int) ∈ uW := uW_t (i := 247) (by decide +kernel) (by decide +kernel)
theorem m_250 : Jvm.Cond.instanceMethod y_st_enterMachine ∈ uW := uW_t (i := 250) (by decide +kernel) (by decide +kernel)
theorem m_251 : Jvm.Cond.code y_st_enterMachine prog_7_method_6_code 3 (Option.none : Option Jvm.ClassFile.FieldType) ∈ uW := uW_t (i := 251) (by decide +kernel) (by decide +kernel)
theorem m_254 : Jvm.Cond.instanceMethod y_hd_take ∈ uW := uW_t (i := 254) (by decide +kernel) (by decide +kernel)
theorem m_255 : Jvm.Cond.code y_hd_take prog_4_method_2_code 5 (Option.some Jvm.ClassFile.FieldType.int) ∈ uW := uW_t (i := 255) (by decide +kernel) (by decide +kernel)
theorem m_256 : Jvm.Cond.constant "TrapHart$Handler" 13 (-2147483648 : Int32) ∈ uW := uW_t (i := 256) (by decide +kernel) (by decide +kernel)
theorem m_257 : Jvm.Cond.constantLong "TrapHart" 90 (-1 : Int64) ∈ uW := uW_t (i := 257) (by decide +kernel) (by decide +kernel)
theorem m_260 : Jvm.Cond.instanceMethod y_dv_writeWord ∈ uW := uW_t (i := 260) (by decide +kernel) (by decide +kernel)
theorem m_261 : Jvm.Cond.code y_dv_writeWord prog_3_method_6_code 3 (Option.none : Option Jvm.ClassFile.FieldType) ∈ uW := uW_t (i := 261) (by decide +kernel) (by decide +kernel)
theorem m_262 : Jvm.Cond.constant "TrapHart$Devices" 72 (65534 : Int32) ∈ uW := uW_t (i := 262) (by decide +kernel) (by decide +kernel)
theorem m_265 : Jvm.Cond.instanceMethod y_ct_complete ∈ uW := uW_t (i := 265) (by decide +kernel) (by decide +kernel)
theorem m_266 : Jvm.Cond.code y_ct_complete prog_2_method_3_code 2 (Option.none : Option Jvm.ClassFile.FieldType) ∈ uW := uW_t (i := 266) (by decide +kernel) (by decide +kernel)
theorem m_270 : Jvm.Cond.instanceMethod y_so_release ∈ uW := uW_t (i := 270) (by decide +kernel) (by decide +kernel)
theorem m_271 : Jvm.Cond.code y_so_release prog_6_method_6_code 2 (Option.none : Option Jvm.ClassFile.FieldType) ∈ uW := uW_t (i := 271) (by decide +kernel) (by decide +kernel)
theorem m_273 : Jvm.Cond.static y_tm_withLower ∈ uW := uW_t (i := 273) (by decide +kernel) (by decide +kernel)
theorem m_274 : Jvm.Cond.code y_tm_withLower prog_8_method_3_code 3 (Option.some Jvm.ClassFile.FieldType.long) ∈ uW := uW_t (i := 274) (by decide +kernel) (by decide +kernel)
theorem m_275 : Jvm.Cond.constantLong "TrapHart$Timer" 24 (-4294967296 : Int64) ∈ uW := uW_t (i := 275) (by decide +kernel) (by decide +kernel)
theorem m_276 : Jvm.Cond.constantLong "TrapHart$Timer" 26 (4294967295 : Int64) ∈ uW := uW_t (i := 276) (by decide +kernel) (by decide +kernel)
theorem m_278 : Jvm.Cond.static y_tm_withHigher ∈ uW := uW_t (i := 278) (by decide +kernel) (by decide +kernel)
theorem m_279 : Jvm.Cond.code y_tm_withHigher prog_8_method_4_code 3 (Option.some Jvm.ClassFile.FieldType.long) ∈ uW := uW_t (i := 279) (by decide +kernel) (by decide +kernel)
theorem m_282 : Jvm.Cond.instanceMethod y_dv_readWord ∈ uW := uW_t (i := 282) (by decide +kernel) (by decide +kernel)
theorem m_283 : Jvm.Cond.code y_dv_readWord prog_3_method_5_code 2 (Option.some Jvm.ClassFile.FieldType.int) ∈ uW := uW_t (i := 283) (by decide +kernel) (by decide +kernel)
theorem m_286 : Jvm.Cond.instanceMethod y_ct_claim ∈ uW := uW_t (i := 286) (by decide +kernel) (by decide +kernel)
theorem m_287 : Jvm.Cond.code y_ct_claim prog_2_method_2_code 2 (Option.some Jvm.ClassFile.FieldType.int) ∈ uW := uW_t (i := 287) (by decide +kernel) (by decide +kernel)
theorem m_290 : Jvm.Cond.instanceMethod y_so_best ∈ uW := uW_t (i := 290) (by decide +kernel) (by decide +kernel)
theorem m_291 : Jvm.Cond.code y_so_best prog_6_method_4_code 6 (Option.some Jvm.ClassFile.FieldType.int) ∈ uW := uW_t (i := 291) (by decide +kernel) (by decide +kernel)
theorem m_294 : Jvm.Cond.instanceMethod y_so_serve ∈ uW := uW_t (i := 294) (by decide +kernel) (by decide +kernel)
theorem m_295 : Jvm.Cond.code y_so_serve prog_6_method_5_code 3 (Option.none : Option Jvm.ClassFile.FieldType) ∈ uW := uW_t (i := 295) (by decide +kernel) (by decide +kernel)
theorem m_296 : Jvm.Cond.constantLong "TrapHart" 92 (4294967295 : Int64) ∈ uW := uW_t (i := 296) (by decide +kernel) (by decide +kernel)
theorem m_297 : Jvm.Cond.methodLink "TrapHartLaw" 89 y_th_step ∈ uW := uW_t (i := 297) (by decide +kernel) (by decide +kernel)
theorem m_298 : Jvm.Cond.instanceMethod y_th_step ∈ uW := uW_t (i := 298) (by decide +kernel) (by decide +kernel)
theorem m_299 : Jvm.Cond.selects "TrapHart" y_th_step y_th_step ∈ uW := uW_t (i := 299) (by decide +kernel) (by decide +kernel)
theorem m_300 : Jvm.Cond.code y_th_step prog_1_method_9_code 2 (Option.some Jvm.ClassFile.FieldType.int) ∈ uW := uW_t (i := 300) (by decide +kernel) (by decide +kernel)
theorem m_301 : Jvm.Cond.methodLink "TrapHart" 103 y_th_interruptToTake ∈ uW := uW_t (i := 301) (by decide +kernel) (by decide +kernel)
theorem m_303 : Jvm.Cond.instanceMethod y_th_interruptToTake ∈ uW := uW_t (i := 303) (by decide +kernel) (by decide +kernel)
theorem m_304 : Jvm.Cond.code y_th_interruptToTake prog_1_method_19_code 3 (Option.some Jvm.ClassFile.FieldType.int) ∈ uW := uW_t (i := 304) (by decide +kernel) (by decide +kernel)
theorem m_307 : Jvm.Cond.instanceMethod y_rg_pendingInterrupts ∈ uW := uW_t (i := 307) (by decide +kernel) (by decide +kernel)
theorem m_308 : Jvm.Cond.code y_rg_pendingInterrupts prog_5_method_6_code 1 (Option.some Jvm.ClassFile.FieldType.int) ∈ uW := uW_t (i := 308) (by decide +kernel) (by decide +kernel)
theorem m_311 : Jvm.Cond.instanceMethod y_dv_interrupts ∈ uW := uW_t (i := 311) (by decide +kernel) (by decide +kernel)
theorem m_312 : Jvm.Cond.code y_dv_interrupts prog_3_method_7_code 2 (Option.some Jvm.ClassFile.FieldType.int) ∈ uW := uW_t (i := 312) (by decide +kernel) (by decide +kernel)
theorem m_315 : Jvm.Cond.instanceMethod y_tm_isReached ∈ uW := uW_t (i := 315) (by decide +kernel) (by decide +kernel)
theorem m_316 : Jvm.Cond.code y_tm_isReached prog_8_method_2_code 1 (Option.some Jvm.ClassFile.FieldType.boolean) ∈ uW := uW_t (i := 316) (by decide +kernel) (by decide +kernel)
theorem m_317 : Jvm.Cond.constantLong "TrapHart$Timer" 22 (-9223372036854775808 : Int64) ∈ uW := uW_t (i := 317) (by decide +kernel) (by decide +kernel)
theorem m_320 : Jvm.Cond.instanceMethod y_ct_isCalling ∈ uW := uW_t (i := 320) (by decide +kernel) (by decide +kernel)
theorem m_321 : Jvm.Cond.code y_ct_isCalling prog_2_method_4_code 1 (Option.some Jvm.ClassFile.FieldType.boolean) ∈ uW := uW_t (i := 321) (by decide +kernel) (by decide +kernel)
theorem m_324 : Jvm.Cond.instanceMethod y_st_machineOpen ∈ uW := uW_t (i := 324) (by decide +kernel) (by decide +kernel)
theorem m_325 : Jvm.Cond.code y_st_machineOpen prog_7_method_2_code 1 (Option.some Jvm.ClassFile.FieldType.boolean) ∈ uW := uW_t (i := 325) (by decide +kernel) (by decide +kernel)
theorem m_327 : Jvm.Cond.static y_rg_firstInterrupt ∈ uW := uW_t (i := 327) (by decide +kernel) (by decide +kernel)
theorem m_328 : Jvm.Cond.code y_rg_firstInterrupt prog_5_method_4_code 2 (Option.some Jvm.ClassFile.FieldType.int) ∈ uW := uW_t (i := 328) (by decide +kernel) (by decide +kernel)
theorem m_329 : Jvm.Cond.fieldLink "TrapHart$Registers" 32 "TrapHart$Registers" "ORDER" "[I" ∈ uW := uW_t (i := 329) (by decide +kernel) (by decide +kernel)
theorem m_333 : Jvm.Cond.instanceMethod y_st_supervisorOpen ∈ uW := uW_t (i := 333) (by decide +kernel) (by decide +kernel)
theorem m_334 : Jvm.Cond.code y_st_supervisorOpen prog_7_method_3_code 1 (Option.some Jvm.ClassFile.FieldType.boolean) ∈ uW := uW_t (i := 334) (by decide +kernel) (by decide +kernel)
theorem m_335 : Jvm.Cond.methodLink "TrapHartLaw" 100 y_th_privilege ∈ uW := uW_t (i := 335) (by decide +kernel) (by decide +kernel)
theorem m_336 : Jvm.Cond.instanceMethod y_th_privilege ∈ uW := uW_t (i := 336) (by decide +kernel) (by decide +kernel)
theorem m_337 : Jvm.Cond.selects "TrapHart" y_th_privilege y_th_privilege ∈ uW := uW_t (i := 337) (by decide +kernel) (by decide +kernel)
theorem m_338 : Jvm.Cond.code y_th_privilege prog_1_method_12_code 1 (Option.some Jvm.ClassFile.FieldType.int) ∈ uW := uW_t (i := 338) (by decide +kernel) (by decide +kernel)
theorem m_339 : Jvm.Cond.methodLink "TrapHartLaw" 104 y_th_pc ∈ uW := uW_t (i := 339) (by decide +kernel) (by decide +kernel)
theorem m_340 : Jvm.Cond.instanceMethod y_th_pc ∈ uW := uW_t (i := 340) (by decide +kernel) (by decide +kernel)
theorem m_341 : Jvm.Cond.selects "TrapHart" y_th_pc y_th_pc ∈ uW := uW_t (i := 341) (by decide +kernel) (by decide +kernel)
theorem m_342 : Jvm.Cond.code y_th_pc prog_1_method_13_code 1 (Option.some Jvm.ClassFile.FieldType.int) ∈ uW := uW_t (i := 342) (by decide +kernel) (by decide +kernel)
theorem m_343 : Jvm.Cond.methodLink "TrapHartLaw" 108 y_th_due ∈ uW := uW_t (i := 343) (by decide +kernel) (by decide +kernel)
theorem m_344 : Jvm.Cond.instanceMethod y_th_due ∈ uW := uW_t (i := 344) (by decide +kernel) (by decide +kernel)
theorem m_345 : Jvm.Cond.selects "TrapHart" y_th_due y_th_due ∈ uW := uW_t (i := 345) (by decide +kernel) (by decide +kernel)
theorem m_346 : Jvm.Cond.code y_th_due prog_1_method_14_code 1 (Option.some Jvm.ClassFile.FieldType.int) ∈ uW := uW_t (i := 346) (by decide +kernel) (by decide +kernel)
theorem m_347 : Jvm.Cond.methodLink "TrapHartLaw" 47 y_la_cell ∈ uW := uW_t (i := 347) (by decide +kernel) (by decide +kernel)
theorem m_348 : Jvm.Cond.static y_la_cell ∈ uW := uW_t (i := 348) (by decide +kernel) (by decide +kernel)
theorem m_349 : Jvm.Cond.code y_la_cell method_2_code 2 (Option.some Jvm.ClassFile.FieldType.int) ∈ uW := uW_t (i := 349) (by decide +kernel) (by decide +kernel)
theorem m_350 : Jvm.Cond.methodLink "TrapHartLaw" 62 y_la_ticks ∈ uW := uW_t (i := 350) (by decide +kernel) (by decide +kernel)
theorem m_351 : Jvm.Cond.static y_la_ticks ∈ uW := uW_t (i := 351) (by decide +kernel) (by decide +kernel)
theorem m_352 : Jvm.Cond.codeWith y_la_ticks method_3_code 3 (Option.some Jvm.ClassFile.FieldType.int) [(0, 5, 8, 13)] ∈ uW := uW_t (i := 352) (by decide +kernel) (by decide +kernel)
theorem m_353 : Jvm.Cond.classLink "TrapHartLaw" 13 "java/lang/IllegalArgumentException" ∈ uW := uW_t (i := 353) (by decide +kernel) (by decide +kernel)
theorem m_354 : Jvm.Cond.methodLink "TrapHartLaw" 7 y_th_ticks ∈ uW := uW_t (i := 354) (by decide +kernel) (by decide +kernel)
theorem m_355 : Jvm.Cond.instanceMethod y_th_ticks ∈ uW := uW_t (i := 355) (by decide +kernel) (by decide +kernel)
theorem m_356 : Jvm.Cond.selects "TrapHart" y_th_ticks y_th_ticks ∈ uW := uW_t (i := 356) (by decide +kernel) (by decide +kernel)
theorem m_357 : Jvm.Cond.code y_th_ticks prog_1_method_3_code 2 (Option.none : Option Jvm.ClassFile.FieldType) ∈ uW := uW_t (i := 357) (by decide +kernel) (by decide +kernel)
theorem m_358 : Jvm.Cond.classLink "TrapHart" 46 "java/lang/IllegalArgumentException" ∈ uW := uW_t (i := 358) (by decide +kernel) (by decide +kernel)
theorem m_359 : Jvm.Cond.instantiable "java/lang/IllegalArgumentException" 6 ∈ uW := uW_t (i := 359) (by decide +kernel) (by decide +kernel)
theorem m_369 : Jvm.Cond.lays "java/lang/IllegalArgumentException" "java/lang/Throwable" "cause" "Ljava/lang/Throwable;" ∈ uW := uW_t (i := 369) (by decide +kernel) (by decide +kernel)
theorem m_370 : Jvm.Cond.lays "java/lang/Throwable" "java/lang/Throwable" "cause" "Ljava/lang/Throwable;" ∈ uW := uW_t (i := 370) (by decide +kernel) (by decide +kernel)
theorem m_371 : Jvm.Cond.lays "java/lang/IllegalArgumentException" "java/lang/Throwable" "stackTrace" "[Ljava/lang/StackTraceElement;" ∈ uW := uW_t (i := 371) (by decide +kernel) (by decide +kernel)
theorem m_372 : Jvm.Cond.lays "java/lang/Throwable" "java/lang/Throwable" "stackTrace" "[Ljava/lang/StackTraceElement;" ∈ uW := uW_t (i := 372) (by decide +kernel) (by decide +kernel)
theorem m_373 : Jvm.Cond.lays "java/lang/IllegalArgumentException" "java/lang/Throwable" "suppressedExceptions" "Ljava/util/List;" ∈ uW := uW_t (i := 373) (by decide +kernel) (by decide +kernel)
theorem m_374 : Jvm.Cond.lays "java/lang/Throwable" "java/lang/Throwable" "suppressedExceptions" "Ljava/util/List;" ∈ uW := uW_t (i := 374) (by decide +kernel) (by decide +kernel)
theorem m_375 : Jvm.Cond.lays "java/lang/IllegalArgumentException" "java/lang/Throwable" "detailMessage" "Ljava/lang/String;" ∈ uW := uW_t (i := 375) (by decide +kernel) (by decide +kernel)
theorem m_376 : Jvm.Cond.lays "java/lang/Throwable" "java/lang/Throwable" "detailMessage" "Ljava/lang/String;" ∈ uW := uW_t (i := 376) (by decide +kernel) (by decide +kernel)
theorem m_377 : Jvm.Cond.lays "java/lang/IllegalArgumentException" "java/lang/Throwable" "backtrace" "Ljava/lang/Object;" ∈ uW := uW_t (i := 377) (by decide +kernel) (by decide +kernel)
theorem m_378 : Jvm.Cond.lays "java/lang/Throwable" "java/lang/Throwable" "backtrace" "Ljava/lang/Object;" ∈ uW := uW_t (i := 378) (by decide +kernel) (by decide +kernel)
theorem m_379 : Jvm.Cond.fieldLink "java/lang/Throwable" 198 "java/lang/Throwable" "backtrace" "Ljava/lang/Object;" ∈ uW := uW_t (i := 379) (by decide +kernel) (by decide +kernel)
theorem m_383 : Jvm.Cond.methodLink "java/lang/Throwable" 1 objectInit ∈ uW := uW_t (i := 383) (by decide +kernel) (by decide +kernel)
theorem m_384 : Jvm.Cond.fieldLink "java/lang/Throwable" 13 "java/lang/Throwable" "UNASSIGNED_STACK" "[Ljava/lang/StackTraceElement;" ∈ uW := uW_t (i := 384) (by decide +kernel) (by decide +kernel)
theorem m_386 : Jvm.Cond.fieldLink "java/lang/Throwable" 20 "java/lang/Throwable" "SUPPRESSED_SENTINEL" "Ljava/util/List;" ∈ uW := uW_t (i := 386) (by decide +kernel) (by decide +kernel)
theorem m_399 : Jvm.Cond.instantiable "java/lang/Throwable" 6 ∈ uW := uW_t (i := 399) (by decide +kernel) (by decide +kernel)
theorem m_415 : Jvm.Cond.fieldLink "java/lang/Throwable" 31 "java/lang/Throwable" "detailMessage" "Ljava/lang/String;" ∈ uW := uW_t (i := 415) (by decide +kernel) (by decide +kernel)
theorem m_416 : Jvm.Cond.fieldLink "java/lang/Throwable" 7 "java/lang/Throwable" "cause" "Ljava/lang/Throwable;" ∈ uW := uW_t (i := 416) (by decide +kernel) (by decide +kernel)
theorem m_417 : Jvm.Cond.fieldLink "java/lang/Throwable" 17 "java/lang/Throwable" "stackTrace" "[Ljava/lang/StackTraceElement;" ∈ uW := uW_t (i := 417) (by decide +kernel) (by decide +kernel)
theorem m_418 : Jvm.Cond.fieldLink "java/lang/Throwable" 24 "java/lang/Throwable" "suppressedExceptions" "Ljava/util/List;" ∈ uW := uW_t (i := 418) (by decide +kernel) (by decide +kernel)
theorem m_423 : Jvm.Cond.lays "java/lang/IllegalArgumentException" "java/lang/Throwable" "depth" "I" ∈ uW := uW_t (i := 423) (by decide +kernel) (by decide +kernel)
theorem m_427 : Jvm.Cond.arrayClass Jvm.ClassFile.FieldType.byte ∈ uW := uW_t (i := 427) (by decide +kernel) (by decide +kernel)
theorem m_428 : Jvm.Cond.methodLink "TrapHartLaw" 70 y_la_load ∈ uW := uW_t (i := 428) (by decide +kernel) (by decide +kernel)
theorem m_429 : Jvm.Cond.static y_la_load ∈ uW := uW_t (i := 429) (by decide +kernel) (by decide +kernel)
theorem m_430 : Jvm.Cond.codeWith y_la_load method_4_code 4 (Option.some Jvm.ClassFile.FieldType.int) [(0, 9, 12, 13), (0, 9, 15, 19)] ∈ uW := uW_t (i := 430) (by decide +kernel) (by decide +kernel)
theorem m_431 : Jvm.Cond.classLink "TrapHartLaw" 19 "java/lang/IndexOutOfBoundsException" ∈ uW := uW_t (i := 431) (by decide +kernel) (by decide +kernel)
theorem m_432 : Jvm.Cond.methodLink "TrapHartLaw" 15 y_th_load ∈ uW := uW_t (i := 432) (by decide +kernel) (by decide +kernel)
theorem m_433 : Jvm.Cond.instanceMethod y_th_load ∈ uW := uW_t (i := 433) (by decide +kernel) (by decide +kernel)
theorem m_434 : Jvm.Cond.selects "TrapHart" y_th_load y_th_load ∈ uW := uW_t (i := 434) (by decide +kernel) (by decide +kernel)
theorem m_435 : Jvm.Cond.code y_th_load prog_1_method_4_code 2 (Option.some Jvm.ClassFile.FieldType.int) ∈ uW := uW_t (i := 435) (by decide +kernel) (by decide +kernel)
theorem m_436 : Jvm.Cond.methodLink "TrapHart" 67 y_th_refuseWrongOrAbsent ∈ uW := uW_t (i := 436) (by decide +kernel) (by decide +kernel)
theorem m_437 : Jvm.Cond.static y_th_refuseWrongOrAbsent ∈ uW := uW_t (i := 437) (by decide +kernel) (by decide +kernel)
theorem m_438 : Jvm.Cond.code y_th_refuseWrongOrAbsent prog_1_method_16_code 1 (Option.none : Option Jvm.ClassFile.FieldType) ∈ uW := uW_t (i := 438) (by decide +kernel) (by decide +kernel)
theorem m_440 : Jvm.Cond.classLink "TrapHart" 143 "java/lang/IndexOutOfBoundsException" ∈ uW := uW_t (i := 440) (by decide +kernel) (by decide +kernel)
theorem m_441 : Jvm.Cond.instantiable "java/lang/IndexOutOfBoundsException" 6 ∈ uW := uW_t (i := 441) (by decide +kernel) (by decide +kernel)
theorem m_444 : Jvm.Cond.lays "java/lang/IndexOutOfBoundsException" "java/lang/Throwable" "cause" "Ljava/lang/Throwable;" ∈ uW := uW_t (i := 444) (by decide +kernel) (by decide +kernel)
theorem m_445 : Jvm.Cond.lays "java/lang/IndexOutOfBoundsException" "java/lang/Throwable" "stackTrace" "[Ljava/lang/StackTraceElement;" ∈ uW := uW_t (i := 445) (by decide +kernel) (by decide +kernel)
theorem m_446 : Jvm.Cond.lays "java/lang/IndexOutOfBoundsException" "java/lang/Throwable" "suppressedExceptions" "Ljava/util/List;" ∈ uW := uW_t (i := 446) (by decide +kernel) (by decide +kernel)
theorem m_447 : Jvm.Cond.lays "java/lang/IndexOutOfBoundsException" "java/lang/Throwable" "detailMessage" "Ljava/lang/String;" ∈ uW := uW_t (i := 447) (by decide +kernel) (by decide +kernel)
theorem m_448 : Jvm.Cond.lays "java/lang/IndexOutOfBoundsException" "java/lang/Throwable" "backtrace" "Ljava/lang/Object;" ∈ uW := uW_t (i := 448) (by decide +kernel) (by decide +kernel)
theorem m_454 : Jvm.Cond.lays "java/lang/IndexOutOfBoundsException" "java/lang/Throwable" "depth" "I" ∈ uW := uW_t (i := 454) (by decide +kernel) (by decide +kernel)
theorem m_456 : Jvm.Cond.methodLink "TrapHartLaw" 74 y_la_store ∈ uW := uW_t (i := 456) (by decide +kernel) (by decide +kernel)
theorem m_457 : Jvm.Cond.static y_la_store ∈ uW := uW_t (i := 457) (by decide +kernel) (by decide +kernel)
theorem m_458 : Jvm.Cond.codeWith y_la_store method_5_code 4 (Option.some Jvm.ClassFile.FieldType.int) [(0, 6, 9, 13), (0, 6, 12, 19), (0, 6, 15, 25)] ∈ uW := uW_t (i := 458) (by decide +kernel) (by decide +kernel)
theorem m_459 : Jvm.Cond.classLink "TrapHartLaw" 25 "java/lang/UnsupportedOperationException" ∈ uW := uW_t (i := 459) (by decide +kernel) (by decide +kernel)
theorem m_460 : Jvm.Cond.methodLink "TrapHartLaw" 21 y_th_store ∈ uW := uW_t (i := 460) (by decide +kernel) (by decide +kernel)
theorem m_461 : Jvm.Cond.instanceMethod y_th_store ∈ uW := uW_t (i := 461) (by decide +kernel) (by decide +kernel)
theorem m_462 : Jvm.Cond.selects "TrapHart" y_th_store y_th_store ∈ uW := uW_t (i := 462) (by decide +kernel) (by decide +kernel)
theorem m_463 : Jvm.Cond.code y_th_store prog_1_method_5_code 4 (Option.none : Option Jvm.ClassFile.FieldType) ∈ uW := uW_t (i := 463) (by decide +kernel) (by decide +kernel)
theorem m_464 : Jvm.Cond.classLink "TrapHart" 74 "java/lang/UnsupportedOperationException" ∈ uW := uW_t (i := 464) (by decide +kernel) (by decide +kernel)
theorem m_465 : Jvm.Cond.instantiable "java/lang/UnsupportedOperationException" 6 ∈ uW := uW_t (i := 465) (by decide +kernel) (by decide +kernel)
theorem m_468 : Jvm.Cond.lays "java/lang/UnsupportedOperationException" "java/lang/Throwable" "cause" "Ljava/lang/Throwable;" ∈ uW := uW_t (i := 468) (by decide +kernel) (by decide +kernel)
theorem m_469 : Jvm.Cond.lays "java/lang/UnsupportedOperationException" "java/lang/Throwable" "stackTrace" "[Ljava/lang/StackTraceElement;" ∈ uW := uW_t (i := 469) (by decide +kernel) (by decide +kernel)
theorem m_470 : Jvm.Cond.lays "java/lang/UnsupportedOperationException" "java/lang/Throwable" "suppressedExceptions" "Ljava/util/List;" ∈ uW := uW_t (i := 470) (by decide +kernel) (by decide +kernel)
theorem m_471 : Jvm.Cond.lays "java/lang/UnsupportedOperationException" "java/lang/Throwable" "detailMessage" "Ljava/lang/String;" ∈ uW := uW_t (i := 471) (by decide +kernel) (by decide +kernel)
theorem m_472 : Jvm.Cond.lays "java/lang/UnsupportedOperationException" "java/lang/Throwable" "backtrace" "Ljava/lang/Object;" ∈ uW := uW_t (i := 472) (by decide +kernel) (by decide +kernel)
theorem m_478 : Jvm.Cond.lays "java/lang/UnsupportedOperationException" "java/lang/Throwable" "depth" "I" ∈ uW := uW_t (i := 478) (by decide +kernel) (by decide +kernel)
theorem m_480 : Jvm.Cond.methodLink "TrapHartLaw" 83 y_la_read ∈ uW := uW_t (i := 480) (by decide +kernel) (by decide +kernel)
theorem m_481 : Jvm.Cond.static y_la_read ∈ uW := uW_t (i := 481) (by decide +kernel) (by decide +kernel)
theorem m_482 : Jvm.Cond.codeWith y_la_read method_6_code 4 (Option.some Jvm.ClassFile.FieldType.int) [(0, 9, 12, 30), (0, 9, 15, 32)] ∈ uW := uW_t (i := 482) (by decide +kernel) (by decide +kernel)
theorem m_483 : Jvm.Cond.classLink "TrapHartLaw" 30 "java/util/NoSuchElementException" ∈ uW := uW_t (i := 483) (by decide +kernel) (by decide +kernel)
theorem m_484 : Jvm.Cond.classLink "TrapHartLaw" 32 "java/lang/IllegalStateException" ∈ uW := uW_t (i := 484) (by decide +kernel) (by decide +kernel)
theorem m_485 : Jvm.Cond.methodLink "TrapHartLaw" 27 y_th_read ∈ uW := uW_t (i := 485) (by decide +kernel) (by decide +kernel)
theorem m_486 : Jvm.Cond.instanceMethod y_th_read ∈ uW := uW_t (i := 486) (by decide +kernel) (by decide +kernel)
theorem m_487 : Jvm.Cond.selects "TrapHart" y_th_read y_th_read ∈ uW := uW_t (i := 487) (by decide +kernel) (by decide +kernel)
theorem m_488 : Jvm.Cond.code y_th_read prog_1_method_7_code 2 (Option.some Jvm.ClassFile.FieldType.int) ∈ uW := uW_t (i := 488) (by decide +kernel) (by decide +kernel)
theorem m_489 : Jvm.Cond.methodLink "TrapHart" 94 y_th_refuseRegister ∈ uW := uW_t (i := 489) (by decide +kernel) (by decide +kernel)
theorem m_491 : Jvm.Cond.instanceMethod y_th_refuseRegister ∈ uW := uW_t (i := 491) (by decide +kernel) (by decide +kernel)
theorem m_492 : Jvm.Cond.code y_th_refuseRegister prog_1_method_17_code 2 (Option.none : Option Jvm.ClassFile.FieldType) ∈ uW := uW_t (i := 492) (by decide +kernel) (by decide +kernel)
theorem m_494 : Jvm.Cond.static y_rg_isThere ∈ uW := uW_t (i := 494) (by decide +kernel) (by decide +kernel)
theorem m_495 : Jvm.Cond.code y_rg_isThere prog_5_method_2_code 1 (Option.some Jvm.ClassFile.FieldType.boolean) ∈ uW := uW_t (i := 495) (by decide +kernel) (by decide +kernel)
theorem m_496 : Jvm.Cond.classLink "TrapHart" 163 "java/util/NoSuchElementException" ∈ uW := uW_t (i := 496) (by decide +kernel) (by decide +kernel)
theorem m_497 : Jvm.Cond.instantiable "java/util/NoSuchElementException" 6 ∈ uW := uW_t (i := 497) (by decide +kernel) (by decide +kernel)
theorem m_500 : Jvm.Cond.lays "java/util/NoSuchElementException" "java/lang/Throwable" "cause" "Ljava/lang/Throwable;" ∈ uW := uW_t (i := 500) (by decide +kernel) (by decide +kernel)
theorem m_501 : Jvm.Cond.lays "java/util/NoSuchElementException" "java/lang/Throwable" "stackTrace" "[Ljava/lang/StackTraceElement;" ∈ uW := uW_t (i := 501) (by decide +kernel) (by decide +kernel)
theorem m_502 : Jvm.Cond.lays "java/util/NoSuchElementException" "java/lang/Throwable" "suppressedExceptions" "Ljava/util/List;" ∈ uW := uW_t (i := 502) (by decide +kernel) (by decide +kernel)
theorem m_503 : Jvm.Cond.lays "java/util/NoSuchElementException" "java/lang/Throwable" "detailMessage" "Ljava/lang/String;" ∈ uW := uW_t (i := 503) (by decide +kernel) (by decide +kernel)
theorem m_504 : Jvm.Cond.lays "java/util/NoSuchElementException" "java/lang/Throwable" "backtrace" "Ljava/lang/Object;" ∈ uW := uW_t (i := 504) (by decide +kernel) (by decide +kernel)
theorem m_510 : Jvm.Cond.lays "java/util/NoSuchElementException" "java/lang/Throwable" "depth" "I" ∈ uW := uW_t (i := 510) (by decide +kernel) (by decide +kernel)
theorem m_513 : Jvm.Cond.static y_rg_isOfMachine ∈ uW := uW_t (i := 513) (by decide +kernel) (by decide +kernel)
theorem m_514 : Jvm.Cond.code y_rg_isOfMachine prog_5_method_3_code 1 (Option.some Jvm.ClassFile.FieldType.boolean) ∈ uW := uW_t (i := 514) (by decide +kernel) (by decide +kernel)
theorem m_515 : Jvm.Cond.classLink "TrapHart" 114 "java/lang/IllegalStateException" ∈ uW := uW_t (i := 515) (by decide +kernel) (by decide +kernel)
theorem m_516 : Jvm.Cond.instantiable "java/lang/IllegalStateException" 6 ∈ uW := uW_t (i := 516) (by decide +kernel) (by decide +kernel)
theorem m_519 : Jvm.Cond.lays "java/lang/IllegalStateException" "java/lang/Throwable" "cause" "Ljava/lang/Throwable;" ∈ uW := uW_t (i := 519) (by decide +kernel) (by decide +kernel)
theorem m_520 : Jvm.Cond.lays "java/lang/IllegalStateException" "java/lang/Throwable" "stackTrace" "[Ljava/lang/StackTraceElement;" ∈ uW := uW_t (i := 520) (by decide +kernel) (by decide +kernel)
theorem m_521 : Jvm.Cond.lays "java/lang/IllegalStateException" "java/lang/Throwable" "suppressedExceptions" "Ljava/util/List;" ∈ uW := uW_t (i := 521) (by decide +kernel) (by decide +kernel)
theorem m_522 : Jvm.Cond.lays "java/lang/IllegalStateException" "java/lang/Throwable" "detailMessage" "Ljava/lang/String;" ∈ uW := uW_t (i := 522) (by decide +kernel) (by decide +kernel)
theorem m_523 : Jvm.Cond.lays "java/lang/IllegalStateException" "java/lang/Throwable" "backtrace" "Ljava/lang/Object;" ∈ uW := uW_t (i := 523) (by decide +kernel) (by decide +kernel)
theorem m_529 : Jvm.Cond.lays "java/lang/IllegalStateException" "java/lang/Throwable" "depth" "I" ∈ uW := uW_t (i := 529) (by decide +kernel) (by decide +kernel)
theorem m_533 : Jvm.Cond.instanceMethod y_rg_valueOf ∈ uW := uW_t (i := 533) (by decide +kernel) (by decide +kernel)
theorem m_534 : Jvm.Cond.code y_rg_valueOf prog_5_method_7_code 2 (Option.some Jvm.ClassFile.FieldType.int) ∈ uW := uW_t (i := 534) (by decide +kernel) (by decide +kernel)
theorem m_535 : Jvm.Cond.methodLink "TrapHart$Registers" 71 y_rg_pendingInterrupts ∈ uW := uW_t (i := 535) (by decide +kernel) (by decide +kernel)
theorem m_536 : Jvm.Cond.methodLink "TrapHartLaw" 86 y_la_write ∈ uW := uW_t (i := 536) (by decide +kernel) (by decide +kernel)
theorem m_537 : Jvm.Cond.static y_la_write ∈ uW := uW_t (i := 537) (by decide +kernel) (by decide +kernel)
theorem m_538 : Jvm.Cond.codeWith y_la_write method_7_code 4 (Option.some Jvm.ClassFile.FieldType.int) [(0, 6, 9, 30), (0, 6, 12, 32)] ∈ uW := uW_t (i := 538) (by decide +kernel) (by decide +kernel)
theorem m_539 : Jvm.Cond.methodLink "TrapHartLaw" 34 y_th_write ∈ uW := uW_t (i := 539) (by decide +kernel) (by decide +kernel)
theorem m_540 : Jvm.Cond.instanceMethod y_th_write ∈ uW := uW_t (i := 540) (by decide +kernel) (by decide +kernel)
theorem m_541 : Jvm.Cond.selects "TrapHart" y_th_write y_th_write ∈ uW := uW_t (i := 541) (by decide +kernel) (by decide +kernel)
theorem m_542 : Jvm.Cond.code y_th_write prog_1_method_8_code 3 (Option.none : Option Jvm.ClassFile.FieldType) ∈ uW := uW_t (i := 542) (by decide +kernel) (by decide +kernel)
theorem m_545 : Jvm.Cond.instanceMethod y_rg_change ∈ uW := uW_t (i := 545) (by decide +kernel) (by decide +kernel)
theorem m_546 : Jvm.Cond.code y_rg_change prog_5_method_8_code 3 (Option.none : Option Jvm.ClassFile.FieldType) ∈ uW := uW_t (i := 546) (by decide +kernel) (by decide +kernel)
theorem m_547 : Jvm.Cond.methodLink "TrapHart$Registers" 74 y_rg_isOfMachine ∈ uW := uW_t (i := 547) (by decide +kernel) (by decide +kernel)
theorem m_548 : Jvm.Cond.methodLink "TrapHart$Registers" 78 y_rg_changeOfMachine ∈ uW := uW_t (i := 548) (by decide +kernel) (by decide +kernel)
theorem m_550 : Jvm.Cond.instanceMethod y_rg_changeOfMachine ∈ uW := uW_t (i := 550) (by decide +kernel) (by decide +kernel)
theorem m_551 : Jvm.Cond.code y_rg_changeOfMachine prog_5_method_9_code 3 (Option.none : Option Jvm.ClassFile.FieldType) ∈ uW := uW_t (i := 551) (by decide +kernel) (by decide +kernel)
theorem m_554 : Jvm.Cond.instanceMethod y_st_changeByMachine ∈ uW := uW_t (i := 554) (by decide +kernel) (by decide +kernel)
theorem m_555 : Jvm.Cond.code y_st_changeByMachine prog_7_method_4_code 3 (Option.none : Option Jvm.ClassFile.FieldType) ∈ uW := uW_t (i := 555) (by decide +kernel) (by decide +kernel)
theorem m_556 : Jvm.Cond.constant "TrapHart$Registers" 89 (46079 : Int32) ∈ uW := uW_t (i := 556) (by decide +kernel) (by decide +kernel)
theorem m_557 : Jvm.Cond.methodLink "TrapHart$Registers" 82 y_rg_changeOfSupervisor ∈ uW := uW_t (i := 557) (by decide +kernel) (by decide +kernel)
theorem m_559 : Jvm.Cond.instanceMethod y_rg_changeOfSupervisor ∈ uW := uW_t (i := 559) (by decide +kernel) (by decide +kernel)
theorem m_560 : Jvm.Cond.code y_rg_changeOfSupervisor prog_5_method_10_code 3 (Option.none : Option Jvm.ClassFile.FieldType) ∈ uW := uW_t (i := 560) (by decide +kernel) (by decide +kernel)
theorem m_563 : Jvm.Cond.instanceMethod y_st_changeBySupervisor ∈ uW := uW_t (i := 563) (by decide +kernel) (by decide +kernel)
theorem m_564 : Jvm.Cond.code y_st_changeBySupervisor prog_7_method_5_code 2 (Option.none : Option Jvm.ClassFile.FieldType) ∈ uW := uW_t (i := 564) (by decide +kernel) (by decide +kernel)
theorem m_566 : Jvm.Cond.methodLink "TrapHartLaw" 93 y_la_raise ∈ uW := uW_t (i := 566) (by decide +kernel) (by decide +kernel)
theorem m_567 : Jvm.Cond.static y_la_raise ∈ uW := uW_t (i := 567) (by decide +kernel) (by decide +kernel)
theorem m_568 : Jvm.Cond.codeWith y_la_raise method_8_code 4 (Option.some Jvm.ClassFile.FieldType.int) [(0, 9, 12, 13)] ∈ uW := uW_t (i := 568) (by decide +kernel) (by decide +kernel)
theorem m_569 : Jvm.Cond.methodLink "TrapHartLaw" 37 y_th_raise ∈ uW := uW_t (i := 569) (by decide +kernel) (by decide +kernel)
theorem m_570 : Jvm.Cond.instanceMethod y_th_raise ∈ uW := uW_t (i := 570) (by decide +kernel) (by decide +kernel)
theorem m_571 : Jvm.Cond.selects "TrapHart" y_th_raise y_th_raise ∈ uW := uW_t (i := 571) (by decide +kernel) (by decide +kernel)
theorem m_572 : Jvm.Cond.code y_th_raise prog_1_method_10_code 2 (Option.some Jvm.ClassFile.FieldType.int) ∈ uW := uW_t (i := 572) (by decide +kernel) (by decide +kernel)
theorem m_573 : Jvm.Cond.constant "TrapHart" 107 (48127 : Int32) ∈ uW := uW_t (i := 573) (by decide +kernel) (by decide +kernel)
theorem m_574 : Jvm.Cond.methodLink "TrapHart" 108 y_th_hasBit ∈ uW := uW_t (i := 574) (by decide +kernel) (by decide +kernel)
theorem m_576 : Jvm.Cond.methodLink "TrapHartLaw" 96 y_la_leave ∈ uW := uW_t (i := 576) (by decide +kernel) (by decide +kernel)
theorem m_577 : Jvm.Cond.static y_la_leave ∈ uW := uW_t (i := 577) (by decide +kernel) (by decide +kernel)
theorem m_578 : Jvm.Cond.codeWith y_la_leave method_9_code 4 (Option.some Jvm.ClassFile.FieldType.int) [(0, 9, 12, 32)] ∈ uW := uW_t (i := 578) (by decide +kernel) (by decide +kernel)
theorem m_579 : Jvm.Cond.methodLink "TrapHartLaw" 40 y_th_leave ∈ uW := uW_t (i := 579) (by decide +kernel) (by decide +kernel)
theorem m_580 : Jvm.Cond.instanceMethod y_th_leave ∈ uW := uW_t (i := 580) (by decide +kernel) (by decide +kernel)
theorem m_581 : Jvm.Cond.selects "TrapHart" y_th_leave y_th_leave ∈ uW := uW_t (i := 581) (by decide +kernel) (by decide +kernel)
theorem m_582 : Jvm.Cond.code y_th_leave prog_1_method_11_code 2 (Option.some Jvm.ClassFile.FieldType.int) ∈ uW := uW_t (i := 582) (by decide +kernel) (by decide +kernel)
theorem m_585 : Jvm.Cond.instanceMethod y_st_leaveMachine ∈ uW := uW_t (i := 585) (by decide +kernel) (by decide +kernel)
theorem m_586 : Jvm.Cond.code y_st_leaveMachine prog_7_method_8_code 3 (Option.some Jvm.ClassFile.FieldType.int) ∈ uW := uW_t (i := 586) (by decide +kernel) (by decide +kernel)
theorem m_589 : Jvm.Cond.instanceMethod y_st_leaveSupervisor ∈ uW := uW_t (i := 589) (by decide +kernel) (by decide +kernel)
theorem m_590 : Jvm.Cond.code y_st_leaveSupervisor prog_7_method_9_code 3 (Option.some Jvm.ClassFile.FieldType.int) ∈ uW := uW_t (i := 590) (by decide +kernel) (by decide +kernel)
theorem m_591 : Jvm.Cond.methodLink "TrapHartLaw" 112 y_la_source ∈ uW := uW_t (i := 591) (by decide +kernel) (by decide +kernel)
theorem m_592 : Jvm.Cond.static y_la_source ∈ uW := uW_t (i := 592) (by decide +kernel) (by decide +kernel)
theorem m_593 : Jvm.Cond.codeWith y_la_source method_10_code 4 (Option.some Jvm.ClassFile.FieldType.int) [(0, 9, 12, 19)] ∈ uW := uW_t (i := 593) (by decide +kernel) (by decide +kernel)
theorem m_594 : Jvm.Cond.methodLink "TrapHartLaw" 44 y_th_source ∈ uW := uW_t (i := 594) (by decide +kernel) (by decide +kernel)
theorem m_595 : Jvm.Cond.instanceMethod y_th_source ∈ uW := uW_t (i := 595) (by decide +kernel) (by decide +kernel)
theorem m_596 : Jvm.Cond.selects "TrapHart" y_th_source y_th_source ∈ uW := uW_t (i := 596) (by decide +kernel) (by decide +kernel)
theorem m_597 : Jvm.Cond.code y_th_source prog_1_method_15_code 2 (Option.some Jvm.ClassFile.FieldType.int) ∈ uW := uW_t (i := 597) (by decide +kernel) (by decide +kernel)
theorem m_599 : Jvm.Cond.classLink "TrapHartLaw" 55 "TrapHartModel" ∈ uW := uW_t (i := 599) (by decide +kernel) (by decide +kernel)
theorem m_600 : Jvm.Cond.instantiable "TrapHartModel" 22 ∈ uW := uW_t (i := 600) (by decide +kernel) (by decide +kernel)
theorem m_601 : Jvm.Cond.methodLink "TrapHartLaw" 57 y_mo_init ∈ uW := uW_t (i := 601) (by decide +kernel) (by decide +kernel)
theorem m_602 : Jvm.Cond.instanceMethod y_mo_init ∈ uW := uW_t (i := 602) (by decide +kernel) (by decide +kernel)
theorem m_603 : Jvm.Cond.code y_mo_init prog_10_method_1_code 3 (Option.none : Option Jvm.ClassFile.FieldType) ∈ uW := uW_t (i := 603) (by decide +kernel) (by decide +kernel)
theorem m_604 : Jvm.Cond.methodLink "TrapHartModel" 1 objectInit ∈ uW := uW_t (i := 604) (by decide +kernel) (by decide +kernel)
theorem m_605 : Jvm.Cond.constantLong "TrapHartModel" 39 (-1 : Int64) ∈ uW := uW_t (i := 605) (by decide +kernel) (by decide +kernel)
theorem m_606 : Jvm.Cond.fieldLink "TrapHartModel" 54 "TrapHartModel" "thrown" "I" ∈ uW := uW_t (i := 606) (by decide +kernel) (by decide +kernel)
theorem m_607 : Jvm.Cond.fieldLink "TrapHartModel" 7 "TrapHartModel" "privilege" "I" ∈ uW := uW_t (i := 607) (by decide +kernel) (by decide +kernel)
theorem m_608 : Jvm.Cond.fieldLink "TrapHartModel" 109 "TrapHartModel" "pc" "I" ∈ uW := uW_t (i := 608) (by decide +kernel) (by decide +kernel)
theorem m_609 : Jvm.Cond.fieldLink "TrapHartModel" 13 "TrapHartModel" "edges" "[Z" ∈ uW := uW_t (i := 609) (by decide +kernel) (by decide +kernel)
theorem m_610 : Jvm.Cond.fieldLink "TrapHartModel" 17 "TrapHartModel" "line" "[Z" ∈ uW := uW_t (i := 610) (by decide +kernel) (by decide +kernel)
theorem m_611 : Jvm.Cond.fieldLink "TrapHartModel" 20 "TrapHartModel" "priority" "[I" ∈ uW := uW_t (i := 611) (by decide +kernel) (by decide +kernel)
theorem m_612 : Jvm.Cond.fieldLink "TrapHartModel" 24 "TrapHartModel" "pending" "[Z" ∈ uW := uW_t (i := 612) (by decide +kernel) (by decide +kernel)
theorem m_613 : Jvm.Cond.fieldLink "TrapHartModel" 27 "TrapHartModel" "served" "[I" ∈ uW := uW_t (i := 613) (by decide +kernel) (by decide +kernel)
theorem m_614 : Jvm.Cond.fieldLink "TrapHartModel" 30 "TrapHartModel" "waiting" "[I" ∈ uW := uW_t (i := 614) (by decide +kernel) (by decide +kernel)
theorem m_615 : Jvm.Cond.fieldLink "TrapHartModel" 33 "TrapHartModel" "enabled" "[I" ∈ uW := uW_t (i := 615) (by decide +kernel) (by decide +kernel)
theorem m_616 : Jvm.Cond.fieldLink "TrapHartModel" 36 "TrapHartModel" "threshold" "[I" ∈ uW := uW_t (i := 616) (by decide +kernel) (by decide +kernel)
theorem m_617 : Jvm.Cond.fieldLink "TrapHartModel" 68 "TrapHartModel" "time" "J" ∈ uW := uW_t (i := 617) (by decide +kernel) (by decide +kernel)
theorem m_618 : Jvm.Cond.fieldLink "TrapHartModel" 41 "TrapHartModel" "compare" "J" ∈ uW := uW_t (i := 618) (by decide +kernel) (by decide +kernel)
theorem m_619 : Jvm.Cond.fieldLink "TrapHartModel" 81 "TrapHartModel" "soft" "I" ∈ uW := uW_t (i := 619) (by decide +kernel) (by decide +kernel)
theorem m_620 : Jvm.Cond.fieldLink "TrapHartModel" 131 "TrapHartModel" "status" "I" ∈ uW := uW_t (i := 620) (by decide +kernel) (by decide +kernel)
theorem m_621 : Jvm.Cond.fieldLink "TrapHartModel" 134 "TrapHartModel" "givenExceptions" "I" ∈ uW := uW_t (i := 621) (by decide +kernel) (by decide +kernel)
theorem m_622 : Jvm.Cond.fieldLink "TrapHartModel" 137 "TrapHartModel" "givenInterrupts" "I" ∈ uW := uW_t (i := 622) (by decide +kernel) (by decide +kernel)
theorem m_623 : Jvm.Cond.fieldLink "TrapHartModel" 140 "TrapHartModel" "wanted" "I" ∈ uW := uW_t (i := 623) (by decide +kernel) (by decide +kernel)
theorem m_624 : Jvm.Cond.fieldLink "TrapHartModel" 114 "TrapHartModel" "written" "I" ∈ uW := uW_t (i := 624) (by decide +kernel) (by decide +kernel)
theorem m_625 : Jvm.Cond.fieldLink "TrapHartModel" 45 "TrapHartModel" "vector" "[I" ∈ uW := uW_t (i := 625) (by decide +kernel) (by decide +kernel)
theorem m_626 : Jvm.Cond.fieldLink "TrapHartModel" 48 "TrapHartModel" "back" "[I" ∈ uW := uW_t (i := 626) (by decide +kernel) (by decide +kernel)
theorem m_627 : Jvm.Cond.fieldLink "TrapHartModel" 51 "TrapHartModel" "cause" "[I" ∈ uW := uW_t (i := 627) (by decide +kernel) (by decide +kernel)
theorem m_628 : Jvm.Cond.lays "TrapHartModel" "TrapHartModel" "thrown" "I" ∈ uW := uW_t (i := 628) (by decide +kernel) (by decide +kernel)
theorem m_630 : Jvm.Cond.lays "TrapHartModel" "TrapHartModel" "privilege" "I" ∈ uW := uW_t (i := 630) (by decide +kernel) (by decide +kernel)
theorem m_632 : Jvm.Cond.lays "TrapHartModel" "TrapHartModel" "pc" "I" ∈ uW := uW_t (i := 632) (by decide +kernel) (by decide +kernel)
theorem m_634 : Jvm.Cond.lays "TrapHartModel" "TrapHartModel" "edges" "[Z" ∈ uW := uW_t (i := 634) (by decide +kernel) (by decide +kernel)
theorem m_636 : Jvm.Cond.lays "TrapHartModel" "TrapHartModel" "line" "[Z" ∈ uW := uW_t (i := 636) (by decide +kernel) (by decide +kernel)
theorem m_638 : Jvm.Cond.lays "TrapHartModel" "TrapHartModel" "priority" "[I" ∈ uW := uW_t (i := 638) (by decide +kernel) (by decide +kernel)
theorem m_640 : Jvm.Cond.lays "TrapHartModel" "TrapHartModel" "pending" "[Z" ∈ uW := uW_t (i := 640) (by decide +kernel) (by decide +kernel)
theorem m_642 : Jvm.Cond.lays "TrapHartModel" "TrapHartModel" "served" "[I" ∈ uW := uW_t (i := 642) (by decide +kernel) (by decide +kernel)
theorem m_644 : Jvm.Cond.lays "TrapHartModel" "TrapHartModel" "waiting" "[I" ∈ uW := uW_t (i := 644) (by decide +kernel) (by decide +kernel)
theorem m_646 : Jvm.Cond.lays "TrapHartModel" "TrapHartModel" "enabled" "[I" ∈ uW := uW_t (i := 646) (by decide +kernel) (by decide +kernel)
theorem m_648 : Jvm.Cond.lays "TrapHartModel" "TrapHartModel" "threshold" "[I" ∈ uW := uW_t (i := 648) (by decide +kernel) (by decide +kernel)
theorem m_650 : Jvm.Cond.lays "TrapHartModel" "TrapHartModel" "time" "J" ∈ uW := uW_t (i := 650) (by decide +kernel) (by decide +kernel)
theorem m_652 : Jvm.Cond.lays "TrapHartModel" "TrapHartModel" "compare" "J" ∈ uW := uW_t (i := 652) (by decide +kernel) (by decide +kernel)
theorem m_654 : Jvm.Cond.lays "TrapHartModel" "TrapHartModel" "soft" "I" ∈ uW := uW_t (i := 654) (by decide +kernel) (by decide +kernel)
theorem m_656 : Jvm.Cond.lays "TrapHartModel" "TrapHartModel" "status" "I" ∈ uW := uW_t (i := 656) (by decide +kernel) (by decide +kernel)
theorem m_658 : Jvm.Cond.lays "TrapHartModel" "TrapHartModel" "givenExceptions" "I" ∈ uW := uW_t (i := 658) (by decide +kernel) (by decide +kernel)
theorem m_660 : Jvm.Cond.lays "TrapHartModel" "TrapHartModel" "givenInterrupts" "I" ∈ uW := uW_t (i := 660) (by decide +kernel) (by decide +kernel)
theorem m_662 : Jvm.Cond.lays "TrapHartModel" "TrapHartModel" "wanted" "I" ∈ uW := uW_t (i := 662) (by decide +kernel) (by decide +kernel)
theorem m_664 : Jvm.Cond.lays "TrapHartModel" "TrapHartModel" "written" "I" ∈ uW := uW_t (i := 664) (by decide +kernel) (by decide +kernel)
theorem m_666 : Jvm.Cond.lays "TrapHartModel" "TrapHartModel" "vector" "[I" ∈ uW := uW_t (i := 666) (by decide +kernel) (by decide +kernel)
theorem m_668 : Jvm.Cond.lays "TrapHartModel" "TrapHartModel" "back" "[I" ∈ uW := uW_t (i := 668) (by decide +kernel) (by decide +kernel)
theorem m_670 : Jvm.Cond.lays "TrapHartModel" "TrapHartModel" "cause" "[I" ∈ uW := uW_t (i := 670) (by decide +kernel) (by decide +kernel)
theorem m_673 : Jvm.Cond.arrayClass Jvm.ClassFile.FieldType.boolean ∈ uW := uW_t (i := 673) (by decide +kernel) (by decide +kernel)
theorem m_674 : Jvm.Cond.methodLink "TrapHartLaw" 66 y_mo_thrown ∈ uW := uW_t (i := 674) (by decide +kernel) (by decide +kernel)
theorem m_675 : Jvm.Cond.instanceMethod y_mo_thrown ∈ uW := uW_t (i := 675) (by decide +kernel) (by decide +kernel)
theorem m_676 : Jvm.Cond.selects "TrapHartModel" y_mo_thrown y_mo_thrown ∈ uW := uW_t (i := 676) (by decide +kernel) (by decide +kernel)
theorem m_677 : Jvm.Cond.code y_mo_thrown prog_10_method_2_code 1 (Option.some Jvm.ClassFile.FieldType.int) ∈ uW := uW_t (i := 677) (by decide +kernel) (by decide +kernel)
theorem m_678 : Jvm.Cond.methodLink "TrapHartLaw" 61 y_mo_lines ∈ uW := uW_t (i := 678) (by decide +kernel) (by decide +kernel)
theorem m_679 : Jvm.Cond.instanceMethod y_mo_lines ∈ uW := uW_t (i := 679) (by decide +kernel) (by decide +kernel)
theorem m_680 : Jvm.Cond.selects "TrapHartModel" y_mo_lines y_mo_lines ∈ uW := uW_t (i := 680) (by decide +kernel) (by decide +kernel)
theorem m_681 : Jvm.Cond.code y_mo_lines prog_10_method_5_code 4 (Option.some Jvm.ClassFile.FieldType.int) ∈ uW := uW_t (i := 681) (by decide +kernel) (by decide +kernel)
theorem m_682 : Jvm.Cond.methodLink "TrapHartModel" 57 y_mo_forward ∈ uW := uW_t (i := 682) (by decide +kernel) (by decide +kernel)
theorem m_684 : Jvm.Cond.instanceMethod y_mo_forward ∈ uW := uW_t (i := 684) (by decide +kernel) (by decide +kernel)
theorem m_685 : Jvm.Cond.code y_mo_forward prog_10_method_3_code 2 (Option.none : Option Jvm.ClassFile.FieldType) ∈ uW := uW_t (i := 685) (by decide +kernel) (by decide +kernel)
theorem m_686 : Jvm.Cond.methodLink "TrapHartModel" 60 y_mo_pendingSet ∈ uW := uW_t (i := 686) (by decide +kernel) (by decide +kernel)
theorem m_688 : Jvm.Cond.instanceMethod y_mo_pendingSet ∈ uW := uW_t (i := 688) (by decide +kernel) (by decide +kernel)
theorem m_689 : Jvm.Cond.code y_mo_pendingSet prog_10_method_4_code 3 (Option.some Jvm.ClassFile.FieldType.int) ∈ uW := uW_t (i := 689) (by decide +kernel) (by decide +kernel)
theorem m_690 : Jvm.Cond.methodLink "TrapHartLaw" 65 y_mo_ticks ∈ uW := uW_t (i := 690) (by decide +kernel) (by decide +kernel)
theorem m_691 : Jvm.Cond.instanceMethod y_mo_ticks ∈ uW := uW_t (i := 691) (by decide +kernel) (by decide +kernel)
theorem m_692 : Jvm.Cond.selects "TrapHartModel" y_mo_ticks y_mo_ticks ∈ uW := uW_t (i := 692) (by decide +kernel) (by decide +kernel)
theorem m_693 : Jvm.Cond.code y_mo_ticks prog_10_method_10_code 2 (Option.none : Option Jvm.ClassFile.FieldType) ∈ uW := uW_t (i := 693) (by decide +kernel) (by decide +kernel)
theorem m_694 : Jvm.Cond.methodLink "TrapHartLaw" 73 y_mo_load ∈ uW := uW_t (i := 694) (by decide +kernel) (by decide +kernel)
theorem m_695 : Jvm.Cond.instanceMethod y_mo_load ∈ uW := uW_t (i := 695) (by decide +kernel) (by decide +kernel)
theorem m_696 : Jvm.Cond.selects "TrapHartModel" y_mo_load y_mo_load ∈ uW := uW_t (i := 696) (by decide +kernel) (by decide +kernel)
theorem m_697 : Jvm.Cond.code y_mo_load prog_10_method_17_code 2 (Option.some Jvm.ClassFile.FieldType.int) ∈ uW := uW_t (i := 697) (by decide +kernel) (by decide +kernel)
theorem m_698 : Jvm.Cond.methodLink "TrapHartModel" 95 y_mo_bar ∈ uW := uW_t (i := 698) (by decide +kernel) (by decide +kernel)
theorem m_699 : Jvm.Cond.static y_mo_bar ∈ uW := uW_t (i := 699) (by decide +kernel) (by decide +kernel)
theorem m_700 : Jvm.Cond.code y_mo_bar prog_10_method_13_code 3 (Option.some Jvm.ClassFile.FieldType.int) ∈ uW := uW_t (i := 700) (by decide +kernel) (by decide +kernel)
theorem m_701 : Jvm.Cond.methodLink "TrapHartModel" 71 y_mo_wordAt ∈ uW := uW_t (i := 701) (by decide +kernel) (by decide +kernel)
theorem m_702 : Jvm.Cond.static y_mo_wordAt ∈ uW := uW_t (i := 702) (by decide +kernel) (by decide +kernel)
theorem m_703 : Jvm.Cond.code y_mo_wordAt prog_10_method_11_code 2 (Option.some Jvm.ClassFile.FieldType.int) ∈ uW := uW_t (i := 703) (by decide +kernel) (by decide +kernel)
theorem m_704 : Jvm.Cond.methodLink "TrapHartModel" 99 y_mo_take ∈ uW := uW_t (i := 704) (by decide +kernel) (by decide +kernel)
theorem m_706 : Jvm.Cond.instanceMethod y_mo_take ∈ uW := uW_t (i := 706) (by decide +kernel) (by decide +kernel)
theorem m_707 : Jvm.Cond.code y_mo_take prog_10_method_14_code 3 (Option.some Jvm.ClassFile.FieldType.int) ∈ uW := uW_t (i := 707) (by decide +kernel) (by decide +kernel)
theorem m_708 : Jvm.Cond.methodLink "TrapHartModel" 75 y_mo_contextAt ∈ uW := uW_t (i := 708) (by decide +kernel) (by decide +kernel)
theorem m_709 : Jvm.Cond.static y_mo_contextAt ∈ uW := uW_t (i := 709) (by decide +kernel) (by decide +kernel)
theorem m_710 : Jvm.Cond.code y_mo_contextAt prog_10_method_12_code 1 (Option.some Jvm.ClassFile.FieldType.int) ∈ uW := uW_t (i := 710) (by decide +kernel) (by decide +kernel)
theorem m_711 : Jvm.Cond.methodLink "TrapHartModel" 78 y_mo_claim ∈ uW := uW_t (i := 711) (by decide +kernel) (by decide +kernel)
theorem m_713 : Jvm.Cond.instanceMethod y_mo_claim ∈ uW := uW_t (i := 713) (by decide +kernel) (by decide +kernel)
theorem m_714 : Jvm.Cond.code y_mo_claim prog_10_method_7_code 4 (Option.some Jvm.ClassFile.FieldType.int) ∈ uW := uW_t (i := 714) (by decide +kernel) (by decide +kernel)
theorem m_715 : Jvm.Cond.methodLink "TrapHartModel" 64 y_mo_isEnabled ∈ uW := uW_t (i := 715) (by decide +kernel) (by decide +kernel)
theorem m_717 : Jvm.Cond.instanceMethod y_mo_isEnabled ∈ uW := uW_t (i := 717) (by decide +kernel) (by decide +kernel)
theorem m_718 : Jvm.Cond.code y_mo_isEnabled prog_10_method_6_code 3 (Option.some Jvm.ClassFile.FieldType.boolean) ∈ uW := uW_t (i := 718) (by decide +kernel) (by decide +kernel)
theorem m_719 : Jvm.Cond.methodLink "TrapHartLaw" 77 y_mo_store ∈ uW := uW_t (i := 719) (by decide +kernel) (by decide +kernel)
theorem m_720 : Jvm.Cond.instanceMethod y_mo_store ∈ uW := uW_t (i := 720) (by decide +kernel) (by decide +kernel)
theorem m_721 : Jvm.Cond.selects "TrapHartModel" y_mo_store y_mo_store ∈ uW := uW_t (i := 721) (by decide +kernel) (by decide +kernel)
theorem m_722 : Jvm.Cond.code y_mo_store prog_10_method_18_code 3 (Option.none : Option Jvm.ClassFile.FieldType) ∈ uW := uW_t (i := 722) (by decide +kernel) (by decide +kernel)
theorem m_723 : Jvm.Cond.methodLink "TrapHartModel" 102 y_mo_put ∈ uW := uW_t (i := 723) (by decide +kernel) (by decide +kernel)
theorem m_725 : Jvm.Cond.instanceMethod y_mo_put ∈ uW := uW_t (i := 725) (by decide +kernel) (by decide +kernel)
theorem m_726 : Jvm.Cond.code y_mo_put prog_10_method_16_code 4 (Option.none : Option Jvm.ClassFile.FieldType) ∈ uW := uW_t (i := 726) (by decide +kernel) (by decide +kernel)
theorem m_727 : Jvm.Cond.constant "TrapHartModel" 86 (65534 : Int32) ∈ uW := uW_t (i := 727) (by decide +kernel) (by decide +kernel)
theorem m_728 : Jvm.Cond.methodLink "TrapHartModel" 87 y_mo_complete ∈ uW := uW_t (i := 728) (by decide +kernel) (by decide +kernel)
theorem m_730 : Jvm.Cond.instanceMethod y_mo_complete ∈ uW := uW_t (i := 730) (by decide +kernel) (by decide +kernel)
theorem m_731 : Jvm.Cond.code y_mo_complete prog_10_method_8_code 3 (Option.none : Option Jvm.ClassFile.FieldType) ∈ uW := uW_t (i := 731) (by decide +kernel) (by decide +kernel)
theorem m_732 : Jvm.Cond.methodLink "TrapHartModel" 91 y_mo_half ∈ uW := uW_t (i := 732) (by decide +kernel) (by decide +kernel)
theorem m_733 : Jvm.Cond.static y_mo_half ∈ uW := uW_t (i := 733) (by decide +kernel) (by decide +kernel)
theorem m_734 : Jvm.Cond.code y_mo_half prog_10_method_15_code 8 (Option.some Jvm.ClassFile.FieldType.long) ∈ uW := uW_t (i := 734) (by decide +kernel) (by decide +kernel)
theorem m_735 : Jvm.Cond.constantLong "TrapHartModel" 84 (4294967295 : Int64) ∈ uW := uW_t (i := 735) (by decide +kernel) (by decide +kernel)
theorem m_736 : Jvm.Cond.methodLink "TrapHartLaw" 82 y_mo_access ∈ uW := uW_t (i := 736) (by decide +kernel) (by decide +kernel)
theorem m_737 : Jvm.Cond.instanceMethod y_mo_access ∈ uW := uW_t (i := 737) (by decide +kernel) (by decide +kernel)
theorem m_738 : Jvm.Cond.selects "TrapHartModel" y_mo_access y_mo_access ∈ uW := uW_t (i := 738) (by decide +kernel) (by decide +kernel)
theorem m_739 : Jvm.Cond.code y_mo_access prog_10_method_19_code 6 (Option.some Jvm.ClassFile.FieldType.long) ∈ uW := uW_t (i := 739) (by decide +kernel) (by decide +kernel)
theorem m_740 : Jvm.Cond.methodLink "TrapHartModel" 105 y_mo_trap ∈ uW := uW_t (i := 740) (by decide +kernel) (by decide +kernel)
theorem m_742 : Jvm.Cond.instanceMethod y_mo_trap ∈ uW := uW_t (i := 742) (by decide +kernel) (by decide +kernel)
theorem m_743 : Jvm.Cond.code y_mo_trap prog_10_method_29_code 5 (Option.none : Option Jvm.ClassFile.FieldType) ∈ uW := uW_t (i := 743) (by decide +kernel) (by decide +kernel)
theorem m_744 : Jvm.Cond.constant "TrapHartModel" 151 (-2147483648 : Int32) ∈ uW := uW_t (i := 744) (by decide +kernel) (by decide +kernel)
theorem m_745 : Jvm.Cond.methodLink "TrapHartModel" 152 y_mo_bit ∈ uW := uW_t (i := 745) (by decide +kernel) (by decide +kernel)
theorem m_747 : Jvm.Cond.instanceMethod y_mo_bit ∈ uW := uW_t (i := 747) (by decide +kernel) (by decide +kernel)
theorem m_748 : Jvm.Cond.code y_mo_bit prog_10_method_27_code 2 (Option.some Jvm.ClassFile.FieldType.boolean) ∈ uW := uW_t (i := 748) (by decide +kernel) (by decide +kernel)
theorem m_749 : Jvm.Cond.methodLink "TrapHartModel" 155 y_mo_setBit ∈ uW := uW_t (i := 749) (by decide +kernel) (by decide +kernel)
theorem m_751 : Jvm.Cond.instanceMethod y_mo_setBit ∈ uW := uW_t (i := 751) (by decide +kernel) (by decide +kernel)
theorem m_752 : Jvm.Cond.code y_mo_setBit prog_10_method_28_code 3 (Option.none : Option Jvm.ClassFile.FieldType) ∈ uW := uW_t (i := 752) (by decide +kernel) (by decide +kernel)
theorem m_753 : Jvm.Cond.methodLink "TrapHartModel" 146 y_mo_mixed ∈ uW := uW_t (i := 753) (by decide +kernel) (by decide +kernel)
theorem m_754 : Jvm.Cond.static y_mo_mixed ∈ uW := uW_t (i := 754) (by decide +kernel) (by decide +kernel)
theorem m_755 : Jvm.Cond.code y_mo_mixed prog_10_method_25_code 3 (Option.some Jvm.ClassFile.FieldType.int) ∈ uW := uW_t (i := 755) (by decide +kernel) (by decide +kernel)
theorem m_756 : Jvm.Cond.methodLink "TrapHartLaw" 85 y_mo_read ∈ uW := uW_t (i := 756) (by decide +kernel) (by decide +kernel)
theorem m_757 : Jvm.Cond.instanceMethod y_mo_read ∈ uW := uW_t (i := 757) (by decide +kernel) (by decide +kernel)
theorem m_758 : Jvm.Cond.selects "TrapHartModel" y_mo_read y_mo_read ∈ uW := uW_t (i := 758) (by decide +kernel) (by decide +kernel)
theorem m_759 : Jvm.Cond.code y_mo_read prog_10_method_24_code 2 (Option.some Jvm.ClassFile.FieldType.int) ∈ uW := uW_t (i := 759) (by decide +kernel) (by decide +kernel)
theorem m_760 : Jvm.Cond.methodLink "TrapHartModel" 128 y_mo_barRegister ∈ uW := uW_t (i := 760) (by decide +kernel) (by decide +kernel)
theorem m_762 : Jvm.Cond.instanceMethod y_mo_barRegister ∈ uW := uW_t (i := 762) (by decide +kernel) (by decide +kernel)
theorem m_763 : Jvm.Cond.code y_mo_barRegister prog_10_method_23_code 2 (Option.some Jvm.ClassFile.FieldType.int) ∈ uW := uW_t (i := 763) (by decide +kernel) (by decide +kernel)
theorem m_764 : Jvm.Cond.methodLink "TrapHartModel" 125 y_mo_isRegister ∈ uW := uW_t (i := 764) (by decide +kernel) (by decide +kernel)
theorem m_765 : Jvm.Cond.static y_mo_isRegister ∈ uW := uW_t (i := 765) (by decide +kernel) (by decide +kernel)
theorem m_766 : Jvm.Cond.code y_mo_isRegister prog_10_method_22_code 1 (Option.some Jvm.ClassFile.FieldType.boolean) ∈ uW := uW_t (i := 766) (by decide +kernel) (by decide +kernel)
theorem m_767 : Jvm.Cond.methodLink "TrapHartModel" 143 y_mo_interrupts ∈ uW := uW_t (i := 767) (by decide +kernel) (by decide +kernel)
theorem m_769 : Jvm.Cond.instanceMethod y_mo_interrupts ∈ uW := uW_t (i := 769) (by decide +kernel) (by decide +kernel)
theorem m_770 : Jvm.Cond.code y_mo_interrupts prog_10_method_21_code 2 (Option.some Jvm.ClassFile.FieldType.int) ∈ uW := uW_t (i := 770) (by decide +kernel) (by decide +kernel)
theorem m_771 : Jvm.Cond.methodLink "TrapHartModel" 117 y_mo_late ∈ uW := uW_t (i := 771) (by decide +kernel) (by decide +kernel)
theorem m_773 : Jvm.Cond.instanceMethod y_mo_late ∈ uW := uW_t (i := 773) (by decide +kernel) (by decide +kernel)
theorem m_774 : Jvm.Cond.code y_mo_late prog_10_method_20_code 1 (Option.some Jvm.ClassFile.FieldType.boolean) ∈ uW := uW_t (i := 774) (by decide +kernel) (by decide +kernel)
theorem m_775 : Jvm.Cond.constantLong "TrapHartModel" 112 (-9223372036854775808 : Int64) ∈ uW := uW_t (i := 775) (by decide +kernel) (by decide +kernel)
theorem m_776 : Jvm.Cond.methodLink "TrapHartModel" 121 y_mo_calls ∈ uW := uW_t (i := 776) (by decide +kernel) (by decide +kernel)
theorem m_778 : Jvm.Cond.instanceMethod y_mo_calls ∈ uW := uW_t (i := 778) (by decide +kernel) (by decide +kernel)
theorem m_779 : Jvm.Cond.code y_mo_calls prog_10_method_9_code 4 (Option.some Jvm.ClassFile.FieldType.boolean) ∈ uW := uW_t (i := 779) (by decide +kernel) (by decide +kernel)
theorem m_780 : Jvm.Cond.methodLink "TrapHartLaw" 88 y_mo_write ∈ uW := uW_t (i := 780) (by decide +kernel) (by decide +kernel)
theorem m_781 : Jvm.Cond.instanceMethod y_mo_write ∈ uW := uW_t (i := 781) (by decide +kernel) (by decide +kernel)
theorem m_782 : Jvm.Cond.selects "TrapHartModel" y_mo_write y_mo_write ∈ uW := uW_t (i := 782) (by decide +kernel) (by decide +kernel)
theorem m_783 : Jvm.Cond.code y_mo_write prog_10_method_26_code 3 (Option.none : Option Jvm.ClassFile.FieldType) ∈ uW := uW_t (i := 783) (by decide +kernel) (by decide +kernel)
theorem m_784 : Jvm.Cond.constant "TrapHartModel" 150 (46079 : Int32) ∈ uW := uW_t (i := 784) (by decide +kernel) (by decide +kernel)
theorem m_785 : Jvm.Cond.methodLink "TrapHartLaw" 111 y_mo_due ∈ uW := uW_t (i := 785) (by decide +kernel) (by decide +kernel)
theorem m_786 : Jvm.Cond.instanceMethod y_mo_due ∈ uW := uW_t (i := 786) (by decide +kernel) (by decide +kernel)
theorem m_787 : Jvm.Cond.selects "TrapHartModel" y_mo_due y_mo_due ∈ uW := uW_t (i := 787) (by decide +kernel) (by decide +kernel)
theorem m_788 : Jvm.Cond.code y_mo_due prog_10_method_32_code 1 (Option.some Jvm.ClassFile.FieldType.int) ∈ uW := uW_t (i := 788) (by decide +kernel) (by decide +kernel)
theorem m_789 : Jvm.Cond.methodLink "TrapHartModel" 161 y_mo_dueNow ∈ uW := uW_t (i := 789) (by decide +kernel) (by decide +kernel)
theorem m_791 : Jvm.Cond.instanceMethod y_mo_dueNow ∈ uW := uW_t (i := 791) (by decide +kernel) (by decide +kernel)
theorem m_792 : Jvm.Cond.code y_mo_dueNow prog_10_method_31_code 6 (Option.some Jvm.ClassFile.FieldType.int) ∈ uW := uW_t (i := 792) (by decide +kernel) (by decide +kernel)
theorem m_793 : Jvm.Cond.methodLink "TrapHartModel" 158 y_mo_order ∈ uW := uW_t (i := 793) (by decide +kernel) (by decide +kernel)
theorem m_794 : Jvm.Cond.static y_mo_order ∈ uW := uW_t (i := 794) (by decide +kernel) (by decide +kernel)
theorem m_795 : Jvm.Cond.code y_mo_order prog_10_method_30_code 1 (Option.some Jvm.ClassFile.FieldType.int) ∈ uW := uW_t (i := 795) (by decide +kernel) (by decide +kernel)
theorem m_796 : Jvm.Cond.methodLink "TrapHartLaw" 92 y_mo_step ∈ uW := uW_t (i := 796) (by decide +kernel) (by decide +kernel)
theorem m_797 : Jvm.Cond.instanceMethod y_mo_step ∈ uW := uW_t (i := 797) (by decide +kernel) (by decide +kernel)
theorem m_798 : Jvm.Cond.selects "TrapHartModel" y_mo_step y_mo_step ∈ uW := uW_t (i := 798) (by decide +kernel) (by decide +kernel)
theorem m_799 : Jvm.Cond.code y_mo_step prog_10_method_33_code 2 (Option.some Jvm.ClassFile.FieldType.int) ∈ uW := uW_t (i := 799) (by decide +kernel) (by decide +kernel)
theorem m_800 : Jvm.Cond.methodLink "TrapHartLaw" 95 y_mo_raise ∈ uW := uW_t (i := 800) (by decide +kernel) (by decide +kernel)
theorem m_801 : Jvm.Cond.instanceMethod y_mo_raise ∈ uW := uW_t (i := 801) (by decide +kernel) (by decide +kernel)
theorem m_802 : Jvm.Cond.selects "TrapHartModel" y_mo_raise y_mo_raise ∈ uW := uW_t (i := 802) (by decide +kernel) (by decide +kernel)
theorem m_803 : Jvm.Cond.code y_mo_raise prog_10_method_34_code 3 (Option.some Jvm.ClassFile.FieldType.int) ∈ uW := uW_t (i := 803) (by decide +kernel) (by decide +kernel)
theorem m_804 : Jvm.Cond.methodLink "TrapHartLaw" 99 y_mo_leave ∈ uW := uW_t (i := 804) (by decide +kernel) (by decide +kernel)
theorem m_805 : Jvm.Cond.instanceMethod y_mo_leave ∈ uW := uW_t (i := 805) (by decide +kernel) (by decide +kernel)
theorem m_806 : Jvm.Cond.selects "TrapHartModel" y_mo_leave y_mo_leave ∈ uW := uW_t (i := 806) (by decide +kernel) (by decide +kernel)
theorem m_807 : Jvm.Cond.code y_mo_leave prog_10_method_35_code 2 (Option.some Jvm.ClassFile.FieldType.int) ∈ uW := uW_t (i := 807) (by decide +kernel) (by decide +kernel)
theorem m_808 : Jvm.Cond.methodLink "TrapHartLaw" 103 y_mo_privilege ∈ uW := uW_t (i := 808) (by decide +kernel) (by decide +kernel)
theorem m_809 : Jvm.Cond.instanceMethod y_mo_privilege ∈ uW := uW_t (i := 809) (by decide +kernel) (by decide +kernel)
theorem m_810 : Jvm.Cond.selects "TrapHartModel" y_mo_privilege y_mo_privilege ∈ uW := uW_t (i := 810) (by decide +kernel) (by decide +kernel)
theorem m_811 : Jvm.Cond.code y_mo_privilege prog_10_method_36_code 1 (Option.some Jvm.ClassFile.FieldType.int) ∈ uW := uW_t (i := 811) (by decide +kernel) (by decide +kernel)
theorem m_812 : Jvm.Cond.methodLink "TrapHartLaw" 107 y_mo_pc ∈ uW := uW_t (i := 812) (by decide +kernel) (by decide +kernel)
theorem m_813 : Jvm.Cond.instanceMethod y_mo_pc ∈ uW := uW_t (i := 813) (by decide +kernel) (by decide +kernel)
theorem m_814 : Jvm.Cond.selects "TrapHartModel" y_mo_pc y_mo_pc ∈ uW := uW_t (i := 814) (by decide +kernel) (by decide +kernel)
theorem m_815 : Jvm.Cond.code y_mo_pc prog_10_method_37_code 1 (Option.some Jvm.ClassFile.FieldType.int) ∈ uW := uW_t (i := 815) (by decide +kernel) (by decide +kernel)
theorem m_816 : Jvm.Cond.methodLink "TrapHartLaw" 114 y_mo_source ∈ uW := uW_t (i := 816) (by decide +kernel) (by decide +kernel)
theorem m_817 : Jvm.Cond.instanceMethod y_mo_source ∈ uW := uW_t (i := 817) (by decide +kernel) (by decide +kernel)
theorem m_818 : Jvm.Cond.selects "TrapHartModel" y_mo_source y_mo_source ∈ uW := uW_t (i := 818) (by decide +kernel) (by decide +kernel)
theorem m_819 : Jvm.Cond.code y_mo_source prog_10_method_38_code 2 (Option.some Jvm.ClassFile.FieldType.int) ∈ uW := uW_t (i := 819) (by decide +kernel) (by decide +kernel)
theorem m_820 : Jvm.Cond.arrayClass Jvm.ClassFile.FieldType.long ∈ uW := uW_t (i := 820) (by decide +kernel) (by decide +kernel)
theorem ms_0 : Jvm.Cond.selects "TrapHart$Sources" y_so_drive y_so_drive ∈ uW := uW_s (i := 0) (by decide +kernel) (by decide +kernel)
theorem ms_1 : Jvm.Cond.selects "TrapHart$Sources" y_so_forward y_so_forward ∈ uW := uW_s (i := 1) (by decide +kernel) (by decide +kernel)
theorem ms_2 : Jvm.Cond.selects "TrapHart" y_th_enterTrap y_th_enterTrap ∈ uW := uW_s (i := 2) (by decide +kernel) (by decide +kernel)
theorem ms_3 : Jvm.Cond.selects "TrapHart$Registers" y_rg_isDelegated y_rg_isDelegated ∈ uW := uW_s (i := 3) (by decide +kernel) (by decide +kernel)
theorem ms_4 : Jvm.Cond.selects "TrapHart$Status" y_st_enterSupervisor y_st_enterSupervisor ∈ uW := uW_s (i := 4) (by decide +kernel) (by decide +kernel)
theorem ms_5 : Jvm.Cond.selects "TrapHart$Status" y_st_enterMachine y_st_enterMachine ∈ uW := uW_s (i := 5) (by decide +kernel) (by decide +kernel)
theorem ms_6 : Jvm.Cond.selects "TrapHart$Handler" y_hd_take y_hd_take ∈ uW := uW_s (i := 6) (by decide +kernel) (by decide +kernel)
theorem ms_7 : Jvm.Cond.selects "TrapHart$Devices" y_dv_writeWord y_dv_writeWord ∈ uW := uW_s (i := 7) (by decide +kernel) (by decide +kernel)
theorem ms_8 : Jvm.Cond.selects "TrapHart$Context" y_ct_complete y_ct_complete ∈ uW := uW_s (i := 8) (by decide +kernel) (by decide +kernel)
theorem ms_9 : Jvm.Cond.selects "TrapHart$Sources" y_so_release y_so_release ∈ uW := uW_s (i := 9) (by decide +kernel) (by decide +kernel)
theorem ms_10 : Jvm.Cond.selects "TrapHart$Devices" y_dv_readWord y_dv_readWord ∈ uW := uW_s (i := 10) (by decide +kernel) (by decide +kernel)
theorem ms_11 : Jvm.Cond.selects "TrapHart$Context" y_ct_claim y_ct_claim ∈ uW := uW_s (i := 11) (by decide +kernel) (by decide +kernel)
theorem ms_12 : Jvm.Cond.selects "TrapHart$Sources" y_so_best y_so_best ∈ uW := uW_s (i := 12) (by decide +kernel) (by decide +kernel)
theorem ms_13 : Jvm.Cond.selects "TrapHart$Sources" y_so_serve y_so_serve ∈ uW := uW_s (i := 13) (by decide +kernel) (by decide +kernel)
theorem ms_14 : Jvm.Cond.selects "TrapHart" y_th_interruptToTake y_th_interruptToTake ∈ uW := uW_s (i := 14) (by decide +kernel) (by decide +kernel)
theorem ms_15 : Jvm.Cond.selects "TrapHart$Registers" y_rg_pendingInterrupts y_rg_pendingInterrupts ∈ uW := uW_s (i := 15) (by decide +kernel) (by decide +kernel)
theorem ms_16 : Jvm.Cond.selects "TrapHart$Devices" y_dv_interrupts y_dv_interrupts ∈ uW := uW_s (i := 16) (by decide +kernel) (by decide +kernel)
theorem ms_17 : Jvm.Cond.selects "TrapHart$Timer" y_tm_isReached y_tm_isReached ∈ uW := uW_s (i := 17) (by decide +kernel) (by decide +kernel)
theorem ms_18 : Jvm.Cond.selects "TrapHart$Context" y_ct_isCalling y_ct_isCalling ∈ uW := uW_s (i := 18) (by decide +kernel) (by decide +kernel)
theorem ms_19 : Jvm.Cond.selects "TrapHart$Status" y_st_machineOpen y_st_machineOpen ∈ uW := uW_s (i := 19) (by decide +kernel) (by decide +kernel)
theorem ms_20 : Jvm.Cond.selects "TrapHart$Status" y_st_supervisorOpen y_st_supervisorOpen ∈ uW := uW_s (i := 20) (by decide +kernel) (by decide +kernel)
theorem ms_22 : Jvm.Cond.selects "TrapHart" y_th_refuseRegister y_th_refuseRegister ∈ uW := uW_s (i := 22) (by decide +kernel) (by decide +kernel)
theorem ms_23 : Jvm.Cond.selects "TrapHart$Registers" y_rg_valueOf y_rg_valueOf ∈ uW := uW_s (i := 23) (by decide +kernel) (by decide +kernel)
theorem ms_24 : Jvm.Cond.selects "TrapHart$Registers" y_rg_change y_rg_change ∈ uW := uW_s (i := 24) (by decide +kernel) (by decide +kernel)
theorem ms_25 : Jvm.Cond.selects "TrapHart$Registers" y_rg_changeOfMachine y_rg_changeOfMachine ∈ uW := uW_s (i := 25) (by decide +kernel) (by decide +kernel)
theorem ms_26 : Jvm.Cond.selects "TrapHart$Status" y_st_changeByMachine y_st_changeByMachine ∈ uW := uW_s (i := 26) (by decide +kernel) (by decide +kernel)
theorem ms_27 : Jvm.Cond.selects "TrapHart$Registers" y_rg_changeOfSupervisor y_rg_changeOfSupervisor ∈ uW := uW_s (i := 27) (by decide +kernel) (by decide +kernel)
theorem ms_28 : Jvm.Cond.selects "TrapHart$Status" y_st_changeBySupervisor y_st_changeBySupervisor ∈ uW := uW_s (i := 28) (by decide +kernel) (by decide +kernel)
theorem ms_29 : Jvm.Cond.selects "TrapHart$Status" y_st_leaveMachine y_st_leaveMachine ∈ uW := uW_s (i := 29) (by decide +kernel) (by decide +kernel)
theorem ms_30 : Jvm.Cond.selects "TrapHart$Status" y_st_leaveSupervisor y_st_leaveSupervisor ∈ uW := uW_s (i := 30) (by decide +kernel) (by decide +kernel)
theorem ms_31 : Jvm.Cond.selects "TrapHartModel" y_mo_forward y_mo_forward ∈ uW := uW_s (i := 31) (by decide +kernel) (by decide +kernel)
theorem ms_32 : Jvm.Cond.selects "TrapHartModel" y_mo_pendingSet y_mo_pendingSet ∈ uW := uW_s (i := 32) (by decide +kernel) (by decide +kernel)
theorem ms_33 : Jvm.Cond.selects "TrapHartModel" y_mo_take y_mo_take ∈ uW := uW_s (i := 33) (by decide +kernel) (by decide +kernel)
theorem ms_34 : Jvm.Cond.selects "TrapHartModel" y_mo_claim y_mo_claim ∈ uW := uW_s (i := 34) (by decide +kernel) (by decide +kernel)
theorem ms_35 : Jvm.Cond.selects "TrapHartModel" y_mo_isEnabled y_mo_isEnabled ∈ uW := uW_s (i := 35) (by decide +kernel) (by decide +kernel)
theorem ms_36 : Jvm.Cond.selects "TrapHartModel" y_mo_put y_mo_put ∈ uW := uW_s (i := 36) (by decide +kernel) (by decide +kernel)
theorem ms_37 : Jvm.Cond.selects "TrapHartModel" y_mo_complete y_mo_complete ∈ uW := uW_s (i := 37) (by decide +kernel) (by decide +kernel)
theorem ms_38 : Jvm.Cond.selects "TrapHartModel" y_mo_trap y_mo_trap ∈ uW := uW_s (i := 38) (by decide +kernel) (by decide +kernel)
theorem ms_39 : Jvm.Cond.selects "TrapHartModel" y_mo_bit y_mo_bit ∈ uW := uW_s (i := 39) (by decide +kernel) (by decide +kernel)
theorem ms_40 : Jvm.Cond.selects "TrapHartModel" y_mo_setBit y_mo_setBit ∈ uW := uW_s (i := 40) (by decide +kernel) (by decide +kernel)
theorem ms_41 : Jvm.Cond.selects "TrapHartModel" y_mo_barRegister y_mo_barRegister ∈ uW := uW_s (i := 41) (by decide +kernel) (by decide +kernel)
theorem ms_42 : Jvm.Cond.selects "TrapHartModel" y_mo_interrupts y_mo_interrupts ∈ uW := uW_s (i := 42) (by decide +kernel) (by decide +kernel)
theorem ms_43 : Jvm.Cond.selects "TrapHartModel" y_mo_late y_mo_late ∈ uW := uW_s (i := 43) (by decide +kernel) (by decide +kernel)
theorem ms_44 : Jvm.Cond.selects "TrapHartModel" y_mo_calls y_mo_calls ∈ uW := uW_s (i := 44) (by decide +kernel) (by decide +kernel)
theorem ms_45 : Jvm.Cond.selects "TrapHartModel" y_mo_dueNow y_mo_dueNow ∈ uW := uW_s (i := 45) (by decide +kernel) (by decide +kernel)
/-- the links to members of a nest mate -/
def nL : List Cond := [Jvm.Cond.methodLinkNest "TrapHart" 9 y_dv_init "TrapHart", Jvm.Cond.methodLinkNest "TrapHart$Devices" 9 y_so_init "TrapHart", Jvm.Cond.fieldLinkNest "TrapHart$Devices" 44 "TrapHart$Sources" "priority" "[I" "TrapHart", Jvm.Cond.fieldLinkNest "TrapHart" 148 "TrapHart$Sources" "waiting" "[I" "TrapHart", Jvm.Cond.fieldLinkNest "TrapHart" 152 "TrapHart$Sources" "server" "[I" "TrapHart", Jvm.Cond.fieldLinkNest "TrapHart" 43 "TrapHart$Sources" "pending" "I" "TrapHart", Jvm.Cond.fieldLinkNest "TrapHart$Devices" 48 "TrapHart$Sources" "pending" "I" "TrapHart", Jvm.Cond.methodLinkNest "TrapHart$Devices" 20 y_ct_init "TrapHart", Jvm.Cond.fieldLinkNest "TrapHart$Devices" 52 "TrapHart$Context" "enabledSet" "I" "TrapHart", Jvm.Cond.fieldLinkNest "TrapHart$Devices" 55 "TrapHart$Context" "threshold" "I" "TrapHart", Jvm.Cond.methodLinkNest "TrapHart$Devices" 32 y_tm_init "TrapHart", Jvm.Cond.fieldLinkNest "TrapHart" 57 "TrapHart$Timer" "time" "J" "TrapHart", Jvm.Cond.fieldLinkNest "TrapHart$Devices" 69 "TrapHart$Timer" "time" "J" "TrapHart", Jvm.Cond.fieldLinkNest "TrapHart$Devices" 65 "TrapHart$Timer" "compare" "J" "TrapHart", Jvm.Cond.fieldLinkNest "TrapHart$Devices" 62 "TrapHart$Timer" "soft" "I" "TrapHart", Jvm.Cond.fieldLinkNest "TrapHart" 34 "TrapHart$Devices" "sources" "LTrapHart$Sources;" "TrapHart", Jvm.Cond.fieldLinkNest "TrapHart" 53 "TrapHart$Devices" "timer" "LTrapHart$Timer;" "TrapHart", Jvm.Cond.methodLinkNest "TrapHart" 20 y_rg_init "TrapHart", Jvm.Cond.methodLinkNest "TrapHart$Registers" 11 y_st_init "TrapHart", Jvm.Cond.fieldLinkNest "TrapHart$Registers" 56 "TrapHart$Status" "bits" "I" "TrapHart", Jvm.Cond.methodLinkNest "TrapHart$Registers" 20 y_hd_init "TrapHart", Jvm.Cond.fieldLinkNest "TrapHart$Registers" 62 "TrapHart$Handler" "vector" "I" "TrapHart", Jvm.Cond.fieldLinkNest "TrapHart$Registers" 65 "TrapHart$Handler" "comeBack" "I" "TrapHart", Jvm.Cond.fieldLinkNest "TrapHart" 132 "TrapHart$Handler" "comeBack" "I" "TrapHart", Jvm.Cond.fieldLinkNest "TrapHart$Registers" 68 "TrapHart$Handler" "cause" "I" "TrapHart", Jvm.Cond.fieldLinkNest "TrapHart" 119 "TrapHart$Registers" "status" "LTrapHart$Status;" "TrapHart", Jvm.Cond.fieldLinkNest "TrapHart" 128 "TrapHart$Registers" "machine" "LTrapHart$Handler;" "TrapHart", Jvm.Cond.fieldLinkNest "TrapHart" 140 "TrapHart$Registers" "supervisor" "LTrapHart$Handler;" "TrapHart", Jvm.Cond.fieldLinkNest "TrapHart" 181 "TrapHart$Registers" "delegatedInterrupts" "I" "TrapHart", Jvm.Cond.fieldLinkNest "TrapHart" 174 "TrapHart$Registers" "enabled" "I" "TrapHart", Jvm.Cond.methodLinkNest "TrapHart" 38 y_so_drive "TrapHart", Jvm.Cond.methodLinkNest "TrapHart$Sources" 27 y_th_hasBit "TrapHart", Jvm.Cond.methodLinkNest "TrapHart" 63 y_dv_faultAt "TrapHart", Jvm.Cond.methodLinkNest "TrapHart" 190 y_rg_isDelegated "TrapHart", Jvm.Cond.methodLinkNest "TrapHart$Registers" 36 y_th_hasBit "TrapHart", Jvm.Cond.methodLinkNest "TrapHart" 194 y_st_enterSupervisor "TrapHart", Jvm.Cond.methodLinkNest "TrapHart$Status" 13 y_th_replaceBits "TrapHart", Jvm.Cond.methodLinkNest "TrapHart" 197 y_st_enterMachine "TrapHart", Jvm.Cond.methodLinkNest "TrapHart" 200 y_hd_take "TrapHart", Jvm.Cond.methodLinkNest "TrapHart" 79 y_dv_writeWord "TrapHart", Jvm.Cond.methodLinkNest "TrapHart$Devices" 73 y_ct_complete "TrapHart", Jvm.Cond.methodLinkNest "TrapHart$Context" 30 y_th_hasBit "TrapHart", Jvm.Cond.methodLinkNest "TrapHart$Context" 36 y_so_release "TrapHart", Jvm.Cond.methodLinkNest "TrapHart$Devices" 76 y_tm_withLower "TrapHart", Jvm.Cond.methodLinkNest "TrapHart$Devices" 80 y_tm_withHigher "TrapHart", Jvm.Cond.methodLinkNest "TrapHart" 70 y_dv_readWord "TrapHart", Jvm.Cond.methodLinkNest "TrapHart$Devices" 58 y_ct_claim "TrapHart", Jvm.Cond.methodLinkNest "TrapHart$Context" 20 y_so_best "TrapHart", Jvm.Cond.methodLinkNest "TrapHart$Context" 26 y_so_serve "TrapHart", Jvm.Cond.methodLinkNest "TrapHart" 171 y_rg_pendingInterrupts "TrapHart", Jvm.Cond.methodLinkNest "TrapHart$Registers" 50 y_dv_interrupts "TrapHart", Jvm.Cond.methodLinkNest "TrapHart$Devices" 83 y_tm_isReached "TrapHart", Jvm.Cond.methodLinkNest "TrapHart$Devices" 87 y_ct_isCalling "TrapHart", Jvm.Cond.methodLinkNest "TrapHart" 177 y_st_machineOpen "TrapHart", Jvm.Cond.methodLinkNest "TrapHart" 184 y_rg_firstInterrupt "TrapHart", Jvm.Cond.methodLinkNest "TrapHart" 187 y_st_supervisorOpen "TrapHart", Jvm.Cond.methodLinkNest "TrapHart" 159 y_rg_isThere "TrapHart", Jvm.Cond.methodLinkNest "TrapHart" 168 y_rg_isOfMachine "TrapHart", Jvm.Cond.methodLinkNest "TrapHart" 97 y_rg_valueOf "TrapHart", Jvm.Cond.methodLinkNest "TrapHart" 100 y_rg_change "TrapHart", Jvm.Cond.methodLinkNest "TrapHart$Registers" 85 y_st_changeByMachine "TrapHart", Jvm.Cond.methodLinkNest "TrapHart$Registers" 90 y_st_changeBySupervisor "TrapHart", Jvm.Cond.methodLinkNest "TrapHart$Registers" 93 y_th_replaceBits "TrapHart", Jvm.Cond.methodLinkNest "TrapHart" 123 y_st_leaveMachine "TrapHart", Jvm.Cond.methodLinkNest "TrapHart" 137 y_st_leaveSupervisor "TrapHart"]
theorem nL_in : ∀ w ∈ nL, w ∈ tables_1 := by
  intro w h
  simp only [nL, List.mem_cons, List.not_mem_nil, or_false] at h
  rcases h with h | h | h | h | h | h | h | h | h | h | h | h | h | h | h | h | h | h | h | h | h | h | h | h | h | h | h | h | h | h | h | h | h | h | h | h | h | h | h | h | h | h | h | h | h | h | h | h | h | h | h | h | h | h | h | h | h | h | h | h | h | h | h | h | h
  · subst h; exact List.mem_of_getElem? (i := 28) (by decide +kernel)
  · subst h; exact List.mem_of_getElem? (i := 34) (by decide +kernel)
  · subst h; exact List.mem_of_getElem? (i := 41) (by decide +kernel)
  · subst h; exact List.mem_of_getElem? (i := 43) (by decide +kernel)
  · subst h; exact List.mem_of_getElem? (i := 45) (by decide +kernel)
  · subst h; exact List.mem_of_getElem? (i := 47) (by decide +kernel)
  · subst h; exact List.mem_of_getElem? (i := 49) (by decide +kernel)
  · subst h; exact List.mem_of_getElem? (i := 66) (by decide +kernel)
  · subst h; exact List.mem_of_getElem? (i := 73) (by decide +kernel)
  · subst h; exact List.mem_of_getElem? (i := 75) (by decide +kernel)
  · subst h; exact List.mem_of_getElem? (i := 87) (by decide +kernel)
  · subst h; exact List.mem_of_getElem? (i := 93) (by decide +kernel)
  · subst h; exact List.mem_of_getElem? (i := 94) (by decide +kernel)
  · subst h; exact List.mem_of_getElem? (i := 96) (by decide +kernel)
  · subst h; exact List.mem_of_getElem? (i := 98) (by decide +kernel)
  · subst h; exact List.mem_of_getElem? (i := 107) (by decide +kernel)
  · subst h; exact List.mem_of_getElem? (i := 111) (by decide +kernel)
  · subst h; exact List.mem_of_getElem? (i := 123) (by decide +kernel)
  · subst h; exact List.mem_of_getElem? (i := 129) (by decide +kernel)
  · subst h; exact List.mem_of_getElem? (i := 134) (by decide +kernel)
  · subst h; exact List.mem_of_getElem? (i := 140) (by decide +kernel)
  · subst h; exact List.mem_of_getElem? (i := 145) (by decide +kernel)
  · subst h; exact List.mem_of_getElem? (i := 147) (by decide +kernel)
  · subst h; exact List.mem_of_getElem? (i := 148) (by decide +kernel)
  · subst h; exact List.mem_of_getElem? (i := 150) (by decide +kernel)
  · subst h; exact List.mem_of_getElem? (i := 160) (by decide +kernel)
  · subst h; exact List.mem_of_getElem? (i := 162) (by decide +kernel)
  · subst h; exact List.mem_of_getElem? (i := 164) (by decide +kernel)
  · subst h; exact List.mem_of_getElem? (i := 167) (by decide +kernel)
  · subst h; exact List.mem_of_getElem? (i := 169) (by decide +kernel)
  · subst h; exact List.mem_of_getElem? (i := 205) (by decide +kernel)
  · subst h; exact List.mem_of_getElem? (i := 209) (by decide +kernel)
  · subst h; exact List.mem_of_getElem? (i := 220) (by decide +kernel)
  · subst h; exact List.mem_of_getElem? (i := 236) (by decide +kernel)
  · subst h; exact List.mem_of_getElem? (i := 240) (by decide +kernel)
  · subst h; exact List.mem_of_getElem? (i := 241) (by decide +kernel)
  · subst h; exact List.mem_of_getElem? (i := 245) (by decide +kernel)
  · subst h; exact List.mem_of_getElem? (i := 248) (by decide +kernel)
  · subst h; exact List.mem_of_getElem? (i := 252) (by decide +kernel)
  · subst h; exact List.mem_of_getElem? (i := 258) (by decide +kernel)
  · subst h; exact List.mem_of_getElem? (i := 263) (by decide +kernel)
  · subst h; exact List.mem_of_getElem? (i := 267) (by decide +kernel)
  · subst h; exact List.mem_of_getElem? (i := 268) (by decide +kernel)
  · subst h; exact List.mem_of_getElem? (i := 272) (by decide +kernel)
  · subst h; exact List.mem_of_getElem? (i := 277) (by decide +kernel)
  · subst h; exact List.mem_of_getElem? (i := 280) (by decide +kernel)
  · subst h; exact List.mem_of_getElem? (i := 284) (by decide +kernel)
  · subst h; exact List.mem_of_getElem? (i := 288) (by decide +kernel)
  · subst h; exact List.mem_of_getElem? (i := 292) (by decide +kernel)
  · subst h; exact List.mem_of_getElem? (i := 305) (by decide +kernel)
  · subst h; exact List.mem_of_getElem? (i := 309) (by decide +kernel)
  · subst h; exact List.mem_of_getElem? (i := 313) (by decide +kernel)
  · subst h; exact List.mem_of_getElem? (i := 318) (by decide +kernel)
  · subst h; exact List.mem_of_getElem? (i := 322) (by decide +kernel)
  · subst h; exact List.mem_of_getElem? (i := 326) (by decide +kernel)
  · subst h; exact List.mem_of_getElem? (i := 331) (by decide +kernel)
  · subst h; exact List.mem_of_getElem? (i := 493) (by decide +kernel)
  · subst h; exact List.mem_of_getElem? (i := 512) (by decide +kernel)
  · subst h; exact List.mem_of_getElem? (i := 531) (by decide +kernel)
  · subst h; exact List.mem_of_getElem? (i := 543) (by decide +kernel)
  · subst h; exact List.mem_of_getElem? (i := 552) (by decide +kernel)
  · subst h; exact List.mem_of_getElem? (i := 561) (by decide +kernel)
  · subst h; exact List.mem_of_getElem? (i := 565) (by decide +kernel)
  · subst h; exact List.mem_of_getElem? (i := 583) (by decide +kernel)
  · subst h; exact List.mem_of_getElem? (i := 587) (by decide +kernel)
theorem n_28 : Jvm.Cond.methodLinkNest "TrapHart" 9 y_dv_init "TrapHart" ∈ nL := List.mem_of_getElem? (i := 0) rfl
theorem n_34 : Jvm.Cond.methodLinkNest "TrapHart$Devices" 9 y_so_init "TrapHart" ∈ nL := List.mem_of_getElem? (i := 1) rfl
theorem n_41 : Jvm.Cond.fieldLinkNest "TrapHart$Devices" 44 "TrapHart$Sources" "priority" "[I" "TrapHart" ∈ nL := List.mem_of_getElem? (i := 2) rfl
theorem n_43 : Jvm.Cond.fieldLinkNest "TrapHart" 148 "TrapHart$Sources" "waiting" "[I" "TrapHart" ∈ nL := List.mem_of_getElem? (i := 3) rfl
theorem n_45 : Jvm.Cond.fieldLinkNest "TrapHart" 152 "TrapHart$Sources" "server" "[I" "TrapHart" ∈ nL := List.mem_of_getElem? (i := 4) rfl
theorem n_47 : Jvm.Cond.fieldLinkNest "TrapHart" 43 "TrapHart$Sources" "pending" "I" "TrapHart" ∈ nL := List.mem_of_getElem? (i := 5) rfl
theorem n_49 : Jvm.Cond.fieldLinkNest "TrapHart$Devices" 48 "TrapHart$Sources" "pending" "I" "TrapHart" ∈ nL := List.mem_of_getElem? (i := 6) rfl
theorem n_66 : Jvm.Cond.methodLinkNest "TrapHart$Devices" 20 y_ct_init "TrapHart" ∈ nL := List.mem_of_getElem? (i := 7) rfl
theorem n_73 : Jvm.Cond.fieldLinkNest "TrapHart$Devices" 52 "TrapHart$Context" "enabledSet" "I" "TrapHart" ∈ nL := List.mem_of_getElem? (i := 8) rfl
theorem n_75 : Jvm.Cond.fieldLinkNest "TrapHart$Devices" 55 "TrapHart$Context" "threshold" "I" "TrapHart" ∈ nL := List.mem_of_getElem? (i := 9) rfl
theorem n_87 : Jvm.Cond.methodLinkNest "TrapHart$Devices" 32 y_tm_init "TrapHart" ∈ nL := List.mem_of_getElem? (i := 10) rfl
theorem n_93 : Jvm.Cond.fieldLinkNest "TrapHart" 57 "TrapHart$Timer" "time" "J" "TrapHart" ∈ nL := List.mem_of_getElem? (i := 11) rfl
theorem n_94 : Jvm.Cond.fieldLinkNest "TrapHart$Devices" 69 "TrapHart$Timer" "time" "J" "TrapHart" ∈ nL := List.mem_of_getElem? (i := 12) rfl
theorem n_96 : Jvm.Cond.fieldLinkNest "TrapHart$Devices" 65 "TrapHart$Timer" "compare" "J" "TrapHart" ∈ nL := List.mem_of_getElem? (i := 13) rfl
theorem n_98 : Jvm.Cond.fieldLinkNest "TrapHart$Devices" 62 "TrapHart$Timer" "soft" "I" "TrapHart" ∈ nL := List.mem_of_getElem? (i := 14) rfl
theorem n_107 : Jvm.Cond.fieldLinkNest "TrapHart" 34 "TrapHart$Devices" "sources" "LTrapHart$Sources;" "TrapHart" ∈ nL := List.mem_of_getElem? (i := 15) rfl
theorem n_111 : Jvm.Cond.fieldLinkNest "TrapHart" 53 "TrapHart$Devices" "timer" "LTrapHart$Timer;" "TrapHart" ∈ nL := List.mem_of_getElem? (i := 16) rfl
theorem n_123 : Jvm.Cond.methodLinkNest "TrapHart" 20 y_rg_init "TrapHart" ∈ nL := List.mem_of_getElem? (i := 17) rfl
theorem n_129 : Jvm.Cond.methodLinkNest "TrapHart$Registers" 11 y_st_init "TrapHart" ∈ nL := List.mem_of_getElem? (i := 18) rfl
theorem n_134 : Jvm.Cond.fieldLinkNest "TrapHart$Registers" 56 "TrapHart$Status" "bits" "I" "TrapHart" ∈ nL := List.mem_of_getElem? (i := 19) rfl
theorem n_140 : Jvm.Cond.methodLinkNest "TrapHart$Registers" 20 y_hd_init "TrapHart" ∈ nL := List.mem_of_getElem? (i := 20) rfl
theorem n_145 : Jvm.Cond.fieldLinkNest "TrapHart$Registers" 62 "TrapHart$Handler" "vector" "I" "TrapHart" ∈ nL := List.mem_of_getElem? (i := 21) rfl
theorem n_147 : Jvm.Cond.fieldLinkNest "TrapHart$Registers" 65 "TrapHart$Handler" "comeBack" "I" "TrapHart" ∈ nL := List.mem_of_getElem? (i := 22) rfl
theorem n_148 : Jvm.Cond.fieldLinkNest "TrapHart" 132 "TrapHart$Handler" "comeBack" "I" "TrapHart" ∈ nL := List.mem_of_getElem? (i := 23) rfl
theorem n_150 : Jvm.Cond.fieldLinkNest "TrapHart$Registers" 68 "TrapHart$Handler" "cause" "I" "TrapHart" ∈ nL := List.mem_of_getElem? (i := 24) rfl
theorem n_160 : Jvm.Cond.fieldLinkNest "TrapHart" 119 "TrapHart$Registers" "status" "LTrapHart$Status;" "TrapHart" ∈ nL := List.mem_of_getElem? (i := 25) rfl
theorem n_162 : Jvm.Cond.fieldLinkNest "TrapHart" 128 "TrapHart$Registers" "machine" "LTrapHart$Handler;" "TrapHart" ∈ nL := List.mem_of_getElem? (i := 26) rfl
theorem n_164 : Jvm.Cond.fieldLinkNest "TrapHart" 140 "TrapHart$Registers" "supervisor" "LTrapHart$Handler;" "TrapHart" ∈ nL := List.mem_of_getElem? (i := 27) rfl
theorem n_167 : Jvm.Cond.fieldLinkNest "TrapHart" 181 "TrapHart$Registers" "delegatedInterrupts" "I" "TrapHart" ∈ nL := List.mem_of_getElem? (i := 28) rfl
theorem n_169 : Jvm.Cond.fieldLinkNest "TrapHart" 174 "TrapHart$Registers" "enabled" "I" "TrapHart" ∈ nL := List.mem_of_getElem? (i := 29) rfl
theorem n_205 : Jvm.Cond.methodLinkNest "TrapHart" 38 y_so_drive "TrapHart" ∈ nL := List.mem_of_getElem? (i := 30) rfl
theorem n_209 : Jvm.Cond.methodLinkNest "TrapHart$Sources" 27 y_th_hasBit "TrapHart" ∈ nL := List.mem_of_getElem? (i := 31) rfl
theorem n_220 : Jvm.Cond.methodLinkNest "TrapHart" 63 y_dv_faultAt "TrapHart" ∈ nL := List.mem_of_getElem? (i := 32) rfl
theorem n_236 : Jvm.Cond.methodLinkNest "TrapHart" 190 y_rg_isDelegated "TrapHart" ∈ nL := List.mem_of_getElem? (i := 33) rfl
theorem n_240 : Jvm.Cond.methodLinkNest "TrapHart$Registers" 36 y_th_hasBit "TrapHart" ∈ nL := List.mem_of_getElem? (i := 34) rfl
theorem n_241 : Jvm.Cond.methodLinkNest "TrapHart" 194 y_st_enterSupervisor "TrapHart" ∈ nL := List.mem_of_getElem? (i := 35) rfl
theorem n_245 : Jvm.Cond.methodLinkNest "TrapHart$Status" 13 y_th_replaceBits "TrapHart" ∈ nL := List.mem_of_getElem? (i := 36) rfl
theorem n_248 : Jvm.Cond.methodLinkNest "TrapHart" 197 y_st_enterMachine "TrapHart" ∈ nL := List.mem_of_getElem? (i := 37) rfl
theorem n_252 : Jvm.Cond.methodLinkNest "TrapHart" 200 y_hd_take "TrapHart" ∈ nL := List.mem_of_getElem? (i := 38) rfl
theorem n_258 : Jvm.Cond.methodLinkNest "TrapHart" 79 y_dv_writeWord "TrapHart" ∈ nL := List.mem_of_getElem? (i := 39) rfl
theorem n_263 : Jvm.Cond.methodLinkNest "TrapHart$Devices" 73 y_ct_complete "TrapHart" ∈ nL := List.mem_of_getElem? (i := 40) rfl
theorem n_267 : Jvm.Cond.methodLinkNest "TrapHart$Context" 30 y_th_hasBit "TrapHart" ∈ nL := List.mem_of_getElem? (i := 41) rfl
theorem n_268 : Jvm.Cond.methodLinkNest "TrapHart$Context" 36 y_so_release "TrapHart" ∈ nL := List.mem_of_getElem? (i := 42) rfl
theorem n_272 : Jvm.Cond.methodLinkNest "TrapHart$Devices" 76 y_tm_withLower "TrapHart" ∈ nL := List.mem_of_getElem? (i := 43) rfl
theorem n_277 : Jvm.Cond.methodLinkNest "TrapHart$Devices" 80 y_tm_withHigher "TrapHart" ∈ nL := List.mem_of_getElem? (i := 44) rfl
theorem n_280 : Jvm.Cond.methodLinkNest "TrapHart" 70 y_dv_readWord "TrapHart" ∈ nL := List.mem_of_getElem? (i := 45) rfl
theorem n_284 : Jvm.Cond.methodLinkNest "TrapHart$Devices" 58 y_ct_claim "TrapHart" ∈ nL := List.mem_of_getElem? (i := 46) rfl
theorem n_288 : Jvm.Cond.methodLinkNest "TrapHart$Context" 20 y_so_best "TrapHart" ∈ nL := List.mem_of_getElem? (i := 47) rfl
theorem n_292 : Jvm.Cond.methodLinkNest "TrapHart$Context" 26 y_so_serve "TrapHart" ∈ nL := List.mem_of_getElem? (i := 48) rfl
theorem n_305 : Jvm.Cond.methodLinkNest "TrapHart" 171 y_rg_pendingInterrupts "TrapHart" ∈ nL := List.mem_of_getElem? (i := 49) rfl
theorem n_309 : Jvm.Cond.methodLinkNest "TrapHart$Registers" 50 y_dv_interrupts "TrapHart" ∈ nL := List.mem_of_getElem? (i := 50) rfl
theorem n_313 : Jvm.Cond.methodLinkNest "TrapHart$Devices" 83 y_tm_isReached "TrapHart" ∈ nL := List.mem_of_getElem? (i := 51) rfl
theorem n_318 : Jvm.Cond.methodLinkNest "TrapHart$Devices" 87 y_ct_isCalling "TrapHart" ∈ nL := List.mem_of_getElem? (i := 52) rfl
theorem n_322 : Jvm.Cond.methodLinkNest "TrapHart" 177 y_st_machineOpen "TrapHart" ∈ nL := List.mem_of_getElem? (i := 53) rfl
theorem n_326 : Jvm.Cond.methodLinkNest "TrapHart" 184 y_rg_firstInterrupt "TrapHart" ∈ nL := List.mem_of_getElem? (i := 54) rfl
theorem n_331 : Jvm.Cond.methodLinkNest "TrapHart" 187 y_st_supervisorOpen "TrapHart" ∈ nL := List.mem_of_getElem? (i := 55) rfl
theorem n_493 : Jvm.Cond.methodLinkNest "TrapHart" 159 y_rg_isThere "TrapHart" ∈ nL := List.mem_of_getElem? (i := 56) rfl
theorem n_512 : Jvm.Cond.methodLinkNest "TrapHart" 168 y_rg_isOfMachine "TrapHart" ∈ nL := List.mem_of_getElem? (i := 57) rfl
theorem n_531 : Jvm.Cond.methodLinkNest "TrapHart" 97 y_rg_valueOf "TrapHart" ∈ nL := List.mem_of_getElem? (i := 58) rfl
theorem n_543 : Jvm.Cond.methodLinkNest "TrapHart" 100 y_rg_change "TrapHart" ∈ nL := List.mem_of_getElem? (i := 59) rfl
theorem n_552 : Jvm.Cond.methodLinkNest "TrapHart$Registers" 85 y_st_changeByMachine "TrapHart" ∈ nL := List.mem_of_getElem? (i := 60) rfl
theorem n_561 : Jvm.Cond.methodLinkNest "TrapHart$Registers" 90 y_st_changeBySupervisor "TrapHart" ∈ nL := List.mem_of_getElem? (i := 61) rfl
theorem n_565 : Jvm.Cond.methodLinkNest "TrapHart$Registers" 93 y_th_replaceBits "TrapHart" ∈ nL := List.mem_of_getElem? (i := 62) rfl
theorem n_583 : Jvm.Cond.methodLinkNest "TrapHart" 123 y_st_leaveMachine "TrapHart" ∈ nL := List.mem_of_getElem? (i := 63) rfl
theorem n_587 : Jvm.Cond.methodLinkNest "TrapHart" 137 y_st_leaveSupervisor "TrapHart" ∈ nL := List.mem_of_getElem? (i := 64) rfl
theorem iu_ct : ∀ w ∈ u_ws R_ct T_ct 4, w ∈ uW := fun w h => by
  obtain ⟨k, hk, rfl⟩ := List.mem_map.mp h
  have hk := List.mem_range.mp hk
  match k, hk with
  | 0, _ => exact m_76
  | 1, _ => exact m_78
  | 2, _ => exact m_80
  | 3, _ => exact m_82
  | k + 4, h => exact absurd h (by omega)
theorem iu_dv : ∀ w ∈ u_ws R_dv T_dv 4, w ∈ uW := fun w h => by
  obtain ⟨k, hk, rfl⟩ := List.mem_map.mp h
  have hk := List.mem_range.mp hk
  match k, hk with
  | 0, _ => exact m_112
  | 1, _ => exact m_114
  | 2, _ => exact m_116
  | 3, _ => exact m_118
  | k + 4, h => exact absurd h (by omega)
theorem iu_hd : ∀ w ∈ u_ws R_hd T_hd 3, w ∈ uW := fun w h => by
  obtain ⟨k, hk, rfl⟩ := List.mem_map.mp h
  have hk := List.mem_range.mp hk
  match k, hk with
  | 0, _ => exact m_151
  | 1, _ => exact m_153
  | 2, _ => exact m_155
  | k + 3, h => exact absurd h (by omega)
theorem iu_rg : ∀ w ∈ u_ws R_rg T_rg 8, w ∈ uW := fun w h => by
  obtain ⟨k, hk, rfl⟩ := List.mem_map.mp h
  have hk := List.mem_range.mp hk
  match k, hk with
  | 0, _ => exact m_171
  | 1, _ => exact m_173
  | 2, _ => exact m_175
  | 3, _ => exact m_177
  | 4, _ => exact m_179
  | 5, _ => exact m_181
  | 6, _ => exact m_183
  | 7, _ => exact m_185
  | k + 8, h => exact absurd h (by omega)
theorem iu_so : ∀ w ∈ u_ws R_so T_so 6, w ∈ uW := fun w h => by
  obtain ⟨k, hk, rfl⟩ := List.mem_map.mp h
  have hk := List.mem_range.mp hk
  match k, hk with
  | 0, _ => exact m_50
  | 1, _ => exact m_52
  | 2, _ => exact m_54
  | 3, _ => exact m_56
  | 4, _ => exact m_58
  | 5, _ => exact m_60
  | k + 6, h => exact absurd h (by omega)
theorem iu_st : ∀ w ∈ u_ws R_st T_st 1, w ∈ uW := fun w h => by
  obtain ⟨k, hk, rfl⟩ := List.mem_map.mp h
  have hk := List.mem_range.mp hk
  match k, hk with
  | 0, _ => exact m_135
  | k + 1, h => exact absurd h (by omega)
theorem iu_tm : ∀ w ∈ u_ws R_tm T_tm 3, w ∈ uW := fun w h => by
  obtain ⟨k, hk, rfl⟩ := List.mem_map.mp h
  have hk := List.mem_range.mp hk
  match k, hk with
  | 0, _ => exact m_99
  | 1, _ => exact m_101
  | 2, _ => exact m_103
  | k + 3, h => exact absurd h (by omega)
theorem iu_th : ∀ w ∈ u_ws R_th T_th 4, w ∈ uW := fun w h => by
  obtain ⟨k, hk, rfl⟩ := List.mem_map.mp h
  have hk := List.mem_range.mp hk
  match k, hk with
  | 0, _ => exact m_192
  | 1, _ => exact m_194
  | 2, _ => exact m_196
  | 3, _ => exact m_198
  | k + 4, h => exact absurd h (by omega)
theorem iu_mo : ∀ w ∈ u_ws R_mo T_mo 22, w ∈ uW := fun w h => by
  obtain ⟨k, hk, rfl⟩ := List.mem_map.mp h
  have hk := List.mem_range.mp hk
  match k, hk with
  | 0, _ => exact m_628
  | 1, _ => exact m_630
  | 2, _ => exact m_632
  | 3, _ => exact m_634
  | 4, _ => exact m_636
  | 5, _ => exact m_638
  | 6, _ => exact m_640
  | 7, _ => exact m_642
  | 8, _ => exact m_644
  | 9, _ => exact m_646
  | 10, _ => exact m_648
  | 11, _ => exact m_650
  | 12, _ => exact m_652
  | 13, _ => exact m_654
  | 14, _ => exact m_656
  | 15, _ => exact m_658
  | 16, _ => exact m_660
  | 17, _ => exact m_662
  | 18, _ => exact m_664
  | 19, _ => exact m_666
  | 20, _ => exact m_668
  | 21, _ => exact m_670
  | k + 22, h => exact absurd h (by omega)
/-- the classes whose objects the worlds hold -/
abbrev cls : List vw_C := [(R_ct, T_ct, 4), (R_dv, T_dv, 4), (R_hd, T_hd, 3), (R_rg, T_rg, 8), (R_so, T_so, 6), (R_st, T_st, 1), (R_tm, T_tm, 3), (R_th, T_th, 4), (R_mo, T_mo, 22)]
end
section
theorem d_th_init_0 : decode b_th_init 0 = .ok (.aload_n 0, 1) := by decide +kernel
theorem d_th_init_1 : decode b_th_init 1 = .ok (.invokespecial 1, 3) := by decide +kernel
theorem d_th_init_4 : decode b_th_init 4 = .ok (.aload_n 0, 1) := by decide +kernel
theorem d_th_init_5 : decode b_th_init 5 = .ok (.new 7, 3) := by decide +kernel
theorem d_th_init_8 : decode b_th_init 8 = .ok (.dup, 1) := by decide +kernel
theorem d_th_init_9 : decode b_th_init 9 = .ok (.iload_n 1, 1) := by decide +kernel
theorem d_th_init_10 : decode b_th_init 10 = .ok (.invokespecial 9, 3) := by decide +kernel
theorem d_th_init_13 : decode b_th_init 13 = .ok (.putfield 12, 3) := by decide +kernel
theorem d_th_init_16 : decode b_th_init 16 = .ok (.aload_n 0, 1) := by decide +kernel
theorem d_th_init_17 : decode b_th_init 17 = .ok (.new 18, 3) := by decide +kernel
theorem d_th_init_20 : decode b_th_init 20 = .ok (.dup, 1) := by decide +kernel
theorem d_th_init_21 : decode b_th_init 21 = .ok (.aload_n 0, 1) := by decide +kernel
theorem d_th_init_22 : decode b_th_init 22 = .ok (.getfield 12, 3) := by decide +kernel
theorem d_th_init_25 : decode b_th_init 25 = .ok (.invokespecial 20, 3) := by decide +kernel
theorem d_th_init_28 : decode b_th_init 28 = .ok (.putfield 23, 3) := by decide +kernel
theorem d_th_init_31 : decode b_th_init 31 = .ok (.aload_n 0, 1) := by decide +kernel
theorem d_th_init_32 : decode b_th_init 32 = .ok (.iconst 3, 1) := by decide +kernel
theorem d_th_init_33 : decode b_th_init 33 = .ok (.putfield 27, 3) := by decide +kernel
theorem d_th_init_36 : decode b_th_init 36 = .ok (.aload_n 0, 1) := by decide +kernel
theorem d_th_init_37 : decode b_th_init 37 = .ok (.iconst 0, 1) := by decide +kernel
theorem d_th_init_38 : decode b_th_init 38 = .ok (.putfield 31, 3) := by decide +kernel
theorem d_th_init_41 : decode b_th_init 41 = .ok (.return_, 1) := by decide +kernel
theorem d_th_lines_0 : decode b_th_lines 0 = .ok (.aload_n 0, 1) := by decide +kernel
theorem d_th_lines_1 : decode b_th_lines 1 = .ok (.getfield 12, 3) := by decide +kernel
theorem d_th_lines_4 : decode b_th_lines 4 = .ok (.getfield 34, 3) := by decide +kernel
theorem d_th_lines_7 : decode b_th_lines 7 = .ok (.iload_n 1, 1) := by decide +kernel
theorem d_th_lines_8 : decode b_th_lines 8 = .ok (.invokevirtual 38, 3) := by decide +kernel
theorem d_th_lines_11 : decode b_th_lines 11 = .ok (.aload_n 0, 1) := by decide +kernel
theorem d_th_lines_12 : decode b_th_lines 12 = .ok (.getfield 12, 3) := by decide +kernel
theorem d_th_lines_15 : decode b_th_lines 15 = .ok (.getfield 34, 3) := by decide +kernel
theorem d_th_lines_18 : decode b_th_lines 18 = .ok (.getfield 43, 3) := by decide +kernel
theorem d_th_lines_21 : decode b_th_lines 21 = .ok (.ireturn, 1) := by decide +kernel
theorem d_th_ticks_0 : decode b_th_ticks 0 = .ok (.iload_n 1, 1) := by decide +kernel
theorem d_th_ticks_1 : decode b_th_ticks 1 = .ok (.ifCond .ge 13, 3) := by decide +kernel
theorem d_th_ticks_4 : decode b_th_ticks 4 = .ok (.new 46, 3) := by decide +kernel
theorem d_th_ticks_7 : decode b_th_ticks 7 = .ok (.dup, 1) := by decide +kernel
theorem d_th_ticks_8 : decode b_th_ticks 8 = .ok (.ldc 48, 2) := by decide +kernel
theorem d_th_ticks_10 : decode b_th_ticks 10 = .ok (.invokespecial 50, 3) := by decide +kernel
theorem d_th_ticks_13 : decode b_th_ticks 13 = .ok (.athrow, 1) := by decide +kernel
theorem d_th_ticks_14 : decode b_th_ticks 14 = .ok (.aload_n 0, 1) := by decide +kernel
theorem d_th_ticks_15 : decode b_th_ticks 15 = .ok (.getfield 12, 3) := by decide +kernel
theorem d_th_ticks_18 : decode b_th_ticks 18 = .ok (.getfield 53, 3) := by decide +kernel
theorem d_th_ticks_21 : decode b_th_ticks 21 = .ok (.dup, 1) := by decide +kernel
theorem d_th_ticks_22 : decode b_th_ticks 22 = .ok (.getfield 57, 3) := by decide +kernel
theorem d_th_ticks_25 : decode b_th_ticks 25 = .ok (.iload_n 1, 1) := by decide +kernel
theorem d_th_ticks_26 : decode b_th_ticks 26 = .ok (.i2l, 1) := by decide +kernel
theorem d_th_ticks_27 : decode b_th_ticks 27 = .ok (.ladd, 1) := by decide +kernel
theorem d_th_ticks_28 : decode b_th_ticks 28 = .ok (.putfield 57, 3) := by decide +kernel
theorem d_th_ticks_31 : decode b_th_ticks 31 = .ok (.return_, 1) := by decide +kernel
theorem d_th_load_0 : decode b_th_load 0 = .ok (.iload_n 1, 1) := by decide +kernel
theorem d_th_load_1 : decode b_th_load 1 = .ok (.iconst 0, 1) := by decide +kernel
theorem d_th_load_2 : decode b_th_load 2 = .ok (.invokestatic 63, 3) := by decide +kernel
theorem d_th_load_5 : decode b_th_load 5 = .ok (.invokestatic 67, 3) := by decide +kernel
theorem d_th_load_8 : decode b_th_load 8 = .ok (.aload_n 0, 1) := by decide +kernel
theorem d_th_load_9 : decode b_th_load 9 = .ok (.getfield 12, 3) := by decide +kernel
theorem d_th_load_12 : decode b_th_load 12 = .ok (.iload_n 1, 1) := by decide +kernel
theorem d_th_load_13 : decode b_th_load 13 = .ok (.invokevirtual 70, 3) := by decide +kernel
theorem d_th_load_16 : decode b_th_load 16 = .ok (.ireturn, 1) := by decide +kernel
theorem d_th_store_0 : decode b_th_store 0 = .ok (.iload_n 1, 1) := by decide +kernel
theorem d_th_store_1 : decode b_th_store 1 = .ok (.iconst 1, 1) := by decide +kernel
theorem d_th_store_2 : decode b_th_store 2 = .ok (.invokestatic 63, 3) := by decide +kernel
theorem d_th_store_5 : decode b_th_store 5 = .ok (.istore_n 3, 1) := by decide +kernel
theorem d_th_store_6 : decode b_th_store 6 = .ok (.iload_n 3, 1) := by decide +kernel
theorem d_th_store_7 : decode b_th_store 7 = .ok (.invokestatic 67, 3) := by decide +kernel
theorem d_th_store_10 : decode b_th_store 10 = .ok (.iload_n 3, 1) := by decide +kernel
theorem d_th_store_11 : decode b_th_store 11 = .ok (.iconst 3, 1) := by decide +kernel
theorem d_th_store_12 : decode b_th_store 12 = .ok (.if_icmp .ne 13, 3) := by decide +kernel
theorem d_th_store_15 : decode b_th_store 15 = .ok (.new 74, 3) := by decide +kernel
theorem d_th_store_18 : decode b_th_store 18 = .ok (.dup, 1) := by decide +kernel
theorem d_th_store_19 : decode b_th_store 19 = .ok (.ldc 76, 2) := by decide +kernel
theorem d_th_store_21 : decode b_th_store 21 = .ok (.invokespecial 78, 3) := by decide +kernel
theorem d_th_store_24 : decode b_th_store 24 = .ok (.athrow, 1) := by decide +kernel
theorem d_th_store_25 : decode b_th_store 25 = .ok (.aload_n 0, 1) := by decide +kernel
theorem d_th_store_26 : decode b_th_store 26 = .ok (.getfield 12, 3) := by decide +kernel
theorem d_th_store_29 : decode b_th_store 29 = .ok (.iload_n 1, 1) := by decide +kernel
theorem d_th_store_30 : decode b_th_store 30 = .ok (.iload_n 2, 1) := by decide +kernel
theorem d_th_store_31 : decode b_th_store 31 = .ok (.invokevirtual 79, 3) := by decide +kernel
theorem d_th_store_34 : decode b_th_store 34 = .ok (.return_, 1) := by decide +kernel
theorem d_th_access_0 : decode b_th_access 0 = .ok (.iload_n 1, 1) := by decide +kernel
theorem d_th_access_1 : decode b_th_access 1 = .ok (.iload_n 2, 1) := by decide +kernel
theorem d_th_access_2 : decode b_th_access 2 = .ok (.invokestatic 63, 3) := by decide +kernel
theorem d_th_access_5 : decode b_th_access 5 = .ok (.istore 4, 2) := by decide +kernel
theorem d_th_access_7 : decode b_th_access 7 = .ok (.iload 4, 2) := by decide +kernel
theorem d_th_access_9 : decode b_th_access 9 = .ok (.ifCond .eq 26, 3) := by decide +kernel
theorem d_th_access_12 : decode b_th_access 12 = .ok (.iload 4, 2) := by decide +kernel
theorem d_th_access_14 : decode b_th_access 14 = .ok (.iload_n 2, 1) := by decide +kernel
theorem d_th_access_15 : decode b_th_access 15 = .ok (.invokestatic 83, 3) := by decide +kernel
theorem d_th_access_18 : decode b_th_access 18 = .ok (.istore 5, 2) := by decide +kernel
theorem d_th_access_20 : decode b_th_access 20 = .ok (.aload_n 0, 1) := by decide +kernel
theorem d_th_access_21 : decode b_th_access 21 = .ok (.iload 5, 2) := by decide +kernel
theorem d_th_access_23 : decode b_th_access 23 = .ok (.iconst 0, 1) := by decide +kernel
theorem d_th_access_24 : decode b_th_access 24 = .ok (.invokevirtual 86, 3) := by decide +kernel
theorem d_th_access_27 : decode b_th_access 27 = .ok (.ldc2_w 90, 3) := by decide +kernel
theorem d_th_access_30 : decode b_th_access 30 = .ok (.iload 5, 2) := by decide +kernel
theorem d_th_access_32 : decode b_th_access 32 = .ok (.i2l, 1) := by decide +kernel
theorem d_th_access_33 : decode b_th_access 33 = .ok (.lsub, 1) := by decide +kernel
theorem d_th_access_34 : decode b_th_access 34 = .ok (.lreturn, 1) := by decide +kernel
theorem d_th_access_35 : decode b_th_access 35 = .ok (.lconst 0, 1) := by decide +kernel
theorem d_th_access_36 : decode b_th_access 36 = .ok (.lstore 5, 2) := by decide +kernel
theorem d_th_access_38 : decode b_th_access 38 = .ok (.iload_n 2, 1) := by decide +kernel
theorem d_th_access_39 : decode b_th_access 39 = .ok (.ifCond .eq 15, 3) := by decide +kernel
theorem d_th_access_42 : decode b_th_access 42 = .ok (.aload_n 0, 1) := by decide +kernel
theorem d_th_access_43 : decode b_th_access 43 = .ok (.getfield 12, 3) := by decide +kernel
theorem d_th_access_46 : decode b_th_access 46 = .ok (.iload_n 1, 1) := by decide +kernel
theorem d_th_access_47 : decode b_th_access 47 = .ok (.iload_n 3, 1) := by decide +kernel
theorem d_th_access_48 : decode b_th_access 48 = .ok (.invokevirtual 79, 3) := by decide +kernel
theorem d_th_access_51 : decode b_th_access 51 = .ok (.goto 18, 3) := by decide +kernel
theorem d_th_access_54 : decode b_th_access 54 = .ok (.aload_n 0, 1) := by decide +kernel
theorem d_th_access_55 : decode b_th_access 55 = .ok (.getfield 12, 3) := by decide +kernel
theorem d_th_access_58 : decode b_th_access 58 = .ok (.iload_n 1, 1) := by decide +kernel
theorem d_th_access_59 : decode b_th_access 59 = .ok (.invokevirtual 70, 3) := by decide +kernel
theorem d_th_access_62 : decode b_th_access 62 = .ok (.i2l, 1) := by decide +kernel
theorem d_th_access_63 : decode b_th_access 63 = .ok (.ldc2_w 92, 3) := by decide +kernel
theorem d_th_access_66 : decode b_th_access 66 = .ok (.land, 1) := by decide +kernel
theorem d_th_access_67 : decode b_th_access 67 = .ok (.lstore 5, 2) := by decide +kernel
theorem d_th_access_69 : decode b_th_access 69 = .ok (.aload_n 0, 1) := by decide +kernel
theorem d_th_access_70 : decode b_th_access 70 = .ok (.dup, 1) := by decide +kernel
theorem d_th_access_71 : decode b_th_access 71 = .ok (.getfield 31, 3) := by decide +kernel
theorem d_th_access_74 : decode b_th_access 74 = .ok (.iconst 4, 1) := by decide +kernel
theorem d_th_access_75 : decode b_th_access 75 = .ok (.iadd, 1) := by decide +kernel
theorem d_th_access_76 : decode b_th_access 76 = .ok (.putfield 31, 3) := by decide +kernel
theorem d_th_access_79 : decode b_th_access 79 = .ok (.lload 5, 2) := by decide +kernel
theorem d_th_access_81 : decode b_th_access 81 = .ok (.lreturn, 1) := by decide +kernel
theorem d_th_read_0 : decode b_th_read 0 = .ok (.aload_n 0, 1) := by decide +kernel
theorem d_th_read_1 : decode b_th_read 1 = .ok (.iload_n 1, 1) := by decide +kernel
theorem d_th_read_2 : decode b_th_read 2 = .ok (.invokevirtual 94, 3) := by decide +kernel
theorem d_th_read_5 : decode b_th_read 5 = .ok (.aload_n 0, 1) := by decide +kernel
theorem d_th_read_6 : decode b_th_read 6 = .ok (.getfield 23, 3) := by decide +kernel
theorem d_th_read_9 : decode b_th_read 9 = .ok (.iload_n 1, 1) := by decide +kernel
theorem d_th_read_10 : decode b_th_read 10 = .ok (.invokevirtual 97, 3) := by decide +kernel
theorem d_th_read_13 : decode b_th_read 13 = .ok (.ireturn, 1) := by decide +kernel
theorem d_th_write_0 : decode b_th_write 0 = .ok (.aload_n 0, 1) := by decide +kernel
theorem d_th_write_1 : decode b_th_write 1 = .ok (.iload_n 1, 1) := by decide +kernel
theorem d_th_write_2 : decode b_th_write 2 = .ok (.invokevirtual 94, 3) := by decide +kernel
theorem d_th_write_5 : decode b_th_write 5 = .ok (.aload_n 0, 1) := by decide +kernel
theorem d_th_write_6 : decode b_th_write 6 = .ok (.getfield 23, 3) := by decide +kernel
theorem d_th_write_9 : decode b_th_write 9 = .ok (.iload_n 1, 1) := by decide +kernel
theorem d_th_write_10 : decode b_th_write 10 = .ok (.iload_n 2, 1) := by decide +kernel
theorem d_th_write_11 : decode b_th_write 11 = .ok (.invokevirtual 100, 3) := by decide +kernel
theorem d_th_write_14 : decode b_th_write 14 = .ok (.return_, 1) := by decide +kernel
theorem d_th_step_0 : decode b_th_step 0 = .ok (.aload_n 0, 1) := by decide +kernel
theorem d_th_step_1 : decode b_th_step 1 = .ok (.invokevirtual 103, 3) := by decide +kernel
theorem d_th_step_4 : decode b_th_step 4 = .ok (.istore_n 1, 1) := by decide +kernel
theorem d_th_step_5 : decode b_th_step 5 = .ok (.iload_n 1, 1) := by decide +kernel
theorem d_th_step_6 : decode b_th_step 6 = .ok (.iconst (-1), 1) := by decide +kernel
theorem d_th_step_7 : decode b_th_step 7 = .ok (.if_icmp .ne 16, 3) := by decide +kernel
theorem d_th_step_10 : decode b_th_step 10 = .ok (.aload_n 0, 1) := by decide +kernel
theorem d_th_step_11 : decode b_th_step 11 = .ok (.dup, 1) := by decide +kernel
theorem d_th_step_12 : decode b_th_step 12 = .ok (.getfield 31, 3) := by decide +kernel
theorem d_th_step_15 : decode b_th_step 15 = .ok (.iconst 4, 1) := by decide +kernel
theorem d_th_step_16 : decode b_th_step 16 = .ok (.iadd, 1) := by decide +kernel
theorem d_th_step_17 : decode b_th_step 17 = .ok (.putfield 31, 3) := by decide +kernel
theorem d_th_step_20 : decode b_th_step 20 = .ok (.goto 9, 3) := by decide +kernel
theorem d_th_step_23 : decode b_th_step 23 = .ok (.aload_n 0, 1) := by decide +kernel
theorem d_th_step_24 : decode b_th_step 24 = .ok (.iload_n 1, 1) := by decide +kernel
theorem d_th_step_25 : decode b_th_step 25 = .ok (.iconst 1, 1) := by decide +kernel
theorem d_th_step_26 : decode b_th_step 26 = .ok (.invokevirtual 86, 3) := by decide +kernel
theorem d_th_step_29 : decode b_th_step 29 = .ok (.iload_n 1, 1) := by decide +kernel
theorem d_th_step_30 : decode b_th_step 30 = .ok (.ireturn, 1) := by decide +kernel
theorem d_th_raise_0 : decode b_th_raise 0 = .ok (.iload_n 1, 1) := by decide +kernel
theorem d_th_raise_1 : decode b_th_raise 1 = .ok (.ifCond .lt 18, 3) := by decide +kernel
theorem d_th_raise_4 : decode b_th_raise 4 = .ok (.iload_n 1, 1) := by decide +kernel
theorem d_th_raise_5 : decode b_th_raise 5 = .ok (.bipush 15, 2) := by decide +kernel
theorem d_th_raise_7 : decode b_th_raise 7 = .ok (.if_icmp .gt 12, 3) := by decide +kernel
theorem d_th_raise_10 : decode b_th_raise 10 = .ok (.ldc 107, 2) := by decide +kernel
theorem d_th_raise_12 : decode b_th_raise 12 = .ok (.iload_n 1, 1) := by decide +kernel
theorem d_th_raise_13 : decode b_th_raise 13 = .ok (.invokestatic 108, 3) := by decide +kernel
theorem d_th_raise_16 : decode b_th_raise 16 = .ok (.ifCond .ne 13, 3) := by decide +kernel
theorem d_th_raise_19 : decode b_th_raise 19 = .ok (.new 46, 3) := by decide +kernel
theorem d_th_raise_22 : decode b_th_raise 22 = .ok (.dup, 1) := by decide +kernel
theorem d_th_raise_23 : decode b_th_raise 23 = .ok (.ldc 112, 2) := by decide +kernel
theorem d_th_raise_25 : decode b_th_raise 25 = .ok (.invokespecial 50, 3) := by decide +kernel
theorem d_th_raise_28 : decode b_th_raise 28 = .ok (.athrow, 1) := by decide +kernel
theorem d_th_raise_29 : decode b_th_raise 29 = .ok (.aload_n 0, 1) := by decide +kernel
theorem d_th_raise_30 : decode b_th_raise 30 = .ok (.iload_n 1, 1) := by decide +kernel
theorem d_th_raise_31 : decode b_th_raise 31 = .ok (.iconst 0, 1) := by decide +kernel
theorem d_th_raise_32 : decode b_th_raise 32 = .ok (.invokevirtual 86, 3) := by decide +kernel
theorem d_th_raise_35 : decode b_th_raise 35 = .ok (.aload_n 0, 1) := by decide +kernel
theorem d_th_raise_36 : decode b_th_raise 36 = .ok (.getfield 27, 3) := by decide +kernel
theorem d_th_raise_39 : decode b_th_raise 39 = .ok (.ireturn, 1) := by decide +kernel
theorem d_th_leave_0 : decode b_th_leave 0 = .ok (.iload_n 1, 1) := by decide +kernel
theorem d_th_leave_1 : decode b_th_leave 1 = .ok (.ifCond .eq 14, 3) := by decide +kernel
theorem d_th_leave_4 : decode b_th_leave 4 = .ok (.aload_n 0, 1) := by decide +kernel
theorem d_th_leave_5 : decode b_th_leave 5 = .ok (.getfield 27, 3) := by decide +kernel
theorem d_th_leave_8 : decode b_th_leave 8 = .ok (.iconst 3, 1) := by decide +kernel
theorem d_th_leave_9 : decode b_th_leave 9 = .ok (.if_icmp .eq 23, 3) := by decide +kernel
theorem d_th_leave_12 : decode b_th_leave 12 = .ok (.goto 10, 3) := by decide +kernel
theorem d_th_leave_15 : decode b_th_leave 15 = .ok (.aload_n 0, 1) := by decide +kernel
theorem d_th_leave_16 : decode b_th_leave 16 = .ok (.getfield 27, 3) := by decide +kernel
theorem d_th_leave_19 : decode b_th_leave 19 = .ok (.ifCond .ne 13, 3) := by decide +kernel
theorem d_th_leave_22 : decode b_th_leave 22 = .ok (.new 114, 3) := by decide +kernel
theorem d_th_leave_25 : decode b_th_leave 25 = .ok (.dup, 1) := by decide +kernel
theorem d_th_leave_26 : decode b_th_leave 26 = .ok (.ldc 116, 2) := by decide +kernel
theorem d_th_leave_28 : decode b_th_leave 28 = .ok (.invokespecial 118, 3) := by decide +kernel
theorem d_th_leave_31 : decode b_th_leave 31 = .ok (.athrow, 1) := by decide +kernel
theorem d_th_leave_32 : decode b_th_leave 32 = .ok (.iload_n 1, 1) := by decide +kernel
theorem d_th_leave_33 : decode b_th_leave 33 = .ok (.ifCond .eq 34, 3) := by decide +kernel
theorem d_th_leave_36 : decode b_th_leave 36 = .ok (.aload_n 0, 1) := by decide +kernel
theorem d_th_leave_37 : decode b_th_leave 37 = .ok (.aload_n 0, 1) := by decide +kernel
theorem d_th_leave_38 : decode b_th_leave 38 = .ok (.getfield 23, 3) := by decide +kernel
theorem d_th_leave_41 : decode b_th_leave 41 = .ok (.getfield 119, 3) := by decide +kernel
theorem d_th_leave_44 : decode b_th_leave 44 = .ok (.invokevirtual 123, 3) := by decide +kernel
theorem d_th_leave_47 : decode b_th_leave 47 = .ok (.putfield 27, 3) := by decide +kernel
theorem d_th_leave_50 : decode b_th_leave 50 = .ok (.aload_n 0, 1) := by decide +kernel
theorem d_th_leave_51 : decode b_th_leave 51 = .ok (.aload_n 0, 1) := by decide +kernel
theorem d_th_leave_52 : decode b_th_leave 52 = .ok (.getfield 23, 3) := by decide +kernel
theorem d_th_leave_55 : decode b_th_leave 55 = .ok (.getfield 128, 3) := by decide +kernel
theorem d_th_leave_58 : decode b_th_leave 58 = .ok (.getfield 132, 3) := by decide +kernel
theorem d_th_leave_61 : decode b_th_leave 61 = .ok (.putfield 31, 3) := by decide +kernel
theorem d_th_leave_64 : decode b_th_leave 64 = .ok (.goto 31, 3) := by decide +kernel
theorem d_th_leave_67 : decode b_th_leave 67 = .ok (.aload_n 0, 1) := by decide +kernel
theorem d_th_leave_68 : decode b_th_leave 68 = .ok (.aload_n 0, 1) := by decide +kernel
theorem d_th_leave_69 : decode b_th_leave 69 = .ok (.getfield 23, 3) := by decide +kernel
theorem d_th_leave_72 : decode b_th_leave 72 = .ok (.getfield 119, 3) := by decide +kernel
theorem d_th_leave_75 : decode b_th_leave 75 = .ok (.invokevirtual 137, 3) := by decide +kernel
theorem d_th_leave_78 : decode b_th_leave 78 = .ok (.putfield 27, 3) := by decide +kernel
theorem d_th_leave_81 : decode b_th_leave 81 = .ok (.aload_n 0, 1) := by decide +kernel
theorem d_th_leave_82 : decode b_th_leave 82 = .ok (.aload_n 0, 1) := by decide +kernel
theorem d_th_leave_83 : decode b_th_leave 83 = .ok (.getfield 23, 3) := by decide +kernel
theorem d_th_leave_86 : decode b_th_leave 86 = .ok (.getfield 140, 3) := by decide +kernel
theorem d_th_leave_89 : decode b_th_leave 89 = .ok (.getfield 132, 3) := by decide +kernel
theorem d_th_leave_92 : decode b_th_leave 92 = .ok (.putfield 31, 3) := by decide +kernel
theorem d_th_leave_95 : decode b_th_leave 95 = .ok (.aload_n 0, 1) := by decide +kernel
theorem d_th_leave_96 : decode b_th_leave 96 = .ok (.getfield 27, 3) := by decide +kernel
theorem d_th_leave_99 : decode b_th_leave 99 = .ok (.ireturn, 1) := by decide +kernel
theorem d_th_privilege_0 : decode b_th_privilege 0 = .ok (.aload_n 0, 1) := by decide +kernel
theorem d_th_privilege_1 : decode b_th_privilege 1 = .ok (.getfield 27, 3) := by decide +kernel
theorem d_th_privilege_4 : decode b_th_privilege 4 = .ok (.ireturn, 1) := by decide +kernel
theorem d_th_pc_0 : decode b_th_pc 0 = .ok (.aload_n 0, 1) := by decide +kernel
theorem d_th_pc_1 : decode b_th_pc 1 = .ok (.getfield 31, 3) := by decide +kernel
theorem d_th_pc_4 : decode b_th_pc 4 = .ok (.ireturn, 1) := by decide +kernel
theorem d_th_due_0 : decode b_th_due 0 = .ok (.aload_n 0, 1) := by decide +kernel
theorem d_th_due_1 : decode b_th_due 1 = .ok (.invokevirtual 103, 3) := by decide +kernel
theorem d_th_due_4 : decode b_th_due 4 = .ok (.ireturn, 1) := by decide +kernel
theorem d_th_source_0 : decode b_th_source 0 = .ok (.iload_n 1, 1) := by decide +kernel
theorem d_th_source_1 : decode b_th_source 1 = .ok (.iconst 1, 1) := by decide +kernel
theorem d_th_source_2 : decode b_th_source 2 = .ok (.if_icmp .lt 9, 3) := by decide +kernel
theorem d_th_source_5 : decode b_th_source 5 = .ok (.iload_n 1, 1) := by decide +kernel
theorem d_th_source_6 : decode b_th_source 6 = .ok (.bipush 15, 2) := by decide +kernel
theorem d_th_source_8 : decode b_th_source 8 = .ok (.if_icmp .le 13, 3) := by decide +kernel
theorem d_th_source_11 : decode b_th_source 11 = .ok (.new 143, 3) := by decide +kernel
theorem d_th_source_14 : decode b_th_source 14 = .ok (.dup, 1) := by decide +kernel
theorem d_th_source_15 : decode b_th_source 15 = .ok (.ldc 145, 2) := by decide +kernel
theorem d_th_source_17 : decode b_th_source 17 = .ok (.invokespecial 147, 3) := by decide +kernel
theorem d_th_source_20 : decode b_th_source 20 = .ok (.athrow, 1) := by decide +kernel
theorem d_th_source_21 : decode b_th_source 21 = .ok (.iconst 4, 1) := by decide +kernel
theorem d_th_source_22 : decode b_th_source 22 = .ok (.aload_n 0, 1) := by decide +kernel
theorem d_th_source_23 : decode b_th_source 23 = .ok (.getfield 12, 3) := by decide +kernel
theorem d_th_source_26 : decode b_th_source 26 = .ok (.getfield 34, 3) := by decide +kernel
theorem d_th_source_29 : decode b_th_source 29 = .ok (.getfield 148, 3) := by decide +kernel
theorem d_th_source_32 : decode b_th_source 32 = .ok (.iload_n 1, 1) := by decide +kernel
theorem d_th_source_33 : decode b_th_source 33 = .ok (.iaload, 1) := by decide +kernel
theorem d_th_source_34 : decode b_th_source 34 = .ok (.imul, 1) := by decide +kernel
theorem d_th_source_35 : decode b_th_source 35 = .ok (.aload_n 0, 1) := by decide +kernel
theorem d_th_source_36 : decode b_th_source 36 = .ok (.getfield 12, 3) := by decide +kernel
theorem d_th_source_39 : decode b_th_source 39 = .ok (.getfield 34, 3) := by decide +kernel
theorem d_th_source_42 : decode b_th_source 42 = .ok (.getfield 152, 3) := by decide +kernel
theorem d_th_source_45 : decode b_th_source 45 = .ok (.iload_n 1, 1) := by decide +kernel
theorem d_th_source_46 : decode b_th_source 46 = .ok (.iaload, 1) := by decide +kernel
theorem d_th_source_47 : decode b_th_source 47 = .ok (.iadd, 1) := by decide +kernel
theorem d_th_source_48 : decode b_th_source 48 = .ok (.ireturn, 1) := by decide +kernel
theorem d_th_refuseWrongOrAbsent_0 : decode b_th_refuseWrongOrAbsent 0 = .ok (.iload_n 0, 1) := by decide +kernel
theorem d_th_refuseWrongOrAbsent_1 : decode b_th_refuseWrongOrAbsent 1 = .ok (.iconst 1, 1) := by decide +kernel
theorem d_th_refuseWrongOrAbsent_2 : decode b_th_refuseWrongOrAbsent 2 = .ok (.if_icmp .ne 13, 3) := by decide +kernel
theorem d_th_refuseWrongOrAbsent_5 : decode b_th_refuseWrongOrAbsent 5 = .ok (.new 46, 3) := by decide +kernel
theorem d_th_refuseWrongOrAbsent_8 : decode b_th_refuseWrongOrAbsent 8 = .ok (.dup, 1) := by decide +kernel
theorem d_th_refuseWrongOrAbsent_9 : decode b_th_refuseWrongOrAbsent 9 = .ok (.ldc 155, 2) := by decide +kernel
theorem d_th_refuseWrongOrAbsent_11 : decode b_th_refuseWrongOrAbsent 11 = .ok (.invokespecial 50, 3) := by decide +kernel
theorem d_th_refuseWrongOrAbsent_14 : decode b_th_refuseWrongOrAbsent 14 = .ok (.athrow, 1) := by decide +kernel
theorem d_th_refuseWrongOrAbsent_15 : decode b_th_refuseWrongOrAbsent 15 = .ok (.iload_n 0, 1) := by decide +kernel
theorem d_th_refuseWrongOrAbsent_16 : decode b_th_refuseWrongOrAbsent 16 = .ok (.iconst 2, 1) := by decide +kernel
theorem d_th_refuseWrongOrAbsent_17 : decode b_th_refuseWrongOrAbsent 17 = .ok (.if_icmp .ne 13, 3) := by decide +kernel
theorem d_th_refuseWrongOrAbsent_20 : decode b_th_refuseWrongOrAbsent 20 = .ok (.new 143, 3) := by decide +kernel
theorem d_th_refuseWrongOrAbsent_23 : decode b_th_refuseWrongOrAbsent 23 = .ok (.dup, 1) := by decide +kernel
theorem d_th_refuseWrongOrAbsent_24 : decode b_th_refuseWrongOrAbsent 24 = .ok (.ldc 157, 2) := by decide +kernel
theorem d_th_refuseWrongOrAbsent_26 : decode b_th_refuseWrongOrAbsent 26 = .ok (.invokespecial 147, 3) := by decide +kernel
theorem d_th_refuseWrongOrAbsent_29 : decode b_th_refuseWrongOrAbsent 29 = .ok (.athrow, 1) := by decide +kernel
theorem d_th_refuseWrongOrAbsent_30 : decode b_th_refuseWrongOrAbsent 30 = .ok (.return_, 1) := by decide +kernel
theorem d_th_refuseRegister_0 : decode b_th_refuseRegister 0 = .ok (.iload_n 1, 1) := by decide +kernel
theorem d_th_refuseRegister_1 : decode b_th_refuseRegister 1 = .ok (.invokestatic 159, 3) := by decide +kernel
theorem d_th_refuseRegister_4 : decode b_th_refuseRegister 4 = .ok (.ifCond .ne 13, 3) := by decide +kernel
theorem d_th_refuseRegister_7 : decode b_th_refuseRegister 7 = .ok (.new 163, 3) := by decide +kernel
theorem d_th_refuseRegister_10 : decode b_th_refuseRegister 10 = .ok (.dup, 1) := by decide +kernel
theorem d_th_refuseRegister_11 : decode b_th_refuseRegister 11 = .ok (.ldc 165, 2) := by decide +kernel
theorem d_th_refuseRegister_13 : decode b_th_refuseRegister 13 = .ok (.invokespecial 167, 3) := by decide +kernel
theorem d_th_refuseRegister_16 : decode b_th_refuseRegister 16 = .ok (.athrow, 1) := by decide +kernel
theorem d_th_refuseRegister_17 : decode b_th_refuseRegister 17 = .ok (.aload_n 0, 1) := by decide +kernel
theorem d_th_refuseRegister_18 : decode b_th_refuseRegister 18 = .ok (.getfield 27, 3) := by decide +kernel
theorem d_th_refuseRegister_21 : decode b_th_refuseRegister 21 = .ok (.ifCond .eq 18, 3) := by decide +kernel
theorem d_th_refuseRegister_24 : decode b_th_refuseRegister 24 = .ok (.aload_n 0, 1) := by decide +kernel
theorem d_th_refuseRegister_25 : decode b_th_refuseRegister 25 = .ok (.getfield 27, 3) := by decide +kernel
theorem d_th_refuseRegister_28 : decode b_th_refuseRegister 28 = .ok (.iconst 3, 1) := by decide +kernel
theorem d_th_refuseRegister_29 : decode b_th_refuseRegister 29 = .ok (.if_icmp .eq 20, 3) := by decide +kernel
theorem d_th_refuseRegister_32 : decode b_th_refuseRegister 32 = .ok (.iload_n 1, 1) := by decide +kernel
theorem d_th_refuseRegister_33 : decode b_th_refuseRegister 33 = .ok (.invokestatic 168, 3) := by decide +kernel
theorem d_th_refuseRegister_36 : decode b_th_refuseRegister 36 = .ok (.ifCond .eq 13, 3) := by decide +kernel
theorem d_th_refuseRegister_39 : decode b_th_refuseRegister 39 = .ok (.new 114, 3) := by decide +kernel
theorem d_th_refuseRegister_42 : decode b_th_refuseRegister 42 = .ok (.dup, 1) := by decide +kernel
theorem d_th_refuseRegister_43 : decode b_th_refuseRegister 43 = .ok (.ldc 116, 2) := by decide +kernel
theorem d_th_refuseRegister_45 : decode b_th_refuseRegister 45 = .ok (.invokespecial 118, 3) := by decide +kernel
theorem d_th_refuseRegister_48 : decode b_th_refuseRegister 48 = .ok (.athrow, 1) := by decide +kernel
theorem d_th_refuseRegister_49 : decode b_th_refuseRegister 49 = .ok (.return_, 1) := by decide +kernel
theorem d_th_causeOf_0 : decode b_th_causeOf 0 = .ok (.iload_n 0, 1) := by decide +kernel
theorem d_th_causeOf_1 : decode b_th_causeOf 1 = .ok (.iconst 1, 1) := by decide +kernel
theorem d_th_causeOf_2 : decode b_th_causeOf 2 = .ok (.if_icmp .ne 14, 3) := by decide +kernel
theorem d_th_causeOf_5 : decode b_th_causeOf 5 = .ok (.iload_n 1, 1) := by decide +kernel
theorem d_th_causeOf_6 : decode b_th_causeOf 6 = .ok (.ifCond .eq 8, 3) := by decide +kernel
theorem d_th_causeOf_9 : decode b_th_causeOf 9 = .ok (.bipush 6, 2) := by decide +kernel
theorem d_th_causeOf_11 : decode b_th_causeOf 11 = .ok (.goto 4, 3) := by decide +kernel
theorem d_th_causeOf_14 : decode b_th_causeOf 14 = .ok (.iconst 4, 1) := by decide +kernel
theorem d_th_causeOf_15 : decode b_th_causeOf 15 = .ok (.ireturn, 1) := by decide +kernel
theorem d_th_causeOf_16 : decode b_th_causeOf 16 = .ok (.iload_n 1, 1) := by decide +kernel
theorem d_th_causeOf_17 : decode b_th_causeOf 17 = .ok (.ifCond .eq 8, 3) := by decide +kernel
theorem d_th_causeOf_20 : decode b_th_causeOf 20 = .ok (.bipush 7, 2) := by decide +kernel
theorem d_th_causeOf_22 : decode b_th_causeOf 22 = .ok (.goto 4, 3) := by decide +kernel
theorem d_th_causeOf_25 : decode b_th_causeOf 25 = .ok (.iconst 5, 1) := by decide +kernel
theorem d_th_causeOf_26 : decode b_th_causeOf 26 = .ok (.ireturn, 1) := by decide +kernel
theorem d_th_interruptToTake_0 : decode b_th_interruptToTake 0 = .ok (.aload_n 0, 1) := by decide +kernel
theorem d_th_interruptToTake_1 : decode b_th_interruptToTake 1 = .ok (.getfield 23, 3) := by decide +kernel
theorem d_th_interruptToTake_4 : decode b_th_interruptToTake 4 = .ok (.invokevirtual 171, 3) := by decide +kernel
theorem d_th_interruptToTake_7 : decode b_th_interruptToTake 7 = .ok (.aload_n 0, 1) := by decide +kernel
theorem d_th_interruptToTake_8 : decode b_th_interruptToTake 8 = .ok (.getfield 23, 3) := by decide +kernel
theorem d_th_interruptToTake_11 : decode b_th_interruptToTake 11 = .ok (.getfield 174, 3) := by decide +kernel
theorem d_th_interruptToTake_14 : decode b_th_interruptToTake 14 = .ok (.iand, 1) := by decide +kernel
theorem d_th_interruptToTake_15 : decode b_th_interruptToTake 15 = .ok (.istore_n 1, 1) := by decide +kernel
theorem d_th_interruptToTake_16 : decode b_th_interruptToTake 16 = .ok (.aload_n 0, 1) := by decide +kernel
theorem d_th_interruptToTake_17 : decode b_th_interruptToTake 17 = .ok (.getfield 27, 3) := by decide +kernel
theorem d_th_interruptToTake_20 : decode b_th_interruptToTake 20 = .ok (.iconst 3, 1) := by decide +kernel
theorem d_th_interruptToTake_21 : decode b_th_interruptToTake 21 = .ok (.if_icmp .ne 16, 3) := by decide +kernel
theorem d_th_interruptToTake_24 : decode b_th_interruptToTake 24 = .ok (.aload_n 0, 1) := by decide +kernel
theorem d_th_interruptToTake_25 : decode b_th_interruptToTake 25 = .ok (.getfield 23, 3) := by decide +kernel
theorem d_th_interruptToTake_28 : decode b_th_interruptToTake 28 = .ok (.getfield 119, 3) := by decide +kernel
theorem d_th_interruptToTake_31 : decode b_th_interruptToTake 31 = .ok (.invokevirtual 177, 3) := by decide +kernel
theorem d_th_interruptToTake_34 : decode b_th_interruptToTake 34 = .ok (.ifCond .eq 25, 3) := by decide +kernel
theorem d_th_interruptToTake_37 : decode b_th_interruptToTake 37 = .ok (.iload_n 1, 1) := by decide +kernel
theorem d_th_interruptToTake_38 : decode b_th_interruptToTake 38 = .ok (.aload_n 0, 1) := by decide +kernel
theorem d_th_interruptToTake_39 : decode b_th_interruptToTake 39 = .ok (.getfield 23, 3) := by decide +kernel
theorem d_th_interruptToTake_42 : decode b_th_interruptToTake 42 = .ok (.getfield 181, 3) := by decide +kernel
theorem d_th_interruptToTake_45 : decode b_th_interruptToTake 45 = .ok (.iconst (-1), 1) := by decide +kernel
theorem d_th_interruptToTake_46 : decode b_th_interruptToTake 46 = .ok (.ixor, 1) := by decide +kernel
theorem d_th_interruptToTake_47 : decode b_th_interruptToTake 47 = .ok (.iand, 1) := by decide +kernel
theorem d_th_interruptToTake_48 : decode b_th_interruptToTake 48 = .ok (.invokestatic 184, 3) := by decide +kernel
theorem d_th_interruptToTake_51 : decode b_th_interruptToTake 51 = .ok (.istore_n 2, 1) := by decide +kernel
theorem d_th_interruptToTake_52 : decode b_th_interruptToTake 52 = .ok (.iload_n 2, 1) := by decide +kernel
theorem d_th_interruptToTake_53 : decode b_th_interruptToTake 53 = .ok (.iconst (-1), 1) := by decide +kernel
theorem d_th_interruptToTake_54 : decode b_th_interruptToTake 54 = .ok (.if_icmp .eq 5, 3) := by decide +kernel
theorem d_th_interruptToTake_57 : decode b_th_interruptToTake 57 = .ok (.iload_n 2, 1) := by decide +kernel
theorem d_th_interruptToTake_58 : decode b_th_interruptToTake 58 = .ok (.ireturn, 1) := by decide +kernel
theorem d_th_interruptToTake_59 : decode b_th_interruptToTake 59 = .ok (.aload_n 0, 1) := by decide +kernel
theorem d_th_interruptToTake_60 : decode b_th_interruptToTake 60 = .ok (.getfield 27, 3) := by decide +kernel
theorem d_th_interruptToTake_63 : decode b_th_interruptToTake 63 = .ok (.ifCond .eq 24, 3) := by decide +kernel
theorem d_th_interruptToTake_66 : decode b_th_interruptToTake 66 = .ok (.aload_n 0, 1) := by decide +kernel
theorem d_th_interruptToTake_67 : decode b_th_interruptToTake 67 = .ok (.getfield 27, 3) := by decide +kernel
theorem d_th_interruptToTake_70 : decode b_th_interruptToTake 70 = .ok (.iconst 1, 1) := by decide +kernel
theorem d_th_interruptToTake_71 : decode b_th_interruptToTake 71 = .ok (.if_icmp .ne 29, 3) := by decide +kernel
theorem d_th_interruptToTake_74 : decode b_th_interruptToTake 74 = .ok (.aload_n 0, 1) := by decide +kernel
theorem d_th_interruptToTake_75 : decode b_th_interruptToTake 75 = .ok (.getfield 23, 3) := by decide +kernel
theorem d_th_interruptToTake_78 : decode b_th_interruptToTake 78 = .ok (.getfield 119, 3) := by decide +kernel
theorem d_th_interruptToTake_81 : decode b_th_interruptToTake 81 = .ok (.invokevirtual 187, 3) := by decide +kernel
theorem d_th_interruptToTake_84 : decode b_th_interruptToTake 84 = .ok (.ifCond .eq 16, 3) := by decide +kernel
theorem d_th_interruptToTake_87 : decode b_th_interruptToTake 87 = .ok (.iload_n 1, 1) := by decide +kernel
theorem d_th_interruptToTake_88 : decode b_th_interruptToTake 88 = .ok (.aload_n 0, 1) := by decide +kernel
theorem d_th_interruptToTake_89 : decode b_th_interruptToTake 89 = .ok (.getfield 23, 3) := by decide +kernel
theorem d_th_interruptToTake_92 : decode b_th_interruptToTake 92 = .ok (.getfield 181, 3) := by decide +kernel
theorem d_th_interruptToTake_95 : decode b_th_interruptToTake 95 = .ok (.iand, 1) := by decide +kernel
theorem d_th_interruptToTake_96 : decode b_th_interruptToTake 96 = .ok (.invokestatic 184, 3) := by decide +kernel
theorem d_th_interruptToTake_99 : decode b_th_interruptToTake 99 = .ok (.ireturn, 1) := by decide +kernel
theorem d_th_interruptToTake_100 : decode b_th_interruptToTake 100 = .ok (.iconst (-1), 1) := by decide +kernel
theorem d_th_interruptToTake_101 : decode b_th_interruptToTake 101 = .ok (.ireturn, 1) := by decide +kernel
theorem d_th_enterTrap_0 : decode b_th_enterTrap 0 = .ok (.aload_n 0, 1) := by decide +kernel
theorem d_th_enterTrap_1 : decode b_th_enterTrap 1 = .ok (.getfield 27, 3) := by decide +kernel
theorem d_th_enterTrap_4 : decode b_th_enterTrap 4 = .ok (.iconst 3, 1) := by decide +kernel
theorem d_th_enterTrap_5 : decode b_th_enterTrap 5 = .ok (.if_icmp .eq 45, 3) := by decide +kernel
theorem d_th_enterTrap_8 : decode b_th_enterTrap 8 = .ok (.aload_n 0, 1) := by decide +kernel
theorem d_th_enterTrap_9 : decode b_th_enterTrap 9 = .ok (.getfield 23, 3) := by decide +kernel
theorem d_th_enterTrap_12 : decode b_th_enterTrap 12 = .ok (.iload_n 1, 1) := by decide +kernel
theorem d_th_enterTrap_13 : decode b_th_enterTrap 13 = .ok (.iload_n 2, 1) := by decide +kernel
theorem d_th_enterTrap_14 : decode b_th_enterTrap 14 = .ok (.invokevirtual 190, 3) := by decide +kernel
theorem d_th_enterTrap_17 : decode b_th_enterTrap 17 = .ok (.ifCond .eq 33, 3) := by decide +kernel
theorem d_th_enterTrap_20 : decode b_th_enterTrap 20 = .ok (.aload_n 0, 1) := by decide +kernel
theorem d_th_enterTrap_21 : decode b_th_enterTrap 21 = .ok (.getfield 23, 3) := by decide +kernel
theorem d_th_enterTrap_24 : decode b_th_enterTrap 24 = .ok (.getfield 119, 3) := by decide +kernel
theorem d_th_enterTrap_27 : decode b_th_enterTrap 27 = .ok (.aload_n 0, 1) := by decide +kernel
theorem d_th_enterTrap_28 : decode b_th_enterTrap 28 = .ok (.getfield 27, 3) := by decide +kernel
theorem d_th_enterTrap_31 : decode b_th_enterTrap 31 = .ok (.invokevirtual 194, 3) := by decide +kernel
theorem d_th_enterTrap_34 : decode b_th_enterTrap 34 = .ok (.aload_n 0, 1) := by decide +kernel
theorem d_th_enterTrap_35 : decode b_th_enterTrap 35 = .ok (.getfield 23, 3) := by decide +kernel
theorem d_th_enterTrap_38 : decode b_th_enterTrap 38 = .ok (.getfield 140, 3) := by decide +kernel
theorem d_th_enterTrap_41 : decode b_th_enterTrap 41 = .ok (.astore_n 3, 1) := by decide +kernel
theorem d_th_enterTrap_42 : decode b_th_enterTrap 42 = .ok (.aload_n 0, 1) := by decide +kernel
theorem d_th_enterTrap_43 : decode b_th_enterTrap 43 = .ok (.iconst 1, 1) := by decide +kernel
theorem d_th_enterTrap_44 : decode b_th_enterTrap 44 = .ok (.putfield 27, 3) := by decide +kernel
theorem d_th_enterTrap_47 : decode b_th_enterTrap 47 = .ok (.goto 30, 3) := by decide +kernel
theorem d_th_enterTrap_50 : decode b_th_enterTrap 50 = .ok (.aload_n 0, 1) := by decide +kernel
theorem d_th_enterTrap_51 : decode b_th_enterTrap 51 = .ok (.getfield 23, 3) := by decide +kernel
theorem d_th_enterTrap_54 : decode b_th_enterTrap 54 = .ok (.getfield 119, 3) := by decide +kernel
theorem d_th_enterTrap_57 : decode b_th_enterTrap 57 = .ok (.aload_n 0, 1) := by decide +kernel
theorem d_th_enterTrap_58 : decode b_th_enterTrap 58 = .ok (.getfield 27, 3) := by decide +kernel
theorem d_th_enterTrap_61 : decode b_th_enterTrap 61 = .ok (.invokevirtual 197, 3) := by decide +kernel
theorem d_th_enterTrap_64 : decode b_th_enterTrap 64 = .ok (.aload_n 0, 1) := by decide +kernel
theorem d_th_enterTrap_65 : decode b_th_enterTrap 65 = .ok (.getfield 23, 3) := by decide +kernel
theorem d_th_enterTrap_68 : decode b_th_enterTrap 68 = .ok (.getfield 128, 3) := by decide +kernel
theorem d_th_enterTrap_71 : decode b_th_enterTrap 71 = .ok (.astore_n 3, 1) := by decide +kernel
theorem d_th_enterTrap_72 : decode b_th_enterTrap 72 = .ok (.aload_n 0, 1) := by decide +kernel
theorem d_th_enterTrap_73 : decode b_th_enterTrap 73 = .ok (.iconst 3, 1) := by decide +kernel
theorem d_th_enterTrap_74 : decode b_th_enterTrap 74 = .ok (.putfield 27, 3) := by decide +kernel
theorem d_th_enterTrap_77 : decode b_th_enterTrap 77 = .ok (.aload_n 0, 1) := by decide +kernel
theorem d_th_enterTrap_78 : decode b_th_enterTrap 78 = .ok (.aload_n 3, 1) := by decide +kernel
theorem d_th_enterTrap_79 : decode b_th_enterTrap 79 = .ok (.aload_n 0, 1) := by decide +kernel
theorem d_th_enterTrap_80 : decode b_th_enterTrap 80 = .ok (.getfield 31, 3) := by decide +kernel
theorem d_th_enterTrap_83 : decode b_th_enterTrap 83 = .ok (.iload_n 1, 1) := by decide +kernel
theorem d_th_enterTrap_84 : decode b_th_enterTrap 84 = .ok (.iload_n 2, 1) := by decide +kernel
theorem d_th_enterTrap_85 : decode b_th_enterTrap 85 = .ok (.invokevirtual 200, 3) := by decide +kernel
theorem d_th_enterTrap_88 : decode b_th_enterTrap 88 = .ok (.putfield 31, 3) := by decide +kernel
theorem d_th_enterTrap_91 : decode b_th_enterTrap 91 = .ok (.return_, 1) := by decide +kernel
theorem d_th_hasBit_0 : decode b_th_hasBit 0 = .ok (.iload_n 0, 1) := by decide +kernel
theorem d_th_hasBit_1 : decode b_th_hasBit 1 = .ok (.iload_n 1, 1) := by decide +kernel
theorem d_th_hasBit_2 : decode b_th_hasBit 2 = .ok (.iushr, 1) := by decide +kernel
theorem d_th_hasBit_3 : decode b_th_hasBit 3 = .ok (.iconst 1, 1) := by decide +kernel
theorem d_th_hasBit_4 : decode b_th_hasBit 4 = .ok (.iand, 1) := by decide +kernel
theorem d_th_hasBit_5 : decode b_th_hasBit 5 = .ok (.ifCond .eq 7, 3) := by decide +kernel
theorem d_th_hasBit_8 : decode b_th_hasBit 8 = .ok (.iconst 1, 1) := by decide +kernel
theorem d_th_hasBit_9 : decode b_th_hasBit 9 = .ok (.goto 4, 3) := by decide +kernel
theorem d_th_hasBit_12 : decode b_th_hasBit 12 = .ok (.iconst 0, 1) := by decide +kernel
theorem d_th_hasBit_13 : decode b_th_hasBit 13 = .ok (.ireturn, 1) := by decide +kernel
theorem d_th_replaceBits_0 : decode b_th_replaceBits 0 = .ok (.iload_n 0, 1) := by decide +kernel
theorem d_th_replaceBits_1 : decode b_th_replaceBits 1 = .ok (.iload_n 2, 1) := by decide +kernel
theorem d_th_replaceBits_2 : decode b_th_replaceBits 2 = .ok (.iconst (-1), 1) := by decide +kernel
theorem d_th_replaceBits_3 : decode b_th_replaceBits 3 = .ok (.ixor, 1) := by decide +kernel
theorem d_th_replaceBits_4 : decode b_th_replaceBits 4 = .ok (.iand, 1) := by decide +kernel
theorem d_th_replaceBits_5 : decode b_th_replaceBits 5 = .ok (.iload_n 1, 1) := by decide +kernel
theorem d_th_replaceBits_6 : decode b_th_replaceBits 6 = .ok (.iload_n 2, 1) := by decide +kernel
theorem d_th_replaceBits_7 : decode b_th_replaceBits 7 = .ok (.iand, 1) := by decide +kernel
theorem d_th_replaceBits_8 : decode b_th_replaceBits 8 = .ok (.ior, 1) := by decide +kernel
theorem d_th_replaceBits_9 : decode b_th_replaceBits 9 = .ok (.ireturn, 1) := by decide +kernel
theorem d_mo_init_0 : decode b_mo_init 0 = .ok (.aload_n 0, 1) := by decide +kernel
theorem d_mo_init_1 : decode b_mo_init 1 = .ok (.invokespecial 1, 3) := by decide +kernel
theorem d_mo_init_4 : decode b_mo_init 4 = .ok (.aload_n 0, 1) := by decide +kernel
theorem d_mo_init_5 : decode b_mo_init 5 = .ok (.iconst 3, 1) := by decide +kernel
theorem d_mo_init_6 : decode b_mo_init 6 = .ok (.putfield 7, 3) := by decide +kernel
theorem d_mo_init_9 : decode b_mo_init 9 = .ok (.aload_n 0, 1) := by decide +kernel
theorem d_mo_init_10 : decode b_mo_init 10 = .ok (.bipush 16, 2) := by decide +kernel
theorem d_mo_init_12 : decode b_mo_init 12 = .ok (.newarray .boolean, 2) := by decide +kernel
theorem d_mo_init_14 : decode b_mo_init 14 = .ok (.putfield 13, 3) := by decide +kernel
theorem d_mo_init_17 : decode b_mo_init 17 = .ok (.aload_n 0, 1) := by decide +kernel
theorem d_mo_init_18 : decode b_mo_init 18 = .ok (.bipush 16, 2) := by decide +kernel
theorem d_mo_init_20 : decode b_mo_init 20 = .ok (.newarray .boolean, 2) := by decide +kernel
theorem d_mo_init_22 : decode b_mo_init 22 = .ok (.putfield 17, 3) := by decide +kernel
theorem d_mo_init_25 : decode b_mo_init 25 = .ok (.aload_n 0, 1) := by decide +kernel
theorem d_mo_init_26 : decode b_mo_init 26 = .ok (.bipush 16, 2) := by decide +kernel
theorem d_mo_init_28 : decode b_mo_init 28 = .ok (.newarray .int, 2) := by decide +kernel
theorem d_mo_init_30 : decode b_mo_init 30 = .ok (.putfield 20, 3) := by decide +kernel
theorem d_mo_init_33 : decode b_mo_init 33 = .ok (.aload_n 0, 1) := by decide +kernel
theorem d_mo_init_34 : decode b_mo_init 34 = .ok (.bipush 16, 2) := by decide +kernel
theorem d_mo_init_36 : decode b_mo_init 36 = .ok (.newarray .boolean, 2) := by decide +kernel
theorem d_mo_init_38 : decode b_mo_init 38 = .ok (.putfield 24, 3) := by decide +kernel
theorem d_mo_init_41 : decode b_mo_init 41 = .ok (.aload_n 0, 1) := by decide +kernel
theorem d_mo_init_42 : decode b_mo_init 42 = .ok (.bipush 16, 2) := by decide +kernel
theorem d_mo_init_44 : decode b_mo_init 44 = .ok (.newarray .int, 2) := by decide +kernel
theorem d_mo_init_46 : decode b_mo_init 46 = .ok (.putfield 27, 3) := by decide +kernel
theorem d_mo_init_49 : decode b_mo_init 49 = .ok (.aload_n 0, 1) := by decide +kernel
theorem d_mo_init_50 : decode b_mo_init 50 = .ok (.bipush 16, 2) := by decide +kernel
theorem d_mo_init_52 : decode b_mo_init 52 = .ok (.newarray .int, 2) := by decide +kernel
theorem d_mo_init_54 : decode b_mo_init 54 = .ok (.putfield 30, 3) := by decide +kernel
theorem d_mo_init_57 : decode b_mo_init 57 = .ok (.aload_n 0, 1) := by decide +kernel
theorem d_mo_init_58 : decode b_mo_init 58 = .ok (.iconst 2, 1) := by decide +kernel
theorem d_mo_init_59 : decode b_mo_init 59 = .ok (.newarray .int, 2) := by decide +kernel
theorem d_mo_init_61 : decode b_mo_init 61 = .ok (.putfield 33, 3) := by decide +kernel
theorem d_mo_init_64 : decode b_mo_init 64 = .ok (.aload_n 0, 1) := by decide +kernel
theorem d_mo_init_65 : decode b_mo_init 65 = .ok (.iconst 2, 1) := by decide +kernel
theorem d_mo_init_66 : decode b_mo_init 66 = .ok (.newarray .int, 2) := by decide +kernel
theorem d_mo_init_68 : decode b_mo_init 68 = .ok (.putfield 36, 3) := by decide +kernel
theorem d_mo_init_71 : decode b_mo_init 71 = .ok (.aload_n 0, 1) := by decide +kernel
theorem d_mo_init_72 : decode b_mo_init 72 = .ok (.ldc2_w 39, 3) := by decide +kernel
theorem d_mo_init_75 : decode b_mo_init 75 = .ok (.putfield 41, 3) := by decide +kernel
theorem d_mo_init_78 : decode b_mo_init 78 = .ok (.aload_n 0, 1) := by decide +kernel
theorem d_mo_init_79 : decode b_mo_init 79 = .ok (.iconst 2, 1) := by decide +kernel
theorem d_mo_init_80 : decode b_mo_init 80 = .ok (.newarray .int, 2) := by decide +kernel
theorem d_mo_init_82 : decode b_mo_init 82 = .ok (.putfield 45, 3) := by decide +kernel
theorem d_mo_init_85 : decode b_mo_init 85 = .ok (.aload_n 0, 1) := by decide +kernel
theorem d_mo_init_86 : decode b_mo_init 86 = .ok (.iconst 2, 1) := by decide +kernel
theorem d_mo_init_87 : decode b_mo_init 87 = .ok (.newarray .int, 2) := by decide +kernel
theorem d_mo_init_89 : decode b_mo_init 89 = .ok (.putfield 48, 3) := by decide +kernel
theorem d_mo_init_92 : decode b_mo_init 92 = .ok (.aload_n 0, 1) := by decide +kernel
theorem d_mo_init_93 : decode b_mo_init 93 = .ok (.iconst 2, 1) := by decide +kernel
theorem d_mo_init_94 : decode b_mo_init 94 = .ok (.newarray .int, 2) := by decide +kernel
theorem d_mo_init_96 : decode b_mo_init 96 = .ok (.putfield 51, 3) := by decide +kernel
theorem d_mo_init_99 : decode b_mo_init 99 = .ok (.iconst 1, 1) := by decide +kernel
theorem d_mo_init_100 : decode b_mo_init 100 = .ok (.istore_n 2, 1) := by decide +kernel
theorem d_mo_init_101 : decode b_mo_init 101 = .ok (.iload_n 2, 1) := by decide +kernel
theorem d_mo_init_102 : decode b_mo_init 102 = .ok (.bipush 16, 2) := by decide +kernel
theorem d_mo_init_104 : decode b_mo_init 104 = .ok (.if_icmp .ge 29, 3) := by decide +kernel
theorem d_mo_init_107 : decode b_mo_init 107 = .ok (.aload_n 0, 1) := by decide +kernel
theorem d_mo_init_108 : decode b_mo_init 108 = .ok (.getfield 13, 3) := by decide +kernel
theorem d_mo_init_111 : decode b_mo_init 111 = .ok (.iload_n 2, 1) := by decide +kernel
theorem d_mo_init_112 : decode b_mo_init 112 = .ok (.iload_n 1, 1) := by decide +kernel
theorem d_mo_init_113 : decode b_mo_init 113 = .ok (.iload_n 2, 1) := by decide +kernel
theorem d_mo_init_114 : decode b_mo_init 114 = .ok (.ishr, 1) := by decide +kernel
theorem d_mo_init_115 : decode b_mo_init 115 = .ok (.iconst 1, 1) := by decide +kernel
theorem d_mo_init_116 : decode b_mo_init 116 = .ok (.iand, 1) := by decide +kernel
theorem d_mo_init_117 : decode b_mo_init 117 = .ok (.iconst 1, 1) := by decide +kernel
theorem d_mo_init_118 : decode b_mo_init 118 = .ok (.if_icmp .ne 7, 3) := by decide +kernel
theorem d_mo_init_121 : decode b_mo_init 121 = .ok (.iconst 1, 1) := by decide +kernel
theorem d_mo_init_122 : decode b_mo_init 122 = .ok (.goto 4, 3) := by decide +kernel
theorem d_mo_init_125 : decode b_mo_init 125 = .ok (.iconst 0, 1) := by decide +kernel
theorem d_mo_init_126 : decode b_mo_init 126 = .ok (.bastore, 1) := by decide +kernel
theorem d_mo_init_127 : decode b_mo_init 127 = .ok (.iinc 2 1, 3) := by decide +kernel
theorem d_mo_init_130 : decode b_mo_init 130 = .ok (.goto (-29), 3) := by decide +kernel
theorem d_mo_init_133 : decode b_mo_init 133 = .ok (.return_, 1) := by decide +kernel
theorem d_mo_thrown_0 : decode b_mo_thrown 0 = .ok (.aload_n 0, 1) := by decide +kernel
theorem d_mo_thrown_1 : decode b_mo_thrown 1 = .ok (.getfield 54, 3) := by decide +kernel
theorem d_mo_thrown_4 : decode b_mo_thrown 4 = .ok (.ireturn, 1) := by decide +kernel
theorem d_mo_forward_0 : decode b_mo_forward 0 = .ok (.iconst 1, 1) := by decide +kernel
theorem d_mo_forward_1 : decode b_mo_forward 1 = .ok (.istore_n 1, 1) := by decide +kernel
theorem d_mo_forward_2 : decode b_mo_forward 2 = .ok (.iload_n 1, 1) := by decide +kernel
theorem d_mo_forward_3 : decode b_mo_forward 3 = .ok (.bipush 16, 2) := by decide +kernel
theorem d_mo_forward_5 : decode b_mo_forward 5 = .ok (.if_icmp .ge 87, 3) := by decide +kernel
theorem d_mo_forward_8 : decode b_mo_forward 8 = .ok (.aload_n 0, 1) := by decide +kernel
theorem d_mo_forward_9 : decode b_mo_forward 9 = .ok (.getfield 24, 3) := by decide +kernel
theorem d_mo_forward_12 : decode b_mo_forward 12 = .ok (.iload_n 1, 1) := by decide +kernel
theorem d_mo_forward_13 : decode b_mo_forward 13 = .ok (.baload, 1) := by decide +kernel
theorem d_mo_forward_14 : decode b_mo_forward 14 = .ok (.ifCond .ne 72, 3) := by decide +kernel
theorem d_mo_forward_17 : decode b_mo_forward 17 = .ok (.aload_n 0, 1) := by decide +kernel
theorem d_mo_forward_18 : decode b_mo_forward 18 = .ok (.getfield 27, 3) := by decide +kernel
theorem d_mo_forward_21 : decode b_mo_forward 21 = .ok (.iload_n 1, 1) := by decide +kernel
theorem d_mo_forward_22 : decode b_mo_forward 22 = .ok (.iaload, 1) := by decide +kernel
theorem d_mo_forward_23 : decode b_mo_forward 23 = .ok (.ifCond .ne 63, 3) := by decide +kernel
theorem d_mo_forward_26 : decode b_mo_forward 26 = .ok (.aload_n 0, 1) := by decide +kernel
theorem d_mo_forward_27 : decode b_mo_forward 27 = .ok (.getfield 13, 3) := by decide +kernel
theorem d_mo_forward_30 : decode b_mo_forward 30 = .ok (.iload_n 1, 1) := by decide +kernel
theorem d_mo_forward_31 : decode b_mo_forward 31 = .ok (.baload, 1) := by decide +kernel
theorem d_mo_forward_32 : decode b_mo_forward 32 = .ok (.ifCond .eq 29, 3) := by decide +kernel
theorem d_mo_forward_35 : decode b_mo_forward 35 = .ok (.aload_n 0, 1) := by decide +kernel
theorem d_mo_forward_36 : decode b_mo_forward 36 = .ok (.getfield 30, 3) := by decide +kernel
theorem d_mo_forward_39 : decode b_mo_forward 39 = .ok (.iload_n 1, 1) := by decide +kernel
theorem d_mo_forward_40 : decode b_mo_forward 40 = .ok (.iaload, 1) := by decide +kernel
theorem d_mo_forward_41 : decode b_mo_forward 41 = .ok (.ifCond .le 20, 3) := by decide +kernel
theorem d_mo_forward_44 : decode b_mo_forward 44 = .ok (.aload_n 0, 1) := by decide +kernel
theorem d_mo_forward_45 : decode b_mo_forward 45 = .ok (.getfield 30, 3) := by decide +kernel
theorem d_mo_forward_48 : decode b_mo_forward 48 = .ok (.iload_n 1, 1) := by decide +kernel
theorem d_mo_forward_49 : decode b_mo_forward 49 = .ok (.dup2, 1) := by decide +kernel
theorem d_mo_forward_50 : decode b_mo_forward 50 = .ok (.iaload, 1) := by decide +kernel
theorem d_mo_forward_51 : decode b_mo_forward 51 = .ok (.iconst 1, 1) := by decide +kernel
theorem d_mo_forward_52 : decode b_mo_forward 52 = .ok (.isub, 1) := by decide +kernel
theorem d_mo_forward_53 : decode b_mo_forward 53 = .ok (.iastore, 1) := by decide +kernel
theorem d_mo_forward_54 : decode b_mo_forward 54 = .ok (.aload_n 0, 1) := by decide +kernel
theorem d_mo_forward_55 : decode b_mo_forward 55 = .ok (.getfield 24, 3) := by decide +kernel
theorem d_mo_forward_58 : decode b_mo_forward 58 = .ok (.iload_n 1, 1) := by decide +kernel
theorem d_mo_forward_59 : decode b_mo_forward 59 = .ok (.iconst 1, 1) := by decide +kernel
theorem d_mo_forward_60 : decode b_mo_forward 60 = .ok (.bastore, 1) := by decide +kernel
theorem d_mo_forward_61 : decode b_mo_forward 61 = .ok (.aload_n 0, 1) := by decide +kernel
theorem d_mo_forward_62 : decode b_mo_forward 62 = .ok (.getfield 13, 3) := by decide +kernel
theorem d_mo_forward_65 : decode b_mo_forward 65 = .ok (.iload_n 1, 1) := by decide +kernel
theorem d_mo_forward_66 : decode b_mo_forward 66 = .ok (.baload, 1) := by decide +kernel
theorem d_mo_forward_67 : decode b_mo_forward 67 = .ok (.ifCond .ne 19, 3) := by decide +kernel
theorem d_mo_forward_70 : decode b_mo_forward 70 = .ok (.aload_n 0, 1) := by decide +kernel
theorem d_mo_forward_71 : decode b_mo_forward 71 = .ok (.getfield 17, 3) := by decide +kernel
theorem d_mo_forward_74 : decode b_mo_forward 74 = .ok (.iload_n 1, 1) := by decide +kernel
theorem d_mo_forward_75 : decode b_mo_forward 75 = .ok (.baload, 1) := by decide +kernel
theorem d_mo_forward_76 : decode b_mo_forward 76 = .ok (.ifCond .eq 10, 3) := by decide +kernel
theorem d_mo_forward_79 : decode b_mo_forward 79 = .ok (.aload_n 0, 1) := by decide +kernel
theorem d_mo_forward_80 : decode b_mo_forward 80 = .ok (.getfield 24, 3) := by decide +kernel
theorem d_mo_forward_83 : decode b_mo_forward 83 = .ok (.iload_n 1, 1) := by decide +kernel
theorem d_mo_forward_84 : decode b_mo_forward 84 = .ok (.iconst 1, 1) := by decide +kernel
theorem d_mo_forward_85 : decode b_mo_forward 85 = .ok (.bastore, 1) := by decide +kernel
theorem d_mo_forward_86 : decode b_mo_forward 86 = .ok (.iinc 1 1, 3) := by decide +kernel
theorem d_mo_forward_89 : decode b_mo_forward 89 = .ok (.goto (-87), 3) := by decide +kernel
theorem d_mo_forward_92 : decode b_mo_forward 92 = .ok (.return_, 1) := by decide +kernel
theorem d_mo_pendingSet_0 : decode b_mo_pendingSet 0 = .ok (.iconst 0, 1) := by decide +kernel
theorem d_mo_pendingSet_1 : decode b_mo_pendingSet 1 = .ok (.istore_n 1, 1) := by decide +kernel
theorem d_mo_pendingSet_2 : decode b_mo_pendingSet 2 = .ok (.iconst 1, 1) := by decide +kernel
theorem d_mo_pendingSet_3 : decode b_mo_pendingSet 3 = .ok (.istore_n 2, 1) := by decide +kernel
theorem d_mo_pendingSet_4 : decode b_mo_pendingSet 4 = .ok (.iload_n 2, 1) := by decide +kernel
theorem d_mo_pendingSet_5 : decode b_mo_pendingSet 5 = .ok (.bipush 16, 2) := by decide +kernel
theorem d_mo_pendingSet_7 : decode b_mo_pendingSet 7 = .ok (.if_icmp .ge 28, 3) := by decide +kernel
theorem d_mo_pendingSet_10 : decode b_mo_pendingSet 10 = .ok (.aload_n 0, 1) := by decide +kernel
theorem d_mo_pendingSet_11 : decode b_mo_pendingSet 11 = .ok (.getfield 24, 3) := by decide +kernel
theorem d_mo_pendingSet_14 : decode b_mo_pendingSet 14 = .ok (.iload_n 2, 1) := by decide +kernel
theorem d_mo_pendingSet_15 : decode b_mo_pendingSet 15 = .ok (.baload, 1) := by decide +kernel
theorem d_mo_pendingSet_16 : decode b_mo_pendingSet 16 = .ok (.ifCond .eq 11, 3) := by decide +kernel
theorem d_mo_pendingSet_19 : decode b_mo_pendingSet 19 = .ok (.iload_n 1, 1) := by decide +kernel
theorem d_mo_pendingSet_20 : decode b_mo_pendingSet 20 = .ok (.iconst 1, 1) := by decide +kernel
theorem d_mo_pendingSet_21 : decode b_mo_pendingSet 21 = .ok (.iload_n 2, 1) := by decide +kernel
theorem d_mo_pendingSet_22 : decode b_mo_pendingSet 22 = .ok (.ishl, 1) := by decide +kernel
theorem d_mo_pendingSet_23 : decode b_mo_pendingSet 23 = .ok (.iadd, 1) := by decide +kernel
theorem d_mo_pendingSet_24 : decode b_mo_pendingSet 24 = .ok (.goto 4, 3) := by decide +kernel
theorem d_mo_pendingSet_27 : decode b_mo_pendingSet 27 = .ok (.iload_n 1, 1) := by decide +kernel
theorem d_mo_pendingSet_28 : decode b_mo_pendingSet 28 = .ok (.istore_n 1, 1) := by decide +kernel
theorem d_mo_pendingSet_29 : decode b_mo_pendingSet 29 = .ok (.iinc 2 1, 3) := by decide +kernel
theorem d_mo_pendingSet_32 : decode b_mo_pendingSet 32 = .ok (.goto (-28), 3) := by decide +kernel
theorem d_mo_pendingSet_35 : decode b_mo_pendingSet 35 = .ok (.iload_n 1, 1) := by decide +kernel
theorem d_mo_pendingSet_36 : decode b_mo_pendingSet 36 = .ok (.ireturn, 1) := by decide +kernel
theorem d_mo_lines_0 : decode b_mo_lines 0 = .ok (.aload_n 0, 1) := by decide +kernel
theorem d_mo_lines_1 : decode b_mo_lines 1 = .ok (.iconst 0, 1) := by decide +kernel
theorem d_mo_lines_2 : decode b_mo_lines 2 = .ok (.putfield 54, 3) := by decide +kernel
theorem d_mo_lines_5 : decode b_mo_lines 5 = .ok (.iconst 1, 1) := by decide +kernel
theorem d_mo_lines_6 : decode b_mo_lines 6 = .ok (.istore_n 2, 1) := by decide +kernel
theorem d_mo_lines_7 : decode b_mo_lines 7 = .ok (.iload_n 2, 1) := by decide +kernel
theorem d_mo_lines_8 : decode b_mo_lines 8 = .ok (.bipush 16, 2) := by decide +kernel
theorem d_mo_lines_10 : decode b_mo_lines 10 = .ok (.if_icmp .ge 74, 3) := by decide +kernel
theorem d_mo_lines_13 : decode b_mo_lines 13 = .ok (.iload_n 1, 1) := by decide +kernel
theorem d_mo_lines_14 : decode b_mo_lines 14 = .ok (.iload_n 2, 1) := by decide +kernel
theorem d_mo_lines_15 : decode b_mo_lines 15 = .ok (.ishr, 1) := by decide +kernel
theorem d_mo_lines_16 : decode b_mo_lines 16 = .ok (.iconst 1, 1) := by decide +kernel
theorem d_mo_lines_17 : decode b_mo_lines 17 = .ok (.iand, 1) := by decide +kernel
theorem d_mo_lines_18 : decode b_mo_lines 18 = .ok (.iconst 1, 1) := by decide +kernel
theorem d_mo_lines_19 : decode b_mo_lines 19 = .ok (.if_icmp .ne 7, 3) := by decide +kernel
theorem d_mo_lines_22 : decode b_mo_lines 22 = .ok (.iconst 1, 1) := by decide +kernel
theorem d_mo_lines_23 : decode b_mo_lines 23 = .ok (.goto 4, 3) := by decide +kernel
theorem d_mo_lines_26 : decode b_mo_lines 26 = .ok (.iconst 0, 1) := by decide +kernel
theorem d_mo_lines_27 : decode b_mo_lines 27 = .ok (.istore_n 3, 1) := by decide +kernel
theorem d_mo_lines_28 : decode b_mo_lines 28 = .ok (.aload_n 0, 1) := by decide +kernel
theorem d_mo_lines_29 : decode b_mo_lines 29 = .ok (.getfield 13, 3) := by decide +kernel
theorem d_mo_lines_32 : decode b_mo_lines 32 = .ok (.iload_n 2, 1) := by decide +kernel
theorem d_mo_lines_33 : decode b_mo_lines 33 = .ok (.baload, 1) := by decide +kernel
theorem d_mo_lines_34 : decode b_mo_lines 34 = .ok (.ifCond .eq 37, 3) := by decide +kernel
theorem d_mo_lines_37 : decode b_mo_lines 37 = .ok (.iload_n 3, 1) := by decide +kernel
theorem d_mo_lines_38 : decode b_mo_lines 38 = .ok (.ifCond .eq 33, 3) := by decide +kernel
theorem d_mo_lines_41 : decode b_mo_lines 41 = .ok (.aload_n 0, 1) := by decide +kernel
theorem d_mo_lines_42 : decode b_mo_lines 42 = .ok (.getfield 17, 3) := by decide +kernel
theorem d_mo_lines_45 : decode b_mo_lines 45 = .ok (.iload_n 2, 1) := by decide +kernel
theorem d_mo_lines_46 : decode b_mo_lines 46 = .ok (.baload, 1) := by decide +kernel
theorem d_mo_lines_47 : decode b_mo_lines 47 = .ok (.ifCond .ne 24, 3) := by decide +kernel
theorem d_mo_lines_50 : decode b_mo_lines 50 = .ok (.aload_n 0, 1) := by decide +kernel
theorem d_mo_lines_51 : decode b_mo_lines 51 = .ok (.getfield 30, 3) := by decide +kernel
theorem d_mo_lines_54 : decode b_mo_lines 54 = .ok (.iload_n 2, 1) := by decide +kernel
theorem d_mo_lines_55 : decode b_mo_lines 55 = .ok (.iaload, 1) := by decide +kernel
theorem d_mo_lines_56 : decode b_mo_lines 56 = .ok (.bipush 15, 2) := by decide +kernel
theorem d_mo_lines_58 : decode b_mo_lines 58 = .ok (.if_icmp .ge 13, 3) := by decide +kernel
theorem d_mo_lines_61 : decode b_mo_lines 61 = .ok (.aload_n 0, 1) := by decide +kernel
theorem d_mo_lines_62 : decode b_mo_lines 62 = .ok (.getfield 30, 3) := by decide +kernel
theorem d_mo_lines_65 : decode b_mo_lines 65 = .ok (.iload_n 2, 1) := by decide +kernel
theorem d_mo_lines_66 : decode b_mo_lines 66 = .ok (.dup2, 1) := by decide +kernel
theorem d_mo_lines_67 : decode b_mo_lines 67 = .ok (.iaload, 1) := by decide +kernel
theorem d_mo_lines_68 : decode b_mo_lines 68 = .ok (.iconst 1, 1) := by decide +kernel
theorem d_mo_lines_69 : decode b_mo_lines 69 = .ok (.iadd, 1) := by decide +kernel
theorem d_mo_lines_70 : decode b_mo_lines 70 = .ok (.iastore, 1) := by decide +kernel
theorem d_mo_lines_71 : decode b_mo_lines 71 = .ok (.aload_n 0, 1) := by decide +kernel
theorem d_mo_lines_72 : decode b_mo_lines 72 = .ok (.getfield 17, 3) := by decide +kernel
theorem d_mo_lines_75 : decode b_mo_lines 75 = .ok (.iload_n 2, 1) := by decide +kernel
theorem d_mo_lines_76 : decode b_mo_lines 76 = .ok (.iload_n 3, 1) := by decide +kernel
theorem d_mo_lines_77 : decode b_mo_lines 77 = .ok (.bastore, 1) := by decide +kernel
theorem d_mo_lines_78 : decode b_mo_lines 78 = .ok (.iinc 2 1, 3) := by decide +kernel
theorem d_mo_lines_81 : decode b_mo_lines 81 = .ok (.goto (-74), 3) := by decide +kernel
theorem d_mo_lines_84 : decode b_mo_lines 84 = .ok (.aload_n 0, 1) := by decide +kernel
theorem d_mo_lines_85 : decode b_mo_lines 85 = .ok (.invokevirtual 57, 3) := by decide +kernel
theorem d_mo_lines_88 : decode b_mo_lines 88 = .ok (.aload_n 0, 1) := by decide +kernel
theorem d_mo_lines_89 : decode b_mo_lines 89 = .ok (.invokevirtual 60, 3) := by decide +kernel
theorem d_mo_lines_92 : decode b_mo_lines 92 = .ok (.ireturn, 1) := by decide +kernel
theorem d_mo_isEnabled_0 : decode b_mo_isEnabled 0 = .ok (.aload_n 0, 1) := by decide +kernel
theorem d_mo_isEnabled_1 : decode b_mo_isEnabled 1 = .ok (.getfield 33, 3) := by decide +kernel
theorem d_mo_isEnabled_4 : decode b_mo_isEnabled 4 = .ok (.iload_n 1, 1) := by decide +kernel
theorem d_mo_isEnabled_5 : decode b_mo_isEnabled 5 = .ok (.iaload, 1) := by decide +kernel
theorem d_mo_isEnabled_6 : decode b_mo_isEnabled 6 = .ok (.iload_n 2, 1) := by decide +kernel
theorem d_mo_isEnabled_7 : decode b_mo_isEnabled 7 = .ok (.ishr, 1) := by decide +kernel
theorem d_mo_isEnabled_8 : decode b_mo_isEnabled 8 = .ok (.iconst 1, 1) := by decide +kernel
theorem d_mo_isEnabled_9 : decode b_mo_isEnabled 9 = .ok (.iand, 1) := by decide +kernel
theorem d_mo_isEnabled_10 : decode b_mo_isEnabled 10 = .ok (.iconst 1, 1) := by decide +kernel
theorem d_mo_isEnabled_11 : decode b_mo_isEnabled 11 = .ok (.if_icmp .ne 7, 3) := by decide +kernel
theorem d_mo_isEnabled_14 : decode b_mo_isEnabled 14 = .ok (.iconst 1, 1) := by decide +kernel
theorem d_mo_isEnabled_15 : decode b_mo_isEnabled 15 = .ok (.goto 4, 3) := by decide +kernel
theorem d_mo_isEnabled_18 : decode b_mo_isEnabled 18 = .ok (.iconst 0, 1) := by decide +kernel
theorem d_mo_isEnabled_19 : decode b_mo_isEnabled 19 = .ok (.ireturn, 1) := by decide +kernel
theorem d_mo_claim_0 : decode b_mo_claim 0 = .ok (.iconst 0, 1) := by decide +kernel
theorem d_mo_claim_1 : decode b_mo_claim 1 = .ok (.istore_n 2, 1) := by decide +kernel
theorem d_mo_claim_2 : decode b_mo_claim 2 = .ok (.bipush 15, 2) := by decide +kernel
theorem d_mo_claim_4 : decode b_mo_claim 4 = .ok (.istore_n 3, 1) := by decide +kernel
theorem d_mo_claim_5 : decode b_mo_claim 5 = .ok (.iload_n 3, 1) := by decide +kernel
theorem d_mo_claim_6 : decode b_mo_claim 6 = .ok (.ifCond .le 57, 3) := by decide +kernel
theorem d_mo_claim_9 : decode b_mo_claim 9 = .ok (.aload_n 0, 1) := by decide +kernel
theorem d_mo_claim_10 : decode b_mo_claim 10 = .ok (.getfield 24, 3) := by decide +kernel
theorem d_mo_claim_13 : decode b_mo_claim 13 = .ok (.iload_n 3, 1) := by decide +kernel
theorem d_mo_claim_14 : decode b_mo_claim 14 = .ok (.baload, 1) := by decide +kernel
theorem d_mo_claim_15 : decode b_mo_claim 15 = .ok (.ifCond .eq 42, 3) := by decide +kernel
theorem d_mo_claim_18 : decode b_mo_claim 18 = .ok (.aload_n 0, 1) := by decide +kernel
theorem d_mo_claim_19 : decode b_mo_claim 19 = .ok (.iload_n 1, 1) := by decide +kernel
theorem d_mo_claim_20 : decode b_mo_claim 20 = .ok (.iload_n 3, 1) := by decide +kernel
theorem d_mo_claim_21 : decode b_mo_claim 21 = .ok (.invokevirtual 64, 3) := by decide +kernel
theorem d_mo_claim_24 : decode b_mo_claim 24 = .ok (.ifCond .eq 33, 3) := by decide +kernel
theorem d_mo_claim_27 : decode b_mo_claim 27 = .ok (.aload_n 0, 1) := by decide +kernel
theorem d_mo_claim_28 : decode b_mo_claim 28 = .ok (.getfield 20, 3) := by decide +kernel
theorem d_mo_claim_31 : decode b_mo_claim 31 = .ok (.iload_n 3, 1) := by decide +kernel
theorem d_mo_claim_32 : decode b_mo_claim 32 = .ok (.iaload, 1) := by decide +kernel
theorem d_mo_claim_33 : decode b_mo_claim 33 = .ok (.ifCond .le 24, 3) := by decide +kernel
theorem d_mo_claim_36 : decode b_mo_claim 36 = .ok (.iload_n 2, 1) := by decide +kernel
theorem d_mo_claim_37 : decode b_mo_claim 37 = .ok (.ifCond .eq 18, 3) := by decide +kernel
theorem d_mo_claim_40 : decode b_mo_claim 40 = .ok (.aload_n 0, 1) := by decide +kernel
theorem d_mo_claim_41 : decode b_mo_claim 41 = .ok (.getfield 20, 3) := by decide +kernel
theorem d_mo_claim_44 : decode b_mo_claim 44 = .ok (.iload_n 3, 1) := by decide +kernel
theorem d_mo_claim_45 : decode b_mo_claim 45 = .ok (.iaload, 1) := by decide +kernel
theorem d_mo_claim_46 : decode b_mo_claim 46 = .ok (.aload_n 0, 1) := by decide +kernel
theorem d_mo_claim_47 : decode b_mo_claim 47 = .ok (.getfield 20, 3) := by decide +kernel
theorem d_mo_claim_50 : decode b_mo_claim 50 = .ok (.iload_n 2, 1) := by decide +kernel
theorem d_mo_claim_51 : decode b_mo_claim 51 = .ok (.iaload, 1) := by decide +kernel
theorem d_mo_claim_52 : decode b_mo_claim 52 = .ok (.if_icmp .lt 5, 3) := by decide +kernel
theorem d_mo_claim_55 : decode b_mo_claim 55 = .ok (.iload_n 3, 1) := by decide +kernel
theorem d_mo_claim_56 : decode b_mo_claim 56 = .ok (.istore_n 2, 1) := by decide +kernel
theorem d_mo_claim_57 : decode b_mo_claim 57 = .ok (.iinc 3 (-1), 3) := by decide +kernel
theorem d_mo_claim_60 : decode b_mo_claim 60 = .ok (.goto (-55), 3) := by decide +kernel
theorem d_mo_claim_63 : decode b_mo_claim 63 = .ok (.iload_n 2, 1) := by decide +kernel
end
section
theorem d_mo_claim_64 : decode b_mo_claim 64 = .ok (.ifCond .le 19, 3) := by decide +kernel
theorem d_mo_claim_67 : decode b_mo_claim 67 = .ok (.aload_n 0, 1) := by decide +kernel
theorem d_mo_claim_68 : decode b_mo_claim 68 = .ok (.getfield 24, 3) := by decide +kernel
theorem d_mo_claim_71 : decode b_mo_claim 71 = .ok (.iload_n 2, 1) := by decide +kernel
theorem d_mo_claim_72 : decode b_mo_claim 72 = .ok (.iconst 0, 1) := by decide +kernel
theorem d_mo_claim_73 : decode b_mo_claim 73 = .ok (.bastore, 1) := by decide +kernel
theorem d_mo_claim_74 : decode b_mo_claim 74 = .ok (.aload_n 0, 1) := by decide +kernel
theorem d_mo_claim_75 : decode b_mo_claim 75 = .ok (.getfield 27, 3) := by decide +kernel
theorem d_mo_claim_78 : decode b_mo_claim 78 = .ok (.iload_n 2, 1) := by decide +kernel
theorem d_mo_claim_79 : decode b_mo_claim 79 = .ok (.iload_n 1, 1) := by decide +kernel
theorem d_mo_claim_80 : decode b_mo_claim 80 = .ok (.iconst 1, 1) := by decide +kernel
theorem d_mo_claim_81 : decode b_mo_claim 81 = .ok (.iadd, 1) := by decide +kernel
theorem d_mo_claim_82 : decode b_mo_claim 82 = .ok (.iastore, 1) := by decide +kernel
theorem d_mo_claim_83 : decode b_mo_claim 83 = .ok (.iload_n 2, 1) := by decide +kernel
theorem d_mo_claim_84 : decode b_mo_claim 84 = .ok (.ireturn, 1) := by decide +kernel
theorem d_mo_complete_0 : decode b_mo_complete 0 = .ok (.iload_n 2, 1) := by decide +kernel
theorem d_mo_complete_1 : decode b_mo_complete 1 = .ok (.iconst 1, 1) := by decide +kernel
theorem d_mo_complete_2 : decode b_mo_complete 2 = .ok (.if_icmp .lt 29, 3) := by decide +kernel
theorem d_mo_complete_5 : decode b_mo_complete 5 = .ok (.iload_n 2, 1) := by decide +kernel
theorem d_mo_complete_6 : decode b_mo_complete 6 = .ok (.bipush 15, 2) := by decide +kernel
theorem d_mo_complete_8 : decode b_mo_complete 8 = .ok (.if_icmp .gt 23, 3) := by decide +kernel
theorem d_mo_complete_11 : decode b_mo_complete 11 = .ok (.aload_n 0, 1) := by decide +kernel
theorem d_mo_complete_12 : decode b_mo_complete 12 = .ok (.iload_n 1, 1) := by decide +kernel
theorem d_mo_complete_13 : decode b_mo_complete 13 = .ok (.iload_n 2, 1) := by decide +kernel
theorem d_mo_complete_14 : decode b_mo_complete 14 = .ok (.invokevirtual 64, 3) := by decide +kernel
theorem d_mo_complete_17 : decode b_mo_complete 17 = .ok (.ifCond .eq 14, 3) := by decide +kernel
theorem d_mo_complete_20 : decode b_mo_complete 20 = .ok (.aload_n 0, 1) := by decide +kernel
theorem d_mo_complete_21 : decode b_mo_complete 21 = .ok (.getfield 27, 3) := by decide +kernel
theorem d_mo_complete_24 : decode b_mo_complete 24 = .ok (.iload_n 2, 1) := by decide +kernel
theorem d_mo_complete_25 : decode b_mo_complete 25 = .ok (.iconst 0, 1) := by decide +kernel
theorem d_mo_complete_26 : decode b_mo_complete 26 = .ok (.iastore, 1) := by decide +kernel
theorem d_mo_complete_27 : decode b_mo_complete 27 = .ok (.aload_n 0, 1) := by decide +kernel
theorem d_mo_complete_28 : decode b_mo_complete 28 = .ok (.invokevirtual 57, 3) := by decide +kernel
theorem d_mo_complete_31 : decode b_mo_complete 31 = .ok (.return_, 1) := by decide +kernel
theorem d_mo_calls_0 : decode b_mo_calls 0 = .ok (.iconst 0, 1) := by decide +kernel
theorem d_mo_calls_1 : decode b_mo_calls 1 = .ok (.istore_n 2, 1) := by decide +kernel
theorem d_mo_calls_2 : decode b_mo_calls 2 = .ok (.iconst 1, 1) := by decide +kernel
theorem d_mo_calls_3 : decode b_mo_calls 3 = .ok (.istore_n 3, 1) := by decide +kernel
theorem d_mo_calls_4 : decode b_mo_calls 4 = .ok (.iload_n 3, 1) := by decide +kernel
theorem d_mo_calls_5 : decode b_mo_calls 5 = .ok (.bipush 16, 2) := by decide +kernel
theorem d_mo_calls_7 : decode b_mo_calls 7 = .ok (.if_icmp .ge 52, 3) := by decide +kernel
theorem d_mo_calls_10 : decode b_mo_calls 10 = .ok (.iload_n 2, 1) := by decide +kernel
theorem d_mo_calls_11 : decode b_mo_calls 11 = .ok (.ifCond .ne 36, 3) := by decide +kernel
theorem d_mo_calls_14 : decode b_mo_calls 14 = .ok (.aload_n 0, 1) := by decide +kernel
theorem d_mo_calls_15 : decode b_mo_calls 15 = .ok (.getfield 24, 3) := by decide +kernel
theorem d_mo_calls_18 : decode b_mo_calls 18 = .ok (.iload_n 3, 1) := by decide +kernel
theorem d_mo_calls_19 : decode b_mo_calls 19 = .ok (.baload, 1) := by decide +kernel
theorem d_mo_calls_20 : decode b_mo_calls 20 = .ok (.ifCond .eq 31, 3) := by decide +kernel
theorem d_mo_calls_23 : decode b_mo_calls 23 = .ok (.aload_n 0, 1) := by decide +kernel
theorem d_mo_calls_24 : decode b_mo_calls 24 = .ok (.iload_n 1, 1) := by decide +kernel
theorem d_mo_calls_25 : decode b_mo_calls 25 = .ok (.iload_n 3, 1) := by decide +kernel
theorem d_mo_calls_26 : decode b_mo_calls 26 = .ok (.invokevirtual 64, 3) := by decide +kernel
theorem d_mo_calls_29 : decode b_mo_calls 29 = .ok (.ifCond .eq 22, 3) := by decide +kernel
theorem d_mo_calls_32 : decode b_mo_calls 32 = .ok (.aload_n 0, 1) := by decide +kernel
theorem d_mo_calls_33 : decode b_mo_calls 33 = .ok (.getfield 20, 3) := by decide +kernel
theorem d_mo_calls_36 : decode b_mo_calls 36 = .ok (.iload_n 3, 1) := by decide +kernel
theorem d_mo_calls_37 : decode b_mo_calls 37 = .ok (.iaload, 1) := by decide +kernel
theorem d_mo_calls_38 : decode b_mo_calls 38 = .ok (.aload_n 0, 1) := by decide +kernel
theorem d_mo_calls_39 : decode b_mo_calls 39 = .ok (.getfield 36, 3) := by decide +kernel
theorem d_mo_calls_42 : decode b_mo_calls 42 = .ok (.iload_n 1, 1) := by decide +kernel
theorem d_mo_calls_43 : decode b_mo_calls 43 = .ok (.iaload, 1) := by decide +kernel
theorem d_mo_calls_44 : decode b_mo_calls 44 = .ok (.if_icmp .le 7, 3) := by decide +kernel
theorem d_mo_calls_47 : decode b_mo_calls 47 = .ok (.iconst 1, 1) := by decide +kernel
theorem d_mo_calls_48 : decode b_mo_calls 48 = .ok (.goto 4, 3) := by decide +kernel
theorem d_mo_calls_51 : decode b_mo_calls 51 = .ok (.iconst 0, 1) := by decide +kernel
theorem d_mo_calls_52 : decode b_mo_calls 52 = .ok (.istore_n 2, 1) := by decide +kernel
theorem d_mo_calls_53 : decode b_mo_calls 53 = .ok (.iinc 3 1, 3) := by decide +kernel
theorem d_mo_calls_56 : decode b_mo_calls 56 = .ok (.goto (-52), 3) := by decide +kernel
theorem d_mo_calls_59 : decode b_mo_calls 59 = .ok (.iload_n 2, 1) := by decide +kernel
theorem d_mo_calls_60 : decode b_mo_calls 60 = .ok (.ireturn, 1) := by decide +kernel
theorem d_mo_ticks_0 : decode b_mo_ticks 0 = .ok (.aload_n 0, 1) := by decide +kernel
theorem d_mo_ticks_1 : decode b_mo_ticks 1 = .ok (.iload_n 1, 1) := by decide +kernel
theorem d_mo_ticks_2 : decode b_mo_ticks 2 = .ok (.ifCond .ge 7, 3) := by decide +kernel
theorem d_mo_ticks_5 : decode b_mo_ticks 5 = .ok (.iconst 1, 1) := by decide +kernel
theorem d_mo_ticks_6 : decode b_mo_ticks 6 = .ok (.goto 4, 3) := by decide +kernel
theorem d_mo_ticks_9 : decode b_mo_ticks 9 = .ok (.iconst 0, 1) := by decide +kernel
theorem d_mo_ticks_10 : decode b_mo_ticks 10 = .ok (.putfield 54, 3) := by decide +kernel
theorem d_mo_ticks_13 : decode b_mo_ticks 13 = .ok (.iload_n 1, 1) := by decide +kernel
theorem d_mo_ticks_14 : decode b_mo_ticks 14 = .ok (.ifCond .lt 14, 3) := by decide +kernel
theorem d_mo_ticks_17 : decode b_mo_ticks 17 = .ok (.aload_n 0, 1) := by decide +kernel
theorem d_mo_ticks_18 : decode b_mo_ticks 18 = .ok (.aload_n 0, 1) := by decide +kernel
theorem d_mo_ticks_19 : decode b_mo_ticks 19 = .ok (.getfield 68, 3) := by decide +kernel
theorem d_mo_ticks_22 : decode b_mo_ticks 22 = .ok (.iload_n 1, 1) := by decide +kernel
theorem d_mo_ticks_23 : decode b_mo_ticks 23 = .ok (.i2l, 1) := by decide +kernel
theorem d_mo_ticks_24 : decode b_mo_ticks 24 = .ok (.ladd, 1) := by decide +kernel
theorem d_mo_ticks_25 : decode b_mo_ticks 25 = .ok (.putfield 68, 3) := by decide +kernel
theorem d_mo_ticks_28 : decode b_mo_ticks 28 = .ok (.return_, 1) := by decide +kernel
theorem d_mo_wordAt_0 : decode b_mo_wordAt 0 = .ok (.iload_n 0, 1) := by decide +kernel
theorem d_mo_wordAt_1 : decode b_mo_wordAt 1 = .ok (.iconst 4, 1) := by decide +kernel
theorem d_mo_wordAt_2 : decode b_mo_wordAt 2 = .ok (.if_icmp .lt 11, 3) := by decide +kernel
theorem d_mo_wordAt_5 : decode b_mo_wordAt 5 = .ok (.iload_n 0, 1) := by decide +kernel
theorem d_mo_wordAt_6 : decode b_mo_wordAt 6 = .ok (.bipush 60, 2) := by decide +kernel
theorem d_mo_wordAt_8 : decode b_mo_wordAt 8 = .ok (.if_icmp .gt 5, 3) := by decide +kernel
theorem d_mo_wordAt_11 : decode b_mo_wordAt 11 = .ok (.iconst 1, 1) := by decide +kernel
theorem d_mo_wordAt_12 : decode b_mo_wordAt 12 = .ok (.ireturn, 1) := by decide +kernel
theorem d_mo_wordAt_13 : decode b_mo_wordAt 13 = .ok (.iload_n 0, 1) := by decide +kernel
theorem d_mo_wordAt_14 : decode b_mo_wordAt 14 = .ok (.bipush 64, 2) := by decide +kernel
theorem d_mo_wordAt_16 : decode b_mo_wordAt 16 = .ok (.if_icmp .ne 5, 3) := by decide +kernel
theorem d_mo_wordAt_19 : decode b_mo_wordAt 19 = .ok (.iconst 2, 1) := by decide +kernel
theorem d_mo_wordAt_20 : decode b_mo_wordAt 20 = .ok (.ireturn, 1) := by decide +kernel
theorem d_mo_wordAt_21 : decode b_mo_wordAt 21 = .ok (.iload_n 0, 1) := by decide +kernel
theorem d_mo_wordAt_22 : decode b_mo_wordAt 22 = .ok (.sipush 192, 3) := by decide +kernel
theorem d_mo_wordAt_25 : decode b_mo_wordAt 25 = .ok (.if_icmp .lt 21, 3) := by decide +kernel
theorem d_mo_wordAt_28 : decode b_mo_wordAt 28 = .ok (.iload_n 0, 1) := by decide +kernel
theorem d_mo_wordAt_29 : decode b_mo_wordAt 29 = .ok (.sipush 208, 3) := by decide +kernel
theorem d_mo_wordAt_32 : decode b_mo_wordAt 32 = .ok (.if_icmp .gt 14, 3) := by decide +kernel
theorem d_mo_wordAt_35 : decode b_mo_wordAt 35 = .ok (.bipush 6, 2) := by decide +kernel
theorem d_mo_wordAt_37 : decode b_mo_wordAt 37 = .ok (.iload_n 0, 1) := by decide +kernel
theorem d_mo_wordAt_38 : decode b_mo_wordAt 38 = .ok (.sipush 192, 3) := by decide +kernel
theorem d_mo_wordAt_41 : decode b_mo_wordAt 41 = .ok (.isub, 1) := by decide +kernel
theorem d_mo_wordAt_42 : decode b_mo_wordAt 42 = .ok (.iconst 4, 1) := by decide +kernel
theorem d_mo_wordAt_43 : decode b_mo_wordAt 43 = .ok (.idiv, 1) := by decide +kernel
theorem d_mo_wordAt_44 : decode b_mo_wordAt 44 = .ok (.iadd, 1) := by decide +kernel
theorem d_mo_wordAt_45 : decode b_mo_wordAt 45 = .ok (.ireturn, 1) := by decide +kernel
theorem d_mo_wordAt_46 : decode b_mo_wordAt 46 = .ok (.iload_n 0, 1) := by decide +kernel
theorem d_mo_wordAt_47 : decode b_mo_wordAt 47 = .ok (.sipush 144, 3) := by decide +kernel
theorem d_mo_wordAt_50 : decode b_mo_wordAt 50 = .ok (.if_icmp .lt 11, 3) := by decide +kernel
theorem d_mo_wordAt_53 : decode b_mo_wordAt 53 = .ok (.iload_n 0, 1) := by decide +kernel
theorem d_mo_wordAt_54 : decode b_mo_wordAt 54 = .ok (.sipush 144, 3) := by decide +kernel
theorem d_mo_wordAt_57 : decode b_mo_wordAt 57 = .ok (.isub, 1) := by decide +kernel
theorem d_mo_wordAt_58 : decode b_mo_wordAt 58 = .ok (.goto 8, 3) := by decide +kernel
theorem d_mo_wordAt_61 : decode b_mo_wordAt 61 = .ok (.iload_n 0, 1) := by decide +kernel
theorem d_mo_wordAt_62 : decode b_mo_wordAt 62 = .ok (.sipush 128, 3) := by decide +kernel
theorem d_mo_wordAt_65 : decode b_mo_wordAt 65 = .ok (.isub, 1) := by decide +kernel
theorem d_mo_wordAt_66 : decode b_mo_wordAt 66 = .ok (.istore_n 1, 1) := by decide +kernel
theorem d_mo_wordAt_67 : decode b_mo_wordAt 67 = .ok (.iload_n 1, 1) := by decide +kernel
theorem d_mo_wordAt_68 : decode b_mo_wordAt 68 = .ok (.ifCond .lt 17, 3) := by decide +kernel
theorem d_mo_wordAt_71 : decode b_mo_wordAt 71 = .ok (.iload_n 1, 1) := by decide +kernel
theorem d_mo_wordAt_72 : decode b_mo_wordAt 72 = .ok (.bipush 8, 2) := by decide +kernel
theorem d_mo_wordAt_74 : decode b_mo_wordAt 74 = .ok (.if_icmp .gt 11, 3) := by decide +kernel
theorem d_mo_wordAt_77 : decode b_mo_wordAt 77 = .ok (.iconst 3, 1) := by decide +kernel
theorem d_mo_wordAt_78 : decode b_mo_wordAt 78 = .ok (.iload_n 1, 1) := by decide +kernel
theorem d_mo_wordAt_79 : decode b_mo_wordAt 79 = .ok (.iconst 4, 1) := by decide +kernel
theorem d_mo_wordAt_80 : decode b_mo_wordAt 80 = .ok (.idiv, 1) := by decide +kernel
theorem d_mo_wordAt_81 : decode b_mo_wordAt 81 = .ok (.iadd, 1) := by decide +kernel
theorem d_mo_wordAt_82 : decode b_mo_wordAt 82 = .ok (.goto 4, 3) := by decide +kernel
theorem d_mo_wordAt_85 : decode b_mo_wordAt 85 = .ok (.iconst 0, 1) := by decide +kernel
theorem d_mo_wordAt_86 : decode b_mo_wordAt 86 = .ok (.ireturn, 1) := by decide +kernel
theorem d_mo_contextAt_0 : decode b_mo_contextAt 0 = .ok (.iload_n 0, 1) := by decide +kernel
theorem d_mo_contextAt_1 : decode b_mo_contextAt 1 = .ok (.sipush 144, 3) := by decide +kernel
theorem d_mo_contextAt_4 : decode b_mo_contextAt 4 = .ok (.if_icmp .lt 7, 3) := by decide +kernel
theorem d_mo_contextAt_7 : decode b_mo_contextAt 7 = .ok (.iconst 1, 1) := by decide +kernel
theorem d_mo_contextAt_8 : decode b_mo_contextAt 8 = .ok (.goto 4, 3) := by decide +kernel
theorem d_mo_contextAt_11 : decode b_mo_contextAt 11 = .ok (.iconst 0, 1) := by decide +kernel
theorem d_mo_contextAt_12 : decode b_mo_contextAt 12 = .ok (.ireturn, 1) := by decide +kernel
theorem d_mo_bar_0 : decode b_mo_bar 0 = .ok (.iload_n 0, 1) := by decide +kernel
theorem d_mo_bar_1 : decode b_mo_bar 1 = .ok (.iconst 4, 1) := by decide +kernel
theorem d_mo_bar_2 : decode b_mo_bar 2 = .ok (.irem, 1) := by decide +kernel
theorem d_mo_bar_3 : decode b_mo_bar 3 = .ok (.ifCond .eq 5, 3) := by decide +kernel
theorem d_mo_bar_6 : decode b_mo_bar 6 = .ok (.iconst 1, 1) := by decide +kernel
theorem d_mo_bar_7 : decode b_mo_bar 7 = .ok (.ireturn, 1) := by decide +kernel
theorem d_mo_bar_8 : decode b_mo_bar 8 = .ok (.iload_n 0, 1) := by decide +kernel
theorem d_mo_bar_9 : decode b_mo_bar 9 = .ok (.invokestatic 71, 3) := by decide +kernel
theorem d_mo_bar_12 : decode b_mo_bar 12 = .ok (.istore_n 2, 1) := by decide +kernel
theorem d_mo_bar_13 : decode b_mo_bar 13 = .ok (.iload_n 2, 1) := by decide +kernel
theorem d_mo_bar_14 : decode b_mo_bar 14 = .ok (.ifCond .ne 7, 3) := by decide +kernel
theorem d_mo_bar_17 : decode b_mo_bar 17 = .ok (.iconst 2, 1) := by decide +kernel
theorem d_mo_bar_18 : decode b_mo_bar 18 = .ok (.goto 17, 3) := by decide +kernel
theorem d_mo_bar_21 : decode b_mo_bar 21 = .ok (.iload_n 1, 1) := by decide +kernel
theorem d_mo_bar_22 : decode b_mo_bar 22 = .ok (.ifCond .eq 12, 3) := by decide +kernel
theorem d_mo_bar_25 : decode b_mo_bar 25 = .ok (.iload_n 2, 1) := by decide +kernel
theorem d_mo_bar_26 : decode b_mo_bar 26 = .ok (.iconst 2, 1) := by decide +kernel
theorem d_mo_bar_27 : decode b_mo_bar 27 = .ok (.if_icmp .ne 7, 3) := by decide +kernel
theorem d_mo_bar_30 : decode b_mo_bar 30 = .ok (.iconst 3, 1) := by decide +kernel
theorem d_mo_bar_31 : decode b_mo_bar 31 = .ok (.goto 4, 3) := by decide +kernel
theorem d_mo_bar_34 : decode b_mo_bar 34 = .ok (.iconst 0, 1) := by decide +kernel
theorem d_mo_bar_35 : decode b_mo_bar 35 = .ok (.ireturn, 1) := by decide +kernel
theorem d_mo_take_0 : decode b_mo_take 0 = .ok (.iload_n 1, 1) := by decide +kernel
theorem d_mo_take_1 : decode b_mo_take 1 = .ok (.invokestatic 75, 3) := by decide +kernel
theorem d_mo_take_4 : decode b_mo_take 4 = .ok (.istore_n 2, 1) := by decide +kernel
theorem d_mo_take_5 : decode b_mo_take 5 = .ok (.iload_n 1, 1) := by decide +kernel
theorem d_mo_take_6 : decode b_mo_take 6 = .ok (.invokestatic 71, 3) := by decide +kernel
theorem d_mo_take_9 : decode b_mo_take 9 = .ok (.tableswitch 111 1 9 #[51, 60, 65, 72, 79, 85, 90, 96, 105], 51) := by decide +kernel
theorem d_mo_take_60 : decode b_mo_take 60 = .ok (.aload_n 0, 1) := by decide +kernel
theorem d_mo_take_61 : decode b_mo_take 61 = .ok (.getfield 20, 3) := by decide +kernel
theorem d_mo_take_64 : decode b_mo_take 64 = .ok (.iload_n 1, 1) := by decide +kernel
theorem d_mo_take_65 : decode b_mo_take 65 = .ok (.iconst 4, 1) := by decide +kernel
theorem d_mo_take_66 : decode b_mo_take 66 = .ok (.idiv, 1) := by decide +kernel
theorem d_mo_take_67 : decode b_mo_take 67 = .ok (.iaload, 1) := by decide +kernel
theorem d_mo_take_68 : decode b_mo_take 68 = .ok (.ireturn, 1) := by decide +kernel
theorem d_mo_take_69 : decode b_mo_take 69 = .ok (.aload_n 0, 1) := by decide +kernel
theorem d_mo_take_70 : decode b_mo_take 70 = .ok (.invokevirtual 60, 3) := by decide +kernel
theorem d_mo_take_73 : decode b_mo_take 73 = .ok (.ireturn, 1) := by decide +kernel
theorem d_mo_take_74 : decode b_mo_take 74 = .ok (.aload_n 0, 1) := by decide +kernel
theorem d_mo_take_75 : decode b_mo_take 75 = .ok (.getfield 33, 3) := by decide +kernel
theorem d_mo_take_78 : decode b_mo_take 78 = .ok (.iload_n 2, 1) := by decide +kernel
theorem d_mo_take_79 : decode b_mo_take 79 = .ok (.iaload, 1) := by decide +kernel
theorem d_mo_take_80 : decode b_mo_take 80 = .ok (.ireturn, 1) := by decide +kernel
theorem d_mo_take_81 : decode b_mo_take 81 = .ok (.aload_n 0, 1) := by decide +kernel
theorem d_mo_take_82 : decode b_mo_take 82 = .ok (.getfield 36, 3) := by decide +kernel
theorem d_mo_take_85 : decode b_mo_take 85 = .ok (.iload_n 2, 1) := by decide +kernel
theorem d_mo_take_86 : decode b_mo_take 86 = .ok (.iaload, 1) := by decide +kernel
theorem d_mo_take_87 : decode b_mo_take 87 = .ok (.ireturn, 1) := by decide +kernel
theorem d_mo_take_88 : decode b_mo_take 88 = .ok (.aload_n 0, 1) := by decide +kernel
theorem d_mo_take_89 : decode b_mo_take 89 = .ok (.iload_n 2, 1) := by decide +kernel
theorem d_mo_take_90 : decode b_mo_take 90 = .ok (.invokevirtual 78, 3) := by decide +kernel
theorem d_mo_take_93 : decode b_mo_take 93 = .ok (.ireturn, 1) := by decide +kernel
theorem d_mo_take_94 : decode b_mo_take 94 = .ok (.aload_n 0, 1) := by decide +kernel
theorem d_mo_take_95 : decode b_mo_take 95 = .ok (.getfield 81, 3) := by decide +kernel
theorem d_mo_take_98 : decode b_mo_take 98 = .ok (.ireturn, 1) := by decide +kernel
theorem d_mo_take_99 : decode b_mo_take 99 = .ok (.aload_n 0, 1) := by decide +kernel
theorem d_mo_take_100 : decode b_mo_take 100 = .ok (.getfield 41, 3) := by decide +kernel
theorem d_mo_take_103 : decode b_mo_take 103 = .ok (.l2i, 1) := by decide +kernel
theorem d_mo_take_104 : decode b_mo_take 104 = .ok (.ireturn, 1) := by decide +kernel
theorem d_mo_take_105 : decode b_mo_take 105 = .ok (.aload_n 0, 1) := by decide +kernel
theorem d_mo_take_106 : decode b_mo_take 106 = .ok (.getfield 41, 3) := by decide +kernel
theorem d_mo_take_109 : decode b_mo_take 109 = .ok (.bipush 32, 2) := by decide +kernel
theorem d_mo_take_111 : decode b_mo_take 111 = .ok (.lshr, 1) := by decide +kernel
theorem d_mo_take_112 : decode b_mo_take 112 = .ok (.l2i, 1) := by decide +kernel
theorem d_mo_take_113 : decode b_mo_take 113 = .ok (.ireturn, 1) := by decide +kernel
theorem d_mo_take_114 : decode b_mo_take 114 = .ok (.aload_n 0, 1) := by decide +kernel
theorem d_mo_take_115 : decode b_mo_take 115 = .ok (.getfield 68, 3) := by decide +kernel
theorem d_mo_take_118 : decode b_mo_take 118 = .ok (.l2i, 1) := by decide +kernel
theorem d_mo_take_119 : decode b_mo_take 119 = .ok (.ireturn, 1) := by decide +kernel
theorem d_mo_take_120 : decode b_mo_take 120 = .ok (.aload_n 0, 1) := by decide +kernel
theorem d_mo_take_121 : decode b_mo_take 121 = .ok (.getfield 68, 3) := by decide +kernel
theorem d_mo_take_124 : decode b_mo_take 124 = .ok (.bipush 32, 2) := by decide +kernel
theorem d_mo_take_126 : decode b_mo_take 126 = .ok (.lshr, 1) := by decide +kernel
theorem d_mo_take_127 : decode b_mo_take 127 = .ok (.l2i, 1) := by decide +kernel
theorem d_mo_take_128 : decode b_mo_take 128 = .ok (.ireturn, 1) := by decide +kernel
theorem d_mo_half_0 : decode b_mo_half 0 = .ok (.iload_n 3, 1) := by decide +kernel
theorem d_mo_half_1 : decode b_mo_half 1 = .ok (.ifCond .eq 11, 3) := by decide +kernel
theorem d_mo_half_4 : decode b_mo_half 4 = .ok (.lload_n 0, 1) := by decide +kernel
theorem d_mo_half_5 : decode b_mo_half 5 = .ok (.ldc2_w 84, 3) := by decide +kernel
theorem d_mo_half_8 : decode b_mo_half 8 = .ok (.land, 1) := by decide +kernel
theorem d_mo_half_9 : decode b_mo_half 9 = .ok (.goto 9, 3) := by decide +kernel
theorem d_mo_half_12 : decode b_mo_half 12 = .ok (.iload_n 2, 1) := by decide +kernel
theorem d_mo_half_13 : decode b_mo_half 13 = .ok (.i2l, 1) := by decide +kernel
theorem d_mo_half_14 : decode b_mo_half 14 = .ok (.ldc2_w 84, 3) := by decide +kernel
theorem d_mo_half_17 : decode b_mo_half 17 = .ok (.land, 1) := by decide +kernel
theorem d_mo_half_18 : decode b_mo_half 18 = .ok (.lstore 4, 2) := by decide +kernel
theorem d_mo_half_20 : decode b_mo_half 20 = .ok (.iload_n 3, 1) := by decide +kernel
theorem d_mo_half_21 : decode b_mo_half 21 = .ok (.ifCond .eq 8, 3) := by decide +kernel
theorem d_mo_half_24 : decode b_mo_half 24 = .ok (.iload_n 2, 1) := by decide +kernel
theorem d_mo_half_25 : decode b_mo_half 25 = .ok (.i2l, 1) := by decide +kernel
theorem d_mo_half_26 : decode b_mo_half 26 = .ok (.goto 7, 3) := by decide +kernel
theorem d_mo_half_29 : decode b_mo_half 29 = .ok (.lload_n 0, 1) := by decide +kernel
theorem d_mo_half_30 : decode b_mo_half 30 = .ok (.bipush 32, 2) := by decide +kernel
theorem d_mo_half_32 : decode b_mo_half 32 = .ok (.lshr, 1) := by decide +kernel
theorem d_mo_half_33 : decode b_mo_half 33 = .ok (.lstore 6, 2) := by decide +kernel
theorem d_mo_half_35 : decode b_mo_half 35 = .ok (.lload 6, 2) := by decide +kernel
theorem d_mo_half_37 : decode b_mo_half 37 = .ok (.bipush 32, 2) := by decide +kernel
theorem d_mo_half_39 : decode b_mo_half 39 = .ok (.lshl, 1) := by decide +kernel
theorem d_mo_half_40 : decode b_mo_half 40 = .ok (.lload 4, 2) := by decide +kernel
theorem d_mo_half_42 : decode b_mo_half 42 = .ok (.lor, 1) := by decide +kernel
theorem d_mo_half_43 : decode b_mo_half 43 = .ok (.lreturn, 1) := by decide +kernel
theorem d_mo_put_0 : decode b_mo_put 0 = .ok (.iload_n 1, 1) := by decide +kernel
theorem d_mo_put_1 : decode b_mo_put 1 = .ok (.invokestatic 75, 3) := by decide +kernel
theorem d_mo_put_4 : decode b_mo_put 4 = .ok (.istore_n 3, 1) := by decide +kernel
theorem d_mo_put_5 : decode b_mo_put 5 = .ok (.iload_n 1, 1) := by decide +kernel
theorem d_mo_put_6 : decode b_mo_put 6 = .ok (.invokestatic 71, 3) := by decide +kernel
theorem d_mo_put_9 : decode b_mo_put 9 = .ok (.tableswitch 159 1 9 #[51, 159, 66, 79, 92, 101, 111, 127, 143], 51) := by decide +kernel
theorem d_mo_put_60 : decode b_mo_put 60 = .ok (.aload_n 0, 1) := by decide +kernel
theorem d_mo_put_61 : decode b_mo_put 61 = .ok (.getfield 20, 3) := by decide +kernel
theorem d_mo_put_64 : decode b_mo_put 64 = .ok (.iload_n 1, 1) := by decide +kernel
theorem d_mo_put_65 : decode b_mo_put 65 = .ok (.iconst 4, 1) := by decide +kernel
theorem d_mo_put_66 : decode b_mo_put 66 = .ok (.idiv, 1) := by decide +kernel
theorem d_mo_put_67 : decode b_mo_put 67 = .ok (.iload_n 2, 1) := by decide +kernel
theorem d_mo_put_68 : decode b_mo_put 68 = .ok (.bipush 7, 2) := by decide +kernel
theorem d_mo_put_70 : decode b_mo_put 70 = .ok (.iand, 1) := by decide +kernel
theorem d_mo_put_71 : decode b_mo_put 71 = .ok (.iastore, 1) := by decide +kernel
theorem d_mo_put_72 : decode b_mo_put 72 = .ok (.goto 109, 3) := by decide +kernel
theorem d_mo_put_75 : decode b_mo_put 75 = .ok (.aload_n 0, 1) := by decide +kernel
theorem d_mo_put_76 : decode b_mo_put 76 = .ok (.getfield 33, 3) := by decide +kernel
theorem d_mo_put_79 : decode b_mo_put 79 = .ok (.iload_n 3, 1) := by decide +kernel
theorem d_mo_put_80 : decode b_mo_put 80 = .ok (.iload_n 2, 1) := by decide +kernel
theorem d_mo_put_81 : decode b_mo_put 81 = .ok (.ldc 86, 2) := by decide +kernel
theorem d_mo_put_83 : decode b_mo_put 83 = .ok (.iand, 1) := by decide +kernel
theorem d_mo_put_84 : decode b_mo_put 84 = .ok (.iastore, 1) := by decide +kernel
theorem d_mo_put_85 : decode b_mo_put 85 = .ok (.goto 96, 3) := by decide +kernel
theorem d_mo_put_88 : decode b_mo_put 88 = .ok (.aload_n 0, 1) := by decide +kernel
theorem d_mo_put_89 : decode b_mo_put 89 = .ok (.getfield 36, 3) := by decide +kernel
theorem d_mo_put_92 : decode b_mo_put 92 = .ok (.iload_n 3, 1) := by decide +kernel
theorem d_mo_put_93 : decode b_mo_put 93 = .ok (.iload_n 2, 1) := by decide +kernel
theorem d_mo_put_94 : decode b_mo_put 94 = .ok (.bipush 7, 2) := by decide +kernel
theorem d_mo_put_96 : decode b_mo_put 96 = .ok (.iand, 1) := by decide +kernel
theorem d_mo_put_97 : decode b_mo_put 97 = .ok (.iastore, 1) := by decide +kernel
theorem d_mo_put_98 : decode b_mo_put 98 = .ok (.goto 83, 3) := by decide +kernel
theorem d_mo_put_101 : decode b_mo_put 101 = .ok (.aload_n 0, 1) := by decide +kernel
theorem d_mo_put_102 : decode b_mo_put 102 = .ok (.iload_n 3, 1) := by decide +kernel
theorem d_mo_put_103 : decode b_mo_put 103 = .ok (.iload_n 2, 1) := by decide +kernel
theorem d_mo_put_104 : decode b_mo_put 104 = .ok (.invokevirtual 87, 3) := by decide +kernel
theorem d_mo_put_107 : decode b_mo_put 107 = .ok (.goto 74, 3) := by decide +kernel
theorem d_mo_put_110 : decode b_mo_put 110 = .ok (.aload_n 0, 1) := by decide +kernel
theorem d_mo_put_111 : decode b_mo_put 111 = .ok (.iload_n 2, 1) := by decide +kernel
theorem d_mo_put_112 : decode b_mo_put 112 = .ok (.iconst 1, 1) := by decide +kernel
theorem d_mo_put_113 : decode b_mo_put 113 = .ok (.iand, 1) := by decide +kernel
theorem d_mo_put_114 : decode b_mo_put 114 = .ok (.putfield 81, 3) := by decide +kernel
theorem d_mo_put_117 : decode b_mo_put 117 = .ok (.goto 64, 3) := by decide +kernel
theorem d_mo_put_120 : decode b_mo_put 120 = .ok (.aload_n 0, 1) := by decide +kernel
theorem d_mo_put_121 : decode b_mo_put 121 = .ok (.aload_n 0, 1) := by decide +kernel
theorem d_mo_put_122 : decode b_mo_put 122 = .ok (.getfield 41, 3) := by decide +kernel
theorem d_mo_put_125 : decode b_mo_put 125 = .ok (.iload_n 2, 1) := by decide +kernel
theorem d_mo_put_126 : decode b_mo_put 126 = .ok (.iconst 0, 1) := by decide +kernel
theorem d_mo_put_127 : decode b_mo_put 127 = .ok (.invokestatic 91, 3) := by decide +kernel
theorem d_mo_put_130 : decode b_mo_put 130 = .ok (.putfield 41, 3) := by decide +kernel
theorem d_mo_put_133 : decode b_mo_put 133 = .ok (.goto 48, 3) := by decide +kernel
theorem d_mo_put_136 : decode b_mo_put 136 = .ok (.aload_n 0, 1) := by decide +kernel
theorem d_mo_put_137 : decode b_mo_put 137 = .ok (.aload_n 0, 1) := by decide +kernel
theorem d_mo_put_138 : decode b_mo_put 138 = .ok (.getfield 41, 3) := by decide +kernel
theorem d_mo_put_141 : decode b_mo_put 141 = .ok (.iload_n 2, 1) := by decide +kernel
theorem d_mo_put_142 : decode b_mo_put 142 = .ok (.iconst 1, 1) := by decide +kernel
theorem d_mo_put_143 : decode b_mo_put 143 = .ok (.invokestatic 91, 3) := by decide +kernel
theorem d_mo_put_146 : decode b_mo_put 146 = .ok (.putfield 41, 3) := by decide +kernel
theorem d_mo_put_149 : decode b_mo_put 149 = .ok (.goto 32, 3) := by decide +kernel
theorem d_mo_put_152 : decode b_mo_put 152 = .ok (.aload_n 0, 1) := by decide +kernel
theorem d_mo_put_153 : decode b_mo_put 153 = .ok (.aload_n 0, 1) := by decide +kernel
theorem d_mo_put_154 : decode b_mo_put 154 = .ok (.getfield 68, 3) := by decide +kernel
theorem d_mo_put_157 : decode b_mo_put 157 = .ok (.iload_n 2, 1) := by decide +kernel
theorem d_mo_put_158 : decode b_mo_put 158 = .ok (.iconst 0, 1) := by decide +kernel
theorem d_mo_put_159 : decode b_mo_put 159 = .ok (.invokestatic 91, 3) := by decide +kernel
theorem d_mo_put_162 : decode b_mo_put 162 = .ok (.putfield 68, 3) := by decide +kernel
theorem d_mo_put_165 : decode b_mo_put 165 = .ok (.goto 16, 3) := by decide +kernel
theorem d_mo_put_168 : decode b_mo_put 168 = .ok (.aload_n 0, 1) := by decide +kernel
theorem d_mo_put_169 : decode b_mo_put 169 = .ok (.aload_n 0, 1) := by decide +kernel
theorem d_mo_put_170 : decode b_mo_put 170 = .ok (.getfield 68, 3) := by decide +kernel
theorem d_mo_put_173 : decode b_mo_put 173 = .ok (.iload_n 2, 1) := by decide +kernel
theorem d_mo_put_174 : decode b_mo_put 174 = .ok (.iconst 1, 1) := by decide +kernel
theorem d_mo_put_175 : decode b_mo_put 175 = .ok (.invokestatic 91, 3) := by decide +kernel
theorem d_mo_put_178 : decode b_mo_put 178 = .ok (.putfield 68, 3) := by decide +kernel
theorem d_mo_put_181 : decode b_mo_put 181 = .ok (.return_, 1) := by decide +kernel
theorem d_mo_load_0 : decode b_mo_load 0 = .ok (.aload_n 0, 1) := by decide +kernel
theorem d_mo_load_1 : decode b_mo_load 1 = .ok (.iload_n 1, 1) := by decide +kernel
theorem d_mo_load_2 : decode b_mo_load 2 = .ok (.iconst 0, 1) := by decide +kernel
theorem d_mo_load_3 : decode b_mo_load 3 = .ok (.invokestatic 95, 3) := by decide +kernel
theorem d_mo_load_6 : decode b_mo_load 6 = .ok (.putfield 54, 3) := by decide +kernel
theorem d_mo_load_9 : decode b_mo_load 9 = .ok (.aload_n 0, 1) := by decide +kernel
theorem d_mo_load_10 : decode b_mo_load 10 = .ok (.getfield 54, 3) := by decide +kernel
theorem d_mo_load_13 : decode b_mo_load 13 = .ok (.ifCond .ne 11, 3) := by decide +kernel
theorem d_mo_load_16 : decode b_mo_load 16 = .ok (.aload_n 0, 1) := by decide +kernel
theorem d_mo_load_17 : decode b_mo_load 17 = .ok (.iload_n 1, 1) := by decide +kernel
theorem d_mo_load_18 : decode b_mo_load 18 = .ok (.invokevirtual 99, 3) := by decide +kernel
theorem d_mo_load_21 : decode b_mo_load 21 = .ok (.goto 4, 3) := by decide +kernel
theorem d_mo_load_24 : decode b_mo_load 24 = .ok (.iconst 0, 1) := by decide +kernel
theorem d_mo_load_25 : decode b_mo_load 25 = .ok (.ireturn, 1) := by decide +kernel
theorem d_mo_store_0 : decode b_mo_store 0 = .ok (.aload_n 0, 1) := by decide +kernel
theorem d_mo_store_1 : decode b_mo_store 1 = .ok (.iload_n 1, 1) := by decide +kernel
theorem d_mo_store_2 : decode b_mo_store 2 = .ok (.iconst 1, 1) := by decide +kernel
theorem d_mo_store_3 : decode b_mo_store 3 = .ok (.invokestatic 95, 3) := by decide +kernel
theorem d_mo_store_6 : decode b_mo_store 6 = .ok (.putfield 54, 3) := by decide +kernel
theorem d_mo_store_9 : decode b_mo_store 9 = .ok (.aload_n 0, 1) := by decide +kernel
theorem d_mo_store_10 : decode b_mo_store 10 = .ok (.getfield 54, 3) := by decide +kernel
theorem d_mo_store_13 : decode b_mo_store 13 = .ok (.ifCond .ne 9, 3) := by decide +kernel
theorem d_mo_store_16 : decode b_mo_store 16 = .ok (.aload_n 0, 1) := by decide +kernel
theorem d_mo_store_17 : decode b_mo_store 17 = .ok (.iload_n 1, 1) := by decide +kernel
theorem d_mo_store_18 : decode b_mo_store 18 = .ok (.iload_n 2, 1) := by decide +kernel
theorem d_mo_store_19 : decode b_mo_store 19 = .ok (.invokevirtual 102, 3) := by decide +kernel
theorem d_mo_store_22 : decode b_mo_store 22 = .ok (.return_, 1) := by decide +kernel
theorem d_mo_access_0 : decode b_mo_access 0 = .ok (.aload_n 0, 1) := by decide +kernel
theorem d_mo_access_1 : decode b_mo_access 1 = .ok (.iconst 0, 1) := by decide +kernel
theorem d_mo_access_2 : decode b_mo_access 2 = .ok (.putfield 54, 3) := by decide +kernel
theorem d_mo_access_5 : decode b_mo_access 5 = .ok (.iload_n 1, 1) := by decide +kernel
theorem d_mo_access_6 : decode b_mo_access 6 = .ok (.iload_n 2, 1) := by decide +kernel
theorem d_mo_access_7 : decode b_mo_access 7 = .ok (.invokestatic 95, 3) := by decide +kernel
theorem d_mo_access_10 : decode b_mo_access 10 = .ok (.istore 4, 2) := by decide +kernel
theorem d_mo_access_12 : decode b_mo_access 12 = .ok (.iload 4, 2) := by decide +kernel
theorem d_mo_access_14 : decode b_mo_access 14 = .ok (.ifCond .le 42, 3) := by decide +kernel
theorem d_mo_access_17 : decode b_mo_access 17 = .ok (.iload_n 2, 1) := by decide +kernel
theorem d_mo_access_18 : decode b_mo_access 18 = .ok (.ifCond .eq 8, 3) := by decide +kernel
theorem d_mo_access_21 : decode b_mo_access 21 = .ok (.bipush 6, 2) := by decide +kernel
theorem d_mo_access_23 : decode b_mo_access 23 = .ok (.goto 4, 3) := by decide +kernel
theorem d_mo_access_26 : decode b_mo_access 26 = .ok (.iconst 4, 1) := by decide +kernel
theorem d_mo_access_27 : decode b_mo_access 27 = .ok (.iload 4, 2) := by decide +kernel
theorem d_mo_access_29 : decode b_mo_access 29 = .ok (.iconst 1, 1) := by decide +kernel
theorem d_mo_access_30 : decode b_mo_access 30 = .ok (.if_icmp .ne 7, 3) := by decide +kernel
theorem d_mo_access_33 : decode b_mo_access 33 = .ok (.iconst 0, 1) := by decide +kernel
theorem d_mo_access_34 : decode b_mo_access 34 = .ok (.goto 4, 3) := by decide +kernel
theorem d_mo_access_37 : decode b_mo_access 37 = .ok (.iconst 1, 1) := by decide +kernel
theorem d_mo_access_38 : decode b_mo_access 38 = .ok (.iadd, 1) := by decide +kernel
theorem d_mo_access_39 : decode b_mo_access 39 = .ok (.istore 5, 2) := by decide +kernel
theorem d_mo_access_41 : decode b_mo_access 41 = .ok (.aload_n 0, 1) := by decide +kernel
theorem d_mo_access_42 : decode b_mo_access 42 = .ok (.iload 5, 2) := by decide +kernel
theorem d_mo_access_44 : decode b_mo_access 44 = .ok (.iconst 0, 1) := by decide +kernel
theorem d_mo_access_45 : decode b_mo_access 45 = .ok (.invokevirtual 105, 3) := by decide +kernel
theorem d_mo_access_48 : decode b_mo_access 48 = .ok (.ldc2_w 39, 3) := by decide +kernel
theorem d_mo_access_51 : decode b_mo_access 51 = .ok (.iload 5, 2) := by decide +kernel
theorem d_mo_access_53 : decode b_mo_access 53 = .ok (.i2l, 1) := by decide +kernel
theorem d_mo_access_54 : decode b_mo_access 54 = .ok (.lsub, 1) := by decide +kernel
theorem d_mo_access_55 : decode b_mo_access 55 = .ok (.lreturn, 1) := by decide +kernel
theorem d_mo_access_56 : decode b_mo_access 56 = .ok (.aload_n 0, 1) := by decide +kernel
theorem d_mo_access_57 : decode b_mo_access 57 = .ok (.aload_n 0, 1) := by decide +kernel
theorem d_mo_access_58 : decode b_mo_access 58 = .ok (.getfield 109, 3) := by decide +kernel
theorem d_mo_access_61 : decode b_mo_access 61 = .ok (.iconst 4, 1) := by decide +kernel
theorem d_mo_access_62 : decode b_mo_access 62 = .ok (.iadd, 1) := by decide +kernel
theorem d_mo_access_63 : decode b_mo_access 63 = .ok (.putfield 109, 3) := by decide +kernel
theorem d_mo_access_66 : decode b_mo_access 66 = .ok (.iload_n 2, 1) := by decide +kernel
theorem d_mo_access_67 : decode b_mo_access 67 = .ok (.ifCond .eq 11, 3) := by decide +kernel
theorem d_mo_access_70 : decode b_mo_access 70 = .ok (.aload_n 0, 1) := by decide +kernel
theorem d_mo_access_71 : decode b_mo_access 71 = .ok (.iload_n 1, 1) := by decide +kernel
theorem d_mo_access_72 : decode b_mo_access 72 = .ok (.iload_n 3, 1) := by decide +kernel
theorem d_mo_access_73 : decode b_mo_access 73 = .ok (.invokevirtual 102, 3) := by decide +kernel
theorem d_mo_access_76 : decode b_mo_access 76 = .ok (.lconst 0, 1) := by decide +kernel
theorem d_mo_access_77 : decode b_mo_access 77 = .ok (.lreturn, 1) := by decide +kernel
theorem d_mo_access_78 : decode b_mo_access 78 = .ok (.aload_n 0, 1) := by decide +kernel
theorem d_mo_access_79 : decode b_mo_access 79 = .ok (.iload_n 1, 1) := by decide +kernel
theorem d_mo_access_80 : decode b_mo_access 80 = .ok (.invokevirtual 99, 3) := by decide +kernel
theorem d_mo_access_83 : decode b_mo_access 83 = .ok (.istore 5, 2) := by decide +kernel
theorem d_mo_access_85 : decode b_mo_access 85 = .ok (.iload 5, 2) := by decide +kernel
theorem d_mo_access_87 : decode b_mo_access 87 = .ok (.i2l, 1) := by decide +kernel
theorem d_mo_access_88 : decode b_mo_access 88 = .ok (.ldc2_w 84, 3) := by decide +kernel
theorem d_mo_access_91 : decode b_mo_access 91 = .ok (.land, 1) := by decide +kernel
theorem d_mo_access_92 : decode b_mo_access 92 = .ok (.lreturn, 1) := by decide +kernel
theorem d_mo_late_0 : decode b_mo_late 0 = .ok (.aload_n 0, 1) := by decide +kernel
theorem d_mo_late_1 : decode b_mo_late 1 = .ok (.getfield 68, 3) := by decide +kernel
theorem d_mo_late_4 : decode b_mo_late 4 = .ok (.ldc2_w 112, 3) := by decide +kernel
theorem d_mo_late_7 : decode b_mo_late 7 = .ok (.lxor, 1) := by decide +kernel
theorem d_mo_late_8 : decode b_mo_late 8 = .ok (.aload_n 0, 1) := by decide +kernel
theorem d_mo_late_9 : decode b_mo_late 9 = .ok (.getfield 41, 3) := by decide +kernel
theorem d_mo_late_12 : decode b_mo_late 12 = .ok (.ldc2_w 112, 3) := by decide +kernel
theorem d_mo_late_15 : decode b_mo_late 15 = .ok (.lxor, 1) := by decide +kernel
theorem d_mo_late_16 : decode b_mo_late 16 = .ok (.lcmp, 1) := by decide +kernel
theorem d_mo_late_17 : decode b_mo_late 17 = .ok (.ifCond .lt 7, 3) := by decide +kernel
theorem d_mo_late_20 : decode b_mo_late 20 = .ok (.iconst 1, 1) := by decide +kernel
theorem d_mo_late_21 : decode b_mo_late 21 = .ok (.goto 4, 3) := by decide +kernel
theorem d_mo_late_24 : decode b_mo_late 24 = .ok (.iconst 0, 1) := by decide +kernel
theorem d_mo_late_25 : decode b_mo_late 25 = .ok (.ireturn, 1) := by decide +kernel
theorem d_mo_interrupts_0 : decode b_mo_interrupts 0 = .ok (.aload_n 0, 1) := by decide +kernel
theorem d_mo_interrupts_1 : decode b_mo_interrupts 1 = .ok (.getfield 114, 3) := by decide +kernel
theorem d_mo_interrupts_4 : decode b_mo_interrupts 4 = .ok (.istore_n 1, 1) := by decide +kernel
theorem d_mo_interrupts_5 : decode b_mo_interrupts 5 = .ok (.aload_n 0, 1) := by decide +kernel
theorem d_mo_interrupts_6 : decode b_mo_interrupts 6 = .ok (.getfield 81, 3) := by decide +kernel
theorem d_mo_interrupts_9 : decode b_mo_interrupts 9 = .ok (.iconst 1, 1) := by decide +kernel
theorem d_mo_interrupts_10 : decode b_mo_interrupts 10 = .ok (.if_icmp .ne 10, 3) := by decide +kernel
theorem d_mo_interrupts_13 : decode b_mo_interrupts 13 = .ok (.iload_n 1, 1) := by decide +kernel
theorem d_mo_interrupts_14 : decode b_mo_interrupts 14 = .ok (.bipush 8, 2) := by decide +kernel
theorem d_mo_interrupts_16 : decode b_mo_interrupts 16 = .ok (.ior, 1) := by decide +kernel
theorem d_mo_interrupts_17 : decode b_mo_interrupts 17 = .ok (.goto 4, 3) := by decide +kernel
theorem d_mo_interrupts_20 : decode b_mo_interrupts 20 = .ok (.iload_n 1, 1) := by decide +kernel
theorem d_mo_interrupts_21 : decode b_mo_interrupts 21 = .ok (.istore_n 1, 1) := by decide +kernel
theorem d_mo_interrupts_22 : decode b_mo_interrupts 22 = .ok (.aload_n 0, 1) := by decide +kernel
theorem d_mo_interrupts_23 : decode b_mo_interrupts 23 = .ok (.invokevirtual 117, 3) := by decide +kernel
theorem d_mo_interrupts_26 : decode b_mo_interrupts 26 = .ok (.ifCond .eq 11, 3) := by decide +kernel
theorem d_mo_interrupts_29 : decode b_mo_interrupts 29 = .ok (.iload_n 1, 1) := by decide +kernel
theorem d_mo_interrupts_30 : decode b_mo_interrupts 30 = .ok (.sipush 128, 3) := by decide +kernel
theorem d_mo_interrupts_33 : decode b_mo_interrupts 33 = .ok (.ior, 1) := by decide +kernel
theorem d_mo_interrupts_34 : decode b_mo_interrupts 34 = .ok (.goto 4, 3) := by decide +kernel
theorem d_mo_interrupts_37 : decode b_mo_interrupts 37 = .ok (.iload_n 1, 1) := by decide +kernel
theorem d_mo_interrupts_38 : decode b_mo_interrupts 38 = .ok (.istore_n 1, 1) := by decide +kernel
theorem d_mo_interrupts_39 : decode b_mo_interrupts 39 = .ok (.aload_n 0, 1) := by decide +kernel
theorem d_mo_interrupts_40 : decode b_mo_interrupts 40 = .ok (.iconst 0, 1) := by decide +kernel
theorem d_mo_interrupts_41 : decode b_mo_interrupts 41 = .ok (.invokevirtual 121, 3) := by decide +kernel
theorem d_mo_interrupts_44 : decode b_mo_interrupts 44 = .ok (.ifCond .eq 11, 3) := by decide +kernel
theorem d_mo_interrupts_47 : decode b_mo_interrupts 47 = .ok (.iload_n 1, 1) := by decide +kernel
theorem d_mo_interrupts_48 : decode b_mo_interrupts 48 = .ok (.sipush 2048, 3) := by decide +kernel
theorem d_mo_interrupts_51 : decode b_mo_interrupts 51 = .ok (.ior, 1) := by decide +kernel
theorem d_mo_interrupts_52 : decode b_mo_interrupts 52 = .ok (.goto 4, 3) := by decide +kernel
theorem d_mo_interrupts_55 : decode b_mo_interrupts 55 = .ok (.iload_n 1, 1) := by decide +kernel
theorem d_mo_interrupts_56 : decode b_mo_interrupts 56 = .ok (.istore_n 1, 1) := by decide +kernel
theorem d_mo_interrupts_57 : decode b_mo_interrupts 57 = .ok (.aload_n 0, 1) := by decide +kernel
theorem d_mo_interrupts_58 : decode b_mo_interrupts 58 = .ok (.iconst 1, 1) := by decide +kernel
theorem d_mo_interrupts_59 : decode b_mo_interrupts 59 = .ok (.invokevirtual 121, 3) := by decide +kernel
theorem d_mo_interrupts_62 : decode b_mo_interrupts 62 = .ok (.ifCond .eq 11, 3) := by decide +kernel
theorem d_mo_interrupts_65 : decode b_mo_interrupts 65 = .ok (.iload_n 1, 1) := by decide +kernel
theorem d_mo_interrupts_66 : decode b_mo_interrupts 66 = .ok (.sipush 512, 3) := by decide +kernel
theorem d_mo_interrupts_69 : decode b_mo_interrupts 69 = .ok (.ior, 1) := by decide +kernel
theorem d_mo_interrupts_70 : decode b_mo_interrupts 70 = .ok (.goto 4, 3) := by decide +kernel
theorem d_mo_interrupts_73 : decode b_mo_interrupts 73 = .ok (.iload_n 1, 1) := by decide +kernel
theorem d_mo_interrupts_74 : decode b_mo_interrupts 74 = .ok (.ireturn, 1) := by decide +kernel
theorem d_mo_isRegister_0 : decode b_mo_isRegister 0 = .ok (.iload_n 0, 1) := by decide +kernel
theorem d_mo_isRegister_1 : decode b_mo_isRegister 1 = .ok (.sipush 768, 3) := by decide +kernel
theorem d_mo_isRegister_4 : decode b_mo_isRegister 4 = .ok (.if_icmp .eq 80, 3) := by decide +kernel
theorem d_mo_isRegister_7 : decode b_mo_isRegister 7 = .ok (.iload_n 0, 1) := by decide +kernel
theorem d_mo_isRegister_8 : decode b_mo_isRegister 8 = .ok (.sipush 770, 3) := by decide +kernel
theorem d_mo_isRegister_11 : decode b_mo_isRegister 11 = .ok (.if_icmp .lt 10, 3) := by decide +kernel
theorem d_mo_isRegister_14 : decode b_mo_isRegister 14 = .ok (.iload_n 0, 1) := by decide +kernel
theorem d_mo_isRegister_15 : decode b_mo_isRegister 15 = .ok (.sipush 773, 3) := by decide +kernel
theorem d_mo_isRegister_18 : decode b_mo_isRegister 18 = .ok (.if_icmp .le 66, 3) := by decide +kernel
theorem d_mo_isRegister_21 : decode b_mo_isRegister 21 = .ok (.iload_n 0, 1) := by decide +kernel
theorem d_mo_isRegister_22 : decode b_mo_isRegister 22 = .ok (.sipush 833, 3) := by decide +kernel
theorem d_mo_isRegister_25 : decode b_mo_isRegister 25 = .ok (.if_icmp .eq 59, 3) := by decide +kernel
theorem d_mo_isRegister_28 : decode b_mo_isRegister 28 = .ok (.iload_n 0, 1) := by decide +kernel
theorem d_mo_isRegister_29 : decode b_mo_isRegister 29 = .ok (.sipush 834, 3) := by decide +kernel
theorem d_mo_isRegister_32 : decode b_mo_isRegister 32 = .ok (.if_icmp .eq 52, 3) := by decide +kernel
theorem d_mo_isRegister_35 : decode b_mo_isRegister 35 = .ok (.iload_n 0, 1) := by decide +kernel
theorem d_mo_isRegister_36 : decode b_mo_isRegister 36 = .ok (.sipush 836, 3) := by decide +kernel
theorem d_mo_isRegister_39 : decode b_mo_isRegister 39 = .ok (.if_icmp .eq 45, 3) := by decide +kernel
theorem d_mo_isRegister_42 : decode b_mo_isRegister 42 = .ok (.iload_n 0, 1) := by decide +kernel
theorem d_mo_isRegister_43 : decode b_mo_isRegister 43 = .ok (.sipush 256, 3) := by decide +kernel
theorem d_mo_isRegister_46 : decode b_mo_isRegister 46 = .ok (.if_icmp .eq 38, 3) := by decide +kernel
theorem d_mo_isRegister_49 : decode b_mo_isRegister 49 = .ok (.iload_n 0, 1) := by decide +kernel
theorem d_mo_isRegister_50 : decode b_mo_isRegister 50 = .ok (.sipush 260, 3) := by decide +kernel
theorem d_mo_isRegister_53 : decode b_mo_isRegister 53 = .ok (.if_icmp .eq 31, 3) := by decide +kernel
theorem d_mo_isRegister_56 : decode b_mo_isRegister 56 = .ok (.iload_n 0, 1) := by decide +kernel
theorem d_mo_isRegister_57 : decode b_mo_isRegister 57 = .ok (.sipush 261, 3) := by decide +kernel
theorem d_mo_isRegister_60 : decode b_mo_isRegister 60 = .ok (.if_icmp .eq 24, 3) := by decide +kernel
theorem d_mo_isRegister_63 : decode b_mo_isRegister 63 = .ok (.iload_n 0, 1) := by decide +kernel
theorem d_mo_isRegister_64 : decode b_mo_isRegister 64 = .ok (.sipush 321, 3) := by decide +kernel
theorem d_mo_isRegister_67 : decode b_mo_isRegister 67 = .ok (.if_icmp .eq 17, 3) := by decide +kernel
theorem d_mo_isRegister_70 : decode b_mo_isRegister 70 = .ok (.iload_n 0, 1) := by decide +kernel
theorem d_mo_isRegister_71 : decode b_mo_isRegister 71 = .ok (.sipush 322, 3) := by decide +kernel
theorem d_mo_isRegister_74 : decode b_mo_isRegister 74 = .ok (.if_icmp .eq 10, 3) := by decide +kernel
theorem d_mo_isRegister_77 : decode b_mo_isRegister 77 = .ok (.iload_n 0, 1) := by decide +kernel
theorem d_mo_isRegister_78 : decode b_mo_isRegister 78 = .ok (.sipush 324, 3) := by decide +kernel
theorem d_mo_isRegister_81 : decode b_mo_isRegister 81 = .ok (.if_icmp .ne 7, 3) := by decide +kernel
theorem d_mo_isRegister_84 : decode b_mo_isRegister 84 = .ok (.iconst 1, 1) := by decide +kernel
theorem d_mo_isRegister_85 : decode b_mo_isRegister 85 = .ok (.goto 4, 3) := by decide +kernel
theorem d_mo_isRegister_88 : decode b_mo_isRegister 88 = .ok (.iconst 0, 1) := by decide +kernel
theorem d_mo_isRegister_89 : decode b_mo_isRegister 89 = .ok (.ireturn, 1) := by decide +kernel
theorem d_mo_barRegister_0 : decode b_mo_barRegister 0 = .ok (.iload_n 1, 1) := by decide +kernel
theorem d_mo_barRegister_1 : decode b_mo_barRegister 1 = .ok (.invokestatic 125, 3) := by decide +kernel
theorem d_mo_barRegister_4 : decode b_mo_barRegister 4 = .ok (.ifCond .ne 5, 3) := by decide +kernel
theorem d_mo_barRegister_7 : decode b_mo_barRegister 7 = .ok (.iconst 1, 1) := by decide +kernel
theorem d_mo_barRegister_8 : decode b_mo_barRegister 8 = .ok (.ireturn, 1) := by decide +kernel
theorem d_mo_barRegister_9 : decode b_mo_barRegister 9 = .ok (.aload_n 0, 1) := by decide +kernel
theorem d_mo_barRegister_10 : decode b_mo_barRegister 10 = .ok (.getfield 7, 3) := by decide +kernel
theorem d_mo_barRegister_13 : decode b_mo_barRegister 13 = .ok (.ifCond .eq 18, 3) := by decide +kernel
theorem d_mo_barRegister_16 : decode b_mo_barRegister 16 = .ok (.iload_n 1, 1) := by decide +kernel
theorem d_mo_barRegister_17 : decode b_mo_barRegister 17 = .ok (.sipush 768, 3) := by decide +kernel
theorem d_mo_barRegister_20 : decode b_mo_barRegister 20 = .ok (.if_icmp .lt 15, 3) := by decide +kernel
theorem d_mo_barRegister_23 : decode b_mo_barRegister 23 = .ok (.aload_n 0, 1) := by decide +kernel
theorem d_mo_barRegister_24 : decode b_mo_barRegister 24 = .ok (.getfield 7, 3) := by decide +kernel
theorem d_mo_barRegister_27 : decode b_mo_barRegister 27 = .ok (.iconst 3, 1) := by decide +kernel
theorem d_mo_barRegister_28 : decode b_mo_barRegister 28 = .ok (.if_icmp .ge 7, 3) := by decide +kernel
theorem d_mo_barRegister_31 : decode b_mo_barRegister 31 = .ok (.iconst 2, 1) := by decide +kernel
theorem d_mo_barRegister_32 : decode b_mo_barRegister 32 = .ok (.goto 4, 3) := by decide +kernel
theorem d_mo_barRegister_35 : decode b_mo_barRegister 35 = .ok (.iconst 0, 1) := by decide +kernel
theorem d_mo_barRegister_36 : decode b_mo_barRegister 36 = .ok (.ireturn, 1) := by decide +kernel
theorem d_mo_read_0 : decode b_mo_read 0 = .ok (.aload_n 0, 1) := by decide +kernel
theorem d_mo_read_1 : decode b_mo_read 1 = .ok (.aload_n 0, 1) := by decide +kernel
theorem d_mo_read_2 : decode b_mo_read 2 = .ok (.iload_n 1, 1) := by decide +kernel
theorem d_mo_read_3 : decode b_mo_read 3 = .ok (.invokevirtual 128, 3) := by decide +kernel
theorem d_mo_read_6 : decode b_mo_read 6 = .ok (.putfield 54, 3) := by decide +kernel
theorem d_mo_read_9 : decode b_mo_read 9 = .ok (.aload_n 0, 1) := by decide +kernel
theorem d_mo_read_10 : decode b_mo_read 10 = .ok (.getfield 54, 3) := by decide +kernel
theorem d_mo_read_13 : decode b_mo_read 13 = .ok (.ifCond .le 5, 3) := by decide +kernel
theorem d_mo_read_16 : decode b_mo_read 16 = .ok (.iconst 0, 1) := by decide +kernel
theorem d_mo_read_17 : decode b_mo_read 17 = .ok (.ireturn, 1) := by decide +kernel
theorem d_mo_read_18 : decode b_mo_read 18 = .ok (.iload_n 1, 1) := by decide +kernel
theorem d_mo_read_19 : decode b_mo_read 19 = .ok (.lookupswitch 195 #[(256, 130), (260, 139), (261, 159), (321, 177), (324, 149), (768, 105), (770, 110), (771, 115), (772, 120), (773, 159), (833, 177), (836, 125)], 105) := by decide +kernel
theorem d_mo_read_124 : decode b_mo_read 124 = .ok (.aload_n 0, 1) := by decide +kernel
theorem d_mo_read_125 : decode b_mo_read 125 = .ok (.getfield 131, 3) := by decide +kernel
theorem d_mo_read_128 : decode b_mo_read 128 = .ok (.ireturn, 1) := by decide +kernel
theorem d_mo_read_129 : decode b_mo_read 129 = .ok (.aload_n 0, 1) := by decide +kernel
theorem d_mo_read_130 : decode b_mo_read 130 = .ok (.getfield 134, 3) := by decide +kernel
theorem d_mo_read_133 : decode b_mo_read 133 = .ok (.ireturn, 1) := by decide +kernel
theorem d_mo_read_134 : decode b_mo_read 134 = .ok (.aload_n 0, 1) := by decide +kernel
theorem d_mo_read_135 : decode b_mo_read 135 = .ok (.getfield 137, 3) := by decide +kernel
theorem d_mo_read_138 : decode b_mo_read 138 = .ok (.ireturn, 1) := by decide +kernel
theorem d_mo_read_139 : decode b_mo_read 139 = .ok (.aload_n 0, 1) := by decide +kernel
theorem d_mo_read_140 : decode b_mo_read 140 = .ok (.getfield 140, 3) := by decide +kernel
theorem d_mo_read_143 : decode b_mo_read 143 = .ok (.ireturn, 1) := by decide +kernel
theorem d_mo_read_144 : decode b_mo_read 144 = .ok (.aload_n 0, 1) := by decide +kernel
theorem d_mo_read_145 : decode b_mo_read 145 = .ok (.invokevirtual 143, 3) := by decide +kernel
theorem d_mo_read_148 : decode b_mo_read 148 = .ok (.ireturn, 1) := by decide +kernel
theorem d_mo_read_149 : decode b_mo_read 149 = .ok (.aload_n 0, 1) := by decide +kernel
theorem d_mo_read_150 : decode b_mo_read 150 = .ok (.getfield 131, 3) := by decide +kernel
theorem d_mo_read_153 : decode b_mo_read 153 = .ok (.sipush 290, 3) := by decide +kernel
theorem d_mo_read_156 : decode b_mo_read 156 = .ok (.iand, 1) := by decide +kernel
theorem d_mo_read_157 : decode b_mo_read 157 = .ok (.ireturn, 1) := by decide +kernel
theorem d_mo_read_158 : decode b_mo_read 158 = .ok (.aload_n 0, 1) := by decide +kernel
theorem d_mo_read_159 : decode b_mo_read 159 = .ok (.getfield 140, 3) := by decide +kernel
theorem d_mo_read_162 : decode b_mo_read 162 = .ok (.aload_n 0, 1) := by decide +kernel
theorem d_mo_read_163 : decode b_mo_read 163 = .ok (.getfield 137, 3) := by decide +kernel
theorem d_mo_read_166 : decode b_mo_read 166 = .ok (.iand, 1) := by decide +kernel
theorem d_mo_read_167 : decode b_mo_read 167 = .ok (.ireturn, 1) := by decide +kernel
theorem d_mo_read_168 : decode b_mo_read 168 = .ok (.aload_n 0, 1) := by decide +kernel
theorem d_mo_read_169 : decode b_mo_read 169 = .ok (.invokevirtual 143, 3) := by decide +kernel
theorem d_mo_read_172 : decode b_mo_read 172 = .ok (.aload_n 0, 1) := by decide +kernel
theorem d_mo_read_173 : decode b_mo_read 173 = .ok (.getfield 137, 3) := by decide +kernel
theorem d_mo_read_176 : decode b_mo_read 176 = .ok (.iand, 1) := by decide +kernel
theorem d_mo_read_177 : decode b_mo_read 177 = .ok (.ireturn, 1) := by decide +kernel
theorem d_mo_read_178 : decode b_mo_read 178 = .ok (.aload_n 0, 1) := by decide +kernel
theorem d_mo_read_179 : decode b_mo_read 179 = .ok (.getfield 45, 3) := by decide +kernel
theorem d_mo_read_182 : decode b_mo_read 182 = .ok (.iload_n 1, 1) := by decide +kernel
theorem d_mo_read_183 : decode b_mo_read 183 = .ok (.sipush 261, 3) := by decide +kernel
theorem d_mo_read_186 : decode b_mo_read 186 = .ok (.if_icmp .ne 7, 3) := by decide +kernel
theorem d_mo_read_189 : decode b_mo_read 189 = .ok (.iconst 1, 1) := by decide +kernel
theorem d_mo_read_190 : decode b_mo_read 190 = .ok (.goto 4, 3) := by decide +kernel
theorem d_mo_read_193 : decode b_mo_read 193 = .ok (.iconst 0, 1) := by decide +kernel
theorem d_mo_read_194 : decode b_mo_read 194 = .ok (.iaload, 1) := by decide +kernel
theorem d_mo_read_195 : decode b_mo_read 195 = .ok (.ireturn, 1) := by decide +kernel
theorem d_mo_read_196 : decode b_mo_read 196 = .ok (.aload_n 0, 1) := by decide +kernel
theorem d_mo_read_197 : decode b_mo_read 197 = .ok (.getfield 48, 3) := by decide +kernel
theorem d_mo_read_200 : decode b_mo_read 200 = .ok (.iload_n 1, 1) := by decide +kernel
theorem d_mo_read_201 : decode b_mo_read 201 = .ok (.sipush 321, 3) := by decide +kernel
theorem d_mo_read_204 : decode b_mo_read 204 = .ok (.if_icmp .ne 7, 3) := by decide +kernel
theorem d_mo_read_207 : decode b_mo_read 207 = .ok (.iconst 1, 1) := by decide +kernel
theorem d_mo_read_208 : decode b_mo_read 208 = .ok (.goto 4, 3) := by decide +kernel
theorem d_mo_read_211 : decode b_mo_read 211 = .ok (.iconst 0, 1) := by decide +kernel
theorem d_mo_read_212 : decode b_mo_read 212 = .ok (.iaload, 1) := by decide +kernel
theorem d_mo_read_213 : decode b_mo_read 213 = .ok (.ireturn, 1) := by decide +kernel
theorem d_mo_read_214 : decode b_mo_read 214 = .ok (.aload_n 0, 1) := by decide +kernel
theorem d_mo_read_215 : decode b_mo_read 215 = .ok (.getfield 51, 3) := by decide +kernel
theorem d_mo_read_218 : decode b_mo_read 218 = .ok (.iload_n 1, 1) := by decide +kernel
theorem d_mo_read_219 : decode b_mo_read 219 = .ok (.sipush 322, 3) := by decide +kernel
theorem d_mo_read_222 : decode b_mo_read 222 = .ok (.if_icmp .ne 7, 3) := by decide +kernel
theorem d_mo_read_225 : decode b_mo_read 225 = .ok (.iconst 1, 1) := by decide +kernel
theorem d_mo_read_226 : decode b_mo_read 226 = .ok (.goto 4, 3) := by decide +kernel
theorem d_mo_read_229 : decode b_mo_read 229 = .ok (.iconst 0, 1) := by decide +kernel
theorem d_mo_read_230 : decode b_mo_read 230 = .ok (.iaload, 1) := by decide +kernel
theorem d_mo_read_231 : decode b_mo_read 231 = .ok (.ireturn, 1) := by decide +kernel
theorem d_mo_mixed_0 : decode b_mo_mixed 0 = .ok (.iload_n 0, 1) := by decide +kernel
theorem d_mo_mixed_1 : decode b_mo_mixed 1 = .ok (.iload_n 2, 1) := by decide +kernel
theorem d_mo_mixed_2 : decode b_mo_mixed 2 = .ok (.iconst (-1), 1) := by decide +kernel
theorem d_mo_mixed_3 : decode b_mo_mixed 3 = .ok (.ixor, 1) := by decide +kernel
theorem d_mo_mixed_4 : decode b_mo_mixed 4 = .ok (.iand, 1) := by decide +kernel
theorem d_mo_mixed_5 : decode b_mo_mixed 5 = .ok (.iload_n 1, 1) := by decide +kernel
theorem d_mo_mixed_6 : decode b_mo_mixed 6 = .ok (.iload_n 2, 1) := by decide +kernel
theorem d_mo_mixed_7 : decode b_mo_mixed 7 = .ok (.iand, 1) := by decide +kernel
theorem d_mo_mixed_8 : decode b_mo_mixed 8 = .ok (.ior, 1) := by decide +kernel
theorem d_mo_mixed_9 : decode b_mo_mixed 9 = .ok (.ireturn, 1) := by decide +kernel
theorem d_mo_write_0 : decode b_mo_write 0 = .ok (.aload_n 0, 1) := by decide +kernel
theorem d_mo_write_1 : decode b_mo_write 1 = .ok (.aload_n 0, 1) := by decide +kernel
theorem d_mo_write_2 : decode b_mo_write 2 = .ok (.iload_n 1, 1) := by decide +kernel
theorem d_mo_write_3 : decode b_mo_write 3 = .ok (.invokevirtual 128, 3) := by decide +kernel
theorem d_mo_write_6 : decode b_mo_write 6 = .ok (.putfield 54, 3) := by decide +kernel
theorem d_mo_write_9 : decode b_mo_write 9 = .ok (.aload_n 0, 1) := by decide +kernel
theorem d_mo_write_10 : decode b_mo_write 10 = .ok (.getfield 54, 3) := by decide +kernel
theorem d_mo_write_13 : decode b_mo_write 13 = .ok (.ifCond .le 4, 3) := by decide +kernel
theorem d_mo_write_16 : decode b_mo_write 16 = .ok (.return_, 1) := by decide +kernel
theorem d_mo_write_17 : decode b_mo_write 17 = .ok (.iload_n 1, 1) := by decide +kernel
theorem d_mo_write_18 : decode b_mo_write 18 = .ok (.lookupswitch 293 #[(256, 187), (260, 205), (261, 245), (321, 269), (324, 224), (768, 106), (770, 140), (771, 151), (772, 163), (773, 245), (833, 269), (836, 175)], 106) := by decide +kernel
theorem d_mo_write_124 : decode b_mo_write 124 = .ok (.aload_n 0, 1) := by decide +kernel
theorem d_mo_write_125 : decode b_mo_write 125 = .ok (.aload_n 0, 1) := by decide +kernel
theorem d_mo_write_126 : decode b_mo_write 126 = .ok (.getfield 131, 3) := by decide +kernel
theorem d_mo_write_129 : decode b_mo_write 129 = .ok (.iload_n 2, 1) := by decide +kernel
theorem d_mo_write_130 : decode b_mo_write 130 = .ok (.iload_n 2, 1) := by decide +kernel
theorem d_mo_write_131 : decode b_mo_write 131 = .ok (.bipush 11, 2) := by decide +kernel
theorem d_mo_write_133 : decode b_mo_write 133 = .ok (.ishr, 1) := by decide +kernel
theorem d_mo_write_134 : decode b_mo_write 134 = .ok (.iconst 3, 1) := by decide +kernel
theorem d_mo_write_135 : decode b_mo_write 135 = .ok (.iand, 1) := by decide +kernel
theorem d_mo_write_136 : decode b_mo_write 136 = .ok (.iconst 2, 1) := by decide +kernel
theorem d_mo_write_137 : decode b_mo_write 137 = .ok (.if_icmp .ne 9, 3) := by decide +kernel
theorem d_mo_write_140 : decode b_mo_write 140 = .ok (.sipush 426, 3) := by decide +kernel
theorem d_mo_write_143 : decode b_mo_write 143 = .ok (.goto 6, 3) := by decide +kernel
theorem d_mo_write_146 : decode b_mo_write 146 = .ok (.sipush 6570, 3) := by decide +kernel
theorem d_mo_write_149 : decode b_mo_write 149 = .ok (.invokestatic 146, 3) := by decide +kernel
theorem d_mo_write_152 : decode b_mo_write 152 = .ok (.putfield 131, 3) := by decide +kernel
theorem d_mo_write_155 : decode b_mo_write 155 = .ok (.goto 174, 3) := by decide +kernel
theorem d_mo_write_158 : decode b_mo_write 158 = .ok (.aload_n 0, 1) := by decide +kernel
theorem d_mo_write_159 : decode b_mo_write 159 = .ok (.iload_n 2, 1) := by decide +kernel
theorem d_mo_write_160 : decode b_mo_write 160 = .ok (.ldc 150, 2) := by decide +kernel
theorem d_mo_write_162 : decode b_mo_write 162 = .ok (.iand, 1) := by decide +kernel
theorem d_mo_write_163 : decode b_mo_write 163 = .ok (.putfield 134, 3) := by decide +kernel
theorem d_mo_write_166 : decode b_mo_write 166 = .ok (.goto 163, 3) := by decide +kernel
theorem d_mo_write_169 : decode b_mo_write 169 = .ok (.aload_n 0, 1) := by decide +kernel
theorem d_mo_write_170 : decode b_mo_write 170 = .ok (.iload_n 2, 1) := by decide +kernel
theorem d_mo_write_171 : decode b_mo_write 171 = .ok (.sipush 546, 3) := by decide +kernel
theorem d_mo_write_174 : decode b_mo_write 174 = .ok (.iand, 1) := by decide +kernel
theorem d_mo_write_175 : decode b_mo_write 175 = .ok (.putfield 137, 3) := by decide +kernel
theorem d_mo_write_178 : decode b_mo_write 178 = .ok (.goto 151, 3) := by decide +kernel
theorem d_mo_write_181 : decode b_mo_write 181 = .ok (.aload_n 0, 1) := by decide +kernel
theorem d_mo_write_182 : decode b_mo_write 182 = .ok (.iload_n 2, 1) := by decide +kernel
theorem d_mo_write_183 : decode b_mo_write 183 = .ok (.sipush 2730, 3) := by decide +kernel
theorem d_mo_write_186 : decode b_mo_write 186 = .ok (.iand, 1) := by decide +kernel
theorem d_mo_write_187 : decode b_mo_write 187 = .ok (.putfield 140, 3) := by decide +kernel
theorem d_mo_write_190 : decode b_mo_write 190 = .ok (.goto 139, 3) := by decide +kernel
theorem d_mo_write_193 : decode b_mo_write 193 = .ok (.aload_n 0, 1) := by decide +kernel
theorem d_mo_write_194 : decode b_mo_write 194 = .ok (.iload_n 2, 1) := by decide +kernel
theorem d_mo_write_195 : decode b_mo_write 195 = .ok (.sipush 546, 3) := by decide +kernel
theorem d_mo_write_198 : decode b_mo_write 198 = .ok (.iand, 1) := by decide +kernel
theorem d_mo_write_199 : decode b_mo_write 199 = .ok (.putfield 114, 3) := by decide +kernel
theorem d_mo_write_202 : decode b_mo_write 202 = .ok (.goto 127, 3) := by decide +kernel
theorem d_mo_write_205 : decode b_mo_write 205 = .ok (.aload_n 0, 1) := by decide +kernel
theorem d_mo_write_206 : decode b_mo_write 206 = .ok (.aload_n 0, 1) := by decide +kernel
theorem d_mo_write_207 : decode b_mo_write 207 = .ok (.getfield 131, 3) := by decide +kernel
theorem d_mo_write_210 : decode b_mo_write 210 = .ok (.iload_n 2, 1) := by decide +kernel
theorem d_mo_write_211 : decode b_mo_write 211 = .ok (.sipush 290, 3) := by decide +kernel
theorem d_mo_write_214 : decode b_mo_write 214 = .ok (.invokestatic 146, 3) := by decide +kernel
theorem d_mo_write_217 : decode b_mo_write 217 = .ok (.putfield 131, 3) := by decide +kernel
theorem d_mo_write_220 : decode b_mo_write 220 = .ok (.goto 109, 3) := by decide +kernel
theorem d_mo_write_223 : decode b_mo_write 223 = .ok (.aload_n 0, 1) := by decide +kernel
theorem d_mo_write_224 : decode b_mo_write 224 = .ok (.aload_n 0, 1) := by decide +kernel
theorem d_mo_write_225 : decode b_mo_write 225 = .ok (.getfield 140, 3) := by decide +kernel
theorem d_mo_write_228 : decode b_mo_write 228 = .ok (.iload_n 2, 1) := by decide +kernel
theorem d_mo_write_229 : decode b_mo_write 229 = .ok (.aload_n 0, 1) := by decide +kernel
theorem d_mo_write_230 : decode b_mo_write 230 = .ok (.getfield 137, 3) := by decide +kernel
theorem d_mo_write_233 : decode b_mo_write 233 = .ok (.invokestatic 146, 3) := by decide +kernel
theorem d_mo_write_236 : decode b_mo_write 236 = .ok (.putfield 140, 3) := by decide +kernel
theorem d_mo_write_239 : decode b_mo_write 239 = .ok (.goto 90, 3) := by decide +kernel
theorem d_mo_write_242 : decode b_mo_write 242 = .ok (.aload_n 0, 1) := by decide +kernel
theorem d_mo_write_243 : decode b_mo_write 243 = .ok (.aload_n 0, 1) := by decide +kernel
theorem d_mo_write_244 : decode b_mo_write 244 = .ok (.getfield 114, 3) := by decide +kernel
theorem d_mo_write_247 : decode b_mo_write 247 = .ok (.iload_n 2, 1) := by decide +kernel
theorem d_mo_write_248 : decode b_mo_write 248 = .ok (.aload_n 0, 1) := by decide +kernel
theorem d_mo_write_249 : decode b_mo_write 249 = .ok (.getfield 137, 3) := by decide +kernel
theorem d_mo_write_252 : decode b_mo_write 252 = .ok (.iconst 2, 1) := by decide +kernel
theorem d_mo_write_253 : decode b_mo_write 253 = .ok (.iand, 1) := by decide +kernel
theorem d_mo_write_254 : decode b_mo_write 254 = .ok (.invokestatic 146, 3) := by decide +kernel
theorem d_mo_write_257 : decode b_mo_write 257 = .ok (.putfield 114, 3) := by decide +kernel
theorem d_mo_write_260 : decode b_mo_write 260 = .ok (.goto 69, 3) := by decide +kernel
theorem d_mo_write_263 : decode b_mo_write 263 = .ok (.aload_n 0, 1) := by decide +kernel
theorem d_mo_write_264 : decode b_mo_write 264 = .ok (.getfield 45, 3) := by decide +kernel
theorem d_mo_write_267 : decode b_mo_write 267 = .ok (.iload_n 1, 1) := by decide +kernel
theorem d_mo_write_268 : decode b_mo_write 268 = .ok (.sipush 261, 3) := by decide +kernel
theorem d_mo_write_271 : decode b_mo_write 271 = .ok (.if_icmp .ne 7, 3) := by decide +kernel
theorem d_mo_write_274 : decode b_mo_write 274 = .ok (.iconst 1, 1) := by decide +kernel
theorem d_mo_write_275 : decode b_mo_write 275 = .ok (.goto 4, 3) := by decide +kernel
theorem d_mo_write_278 : decode b_mo_write 278 = .ok (.iconst 0, 1) := by decide +kernel
theorem d_mo_write_279 : decode b_mo_write 279 = .ok (.iload_n 2, 1) := by decide +kernel
theorem d_mo_write_280 : decode b_mo_write 280 = .ok (.bipush (-3), 2) := by decide +kernel
theorem d_mo_write_282 : decode b_mo_write 282 = .ok (.iand, 1) := by decide +kernel
theorem d_mo_write_283 : decode b_mo_write 283 = .ok (.iastore, 1) := by decide +kernel
theorem d_mo_write_284 : decode b_mo_write 284 = .ok (.goto 45, 3) := by decide +kernel
theorem d_mo_write_287 : decode b_mo_write 287 = .ok (.aload_n 0, 1) := by decide +kernel
theorem d_mo_write_288 : decode b_mo_write 288 = .ok (.getfield 48, 3) := by decide +kernel
theorem d_mo_write_291 : decode b_mo_write 291 = .ok (.iload_n 1, 1) := by decide +kernel
theorem d_mo_write_292 : decode b_mo_write 292 = .ok (.sipush 321, 3) := by decide +kernel
theorem d_mo_write_295 : decode b_mo_write 295 = .ok (.if_icmp .ne 7, 3) := by decide +kernel
theorem d_mo_write_298 : decode b_mo_write 298 = .ok (.iconst 1, 1) := by decide +kernel
end
section
theorem d_mo_write_299 : decode b_mo_write 299 = .ok (.goto 4, 3) := by decide +kernel
theorem d_mo_write_302 : decode b_mo_write 302 = .ok (.iconst 0, 1) := by decide +kernel
theorem d_mo_write_303 : decode b_mo_write 303 = .ok (.iload_n 2, 1) := by decide +kernel
theorem d_mo_write_304 : decode b_mo_write 304 = .ok (.bipush (-4), 2) := by decide +kernel
theorem d_mo_write_306 : decode b_mo_write 306 = .ok (.iand, 1) := by decide +kernel
theorem d_mo_write_307 : decode b_mo_write 307 = .ok (.iastore, 1) := by decide +kernel
theorem d_mo_write_308 : decode b_mo_write 308 = .ok (.goto 21, 3) := by decide +kernel
theorem d_mo_write_311 : decode b_mo_write 311 = .ok (.aload_n 0, 1) := by decide +kernel
theorem d_mo_write_312 : decode b_mo_write 312 = .ok (.getfield 51, 3) := by decide +kernel
theorem d_mo_write_315 : decode b_mo_write 315 = .ok (.iload_n 1, 1) := by decide +kernel
theorem d_mo_write_316 : decode b_mo_write 316 = .ok (.sipush 322, 3) := by decide +kernel
theorem d_mo_write_319 : decode b_mo_write 319 = .ok (.if_icmp .ne 7, 3) := by decide +kernel
theorem d_mo_write_322 : decode b_mo_write 322 = .ok (.iconst 1, 1) := by decide +kernel
theorem d_mo_write_323 : decode b_mo_write 323 = .ok (.goto 4, 3) := by decide +kernel
theorem d_mo_write_326 : decode b_mo_write 326 = .ok (.iconst 0, 1) := by decide +kernel
theorem d_mo_write_327 : decode b_mo_write 327 = .ok (.iload_n 2, 1) := by decide +kernel
theorem d_mo_write_328 : decode b_mo_write 328 = .ok (.iastore, 1) := by decide +kernel
theorem d_mo_write_329 : decode b_mo_write 329 = .ok (.return_, 1) := by decide +kernel
theorem d_mo_bit_0 : decode b_mo_bit 0 = .ok (.aload_n 0, 1) := by decide +kernel
theorem d_mo_bit_1 : decode b_mo_bit 1 = .ok (.getfield 131, 3) := by decide +kernel
theorem d_mo_bit_4 : decode b_mo_bit 4 = .ok (.iload_n 1, 1) := by decide +kernel
theorem d_mo_bit_5 : decode b_mo_bit 5 = .ok (.ishr, 1) := by decide +kernel
theorem d_mo_bit_6 : decode b_mo_bit 6 = .ok (.iconst 1, 1) := by decide +kernel
theorem d_mo_bit_7 : decode b_mo_bit 7 = .ok (.iand, 1) := by decide +kernel
theorem d_mo_bit_8 : decode b_mo_bit 8 = .ok (.iconst 1, 1) := by decide +kernel
theorem d_mo_bit_9 : decode b_mo_bit 9 = .ok (.if_icmp .ne 7, 3) := by decide +kernel
theorem d_mo_bit_12 : decode b_mo_bit 12 = .ok (.iconst 1, 1) := by decide +kernel
theorem d_mo_bit_13 : decode b_mo_bit 13 = .ok (.goto 4, 3) := by decide +kernel
theorem d_mo_bit_16 : decode b_mo_bit 16 = .ok (.iconst 0, 1) := by decide +kernel
theorem d_mo_bit_17 : decode b_mo_bit 17 = .ok (.ireturn, 1) := by decide +kernel
theorem d_mo_setBit_0 : decode b_mo_setBit 0 = .ok (.aload_n 0, 1) := by decide +kernel
theorem d_mo_setBit_1 : decode b_mo_setBit 1 = .ok (.iload_n 2, 1) := by decide +kernel
theorem d_mo_setBit_2 : decode b_mo_setBit 2 = .ok (.ifCond .eq 14, 3) := by decide +kernel
theorem d_mo_setBit_5 : decode b_mo_setBit 5 = .ok (.aload_n 0, 1) := by decide +kernel
theorem d_mo_setBit_6 : decode b_mo_setBit 6 = .ok (.getfield 131, 3) := by decide +kernel
theorem d_mo_setBit_9 : decode b_mo_setBit 9 = .ok (.iconst 1, 1) := by decide +kernel
theorem d_mo_setBit_10 : decode b_mo_setBit 10 = .ok (.iload_n 1, 1) := by decide +kernel
theorem d_mo_setBit_11 : decode b_mo_setBit 11 = .ok (.ishl, 1) := by decide +kernel
theorem d_mo_setBit_12 : decode b_mo_setBit 12 = .ok (.ior, 1) := by decide +kernel
theorem d_mo_setBit_13 : decode b_mo_setBit 13 = .ok (.goto 13, 3) := by decide +kernel
theorem d_mo_setBit_16 : decode b_mo_setBit 16 = .ok (.aload_n 0, 1) := by decide +kernel
theorem d_mo_setBit_17 : decode b_mo_setBit 17 = .ok (.getfield 131, 3) := by decide +kernel
theorem d_mo_setBit_20 : decode b_mo_setBit 20 = .ok (.iconst 1, 1) := by decide +kernel
theorem d_mo_setBit_21 : decode b_mo_setBit 21 = .ok (.iload_n 1, 1) := by decide +kernel
theorem d_mo_setBit_22 : decode b_mo_setBit 22 = .ok (.ishl, 1) := by decide +kernel
theorem d_mo_setBit_23 : decode b_mo_setBit 23 = .ok (.iconst (-1), 1) := by decide +kernel
theorem d_mo_setBit_24 : decode b_mo_setBit 24 = .ok (.ixor, 1) := by decide +kernel
theorem d_mo_setBit_25 : decode b_mo_setBit 25 = .ok (.iand, 1) := by decide +kernel
theorem d_mo_setBit_26 : decode b_mo_setBit 26 = .ok (.putfield 131, 3) := by decide +kernel
theorem d_mo_setBit_29 : decode b_mo_setBit 29 = .ok (.return_, 1) := by decide +kernel
theorem d_mo_trap_0 : decode b_mo_trap 0 = .ok (.iload_n 2, 1) := by decide +kernel
theorem d_mo_trap_1 : decode b_mo_trap 1 = .ok (.ifCond .eq 10, 3) := by decide +kernel
theorem d_mo_trap_4 : decode b_mo_trap 4 = .ok (.aload_n 0, 1) := by decide +kernel
theorem d_mo_trap_5 : decode b_mo_trap 5 = .ok (.getfield 137, 3) := by decide +kernel
theorem d_mo_trap_8 : decode b_mo_trap 8 = .ok (.goto 7, 3) := by decide +kernel
theorem d_mo_trap_11 : decode b_mo_trap 11 = .ok (.aload_n 0, 1) := by decide +kernel
theorem d_mo_trap_12 : decode b_mo_trap 12 = .ok (.getfield 134, 3) := by decide +kernel
theorem d_mo_trap_15 : decode b_mo_trap 15 = .ok (.istore_n 3, 1) := by decide +kernel
theorem d_mo_trap_16 : decode b_mo_trap 16 = .ok (.aload_n 0, 1) := by decide +kernel
theorem d_mo_trap_17 : decode b_mo_trap 17 = .ok (.getfield 7, 3) := by decide +kernel
theorem d_mo_trap_20 : decode b_mo_trap 20 = .ok (.iconst 3, 1) := by decide +kernel
theorem d_mo_trap_21 : decode b_mo_trap 21 = .ok (.if_icmp .ge 16, 3) := by decide +kernel
theorem d_mo_trap_24 : decode b_mo_trap 24 = .ok (.iload_n 3, 1) := by decide +kernel
theorem d_mo_trap_25 : decode b_mo_trap 25 = .ok (.iload_n 1, 1) := by decide +kernel
theorem d_mo_trap_26 : decode b_mo_trap 26 = .ok (.ishr, 1) := by decide +kernel
theorem d_mo_trap_27 : decode b_mo_trap 27 = .ok (.iconst 1, 1) := by decide +kernel
theorem d_mo_trap_28 : decode b_mo_trap 28 = .ok (.iand, 1) := by decide +kernel
theorem d_mo_trap_29 : decode b_mo_trap 29 = .ok (.iconst 1, 1) := by decide +kernel
theorem d_mo_trap_30 : decode b_mo_trap 30 = .ok (.if_icmp .ne 7, 3) := by decide +kernel
theorem d_mo_trap_33 : decode b_mo_trap 33 = .ok (.iconst 1, 1) := by decide +kernel
theorem d_mo_trap_34 : decode b_mo_trap 34 = .ok (.goto 4, 3) := by decide +kernel
theorem d_mo_trap_37 : decode b_mo_trap 37 = .ok (.iconst 0, 1) := by decide +kernel
theorem d_mo_trap_38 : decode b_mo_trap 38 = .ok (.istore 4, 2) := by decide +kernel
theorem d_mo_trap_40 : decode b_mo_trap 40 = .ok (.aload_n 0, 1) := by decide +kernel
theorem d_mo_trap_41 : decode b_mo_trap 41 = .ok (.getfield 48, 3) := by decide +kernel
theorem d_mo_trap_44 : decode b_mo_trap 44 = .ok (.iload 4, 2) := by decide +kernel
theorem d_mo_trap_46 : decode b_mo_trap 46 = .ok (.aload_n 0, 1) := by decide +kernel
theorem d_mo_trap_47 : decode b_mo_trap 47 = .ok (.getfield 109, 3) := by decide +kernel
theorem d_mo_trap_50 : decode b_mo_trap 50 = .ok (.bipush (-4), 2) := by decide +kernel
theorem d_mo_trap_52 : decode b_mo_trap 52 = .ok (.iand, 1) := by decide +kernel
theorem d_mo_trap_53 : decode b_mo_trap 53 = .ok (.iastore, 1) := by decide +kernel
theorem d_mo_trap_54 : decode b_mo_trap 54 = .ok (.aload_n 0, 1) := by decide +kernel
theorem d_mo_trap_55 : decode b_mo_trap 55 = .ok (.getfield 51, 3) := by decide +kernel
theorem d_mo_trap_58 : decode b_mo_trap 58 = .ok (.iload 4, 2) := by decide +kernel
theorem d_mo_trap_60 : decode b_mo_trap 60 = .ok (.iload_n 2, 1) := by decide +kernel
theorem d_mo_trap_61 : decode b_mo_trap 61 = .ok (.ifCond .eq 10, 3) := by decide +kernel
theorem d_mo_trap_64 : decode b_mo_trap 64 = .ok (.iload_n 1, 1) := by decide +kernel
theorem d_mo_trap_65 : decode b_mo_trap 65 = .ok (.ldc 151, 2) := by decide +kernel
theorem d_mo_trap_67 : decode b_mo_trap 67 = .ok (.ior, 1) := by decide +kernel
theorem d_mo_trap_68 : decode b_mo_trap 68 = .ok (.goto 4, 3) := by decide +kernel
theorem d_mo_trap_71 : decode b_mo_trap 71 = .ok (.iload_n 1, 1) := by decide +kernel
theorem d_mo_trap_72 : decode b_mo_trap 72 = .ok (.iastore, 1) := by decide +kernel
theorem d_mo_trap_73 : decode b_mo_trap 73 = .ok (.iload 4, 2) := by decide +kernel
theorem d_mo_trap_75 : decode b_mo_trap 75 = .ok (.iconst 1, 1) := by decide +kernel
theorem d_mo_trap_76 : decode b_mo_trap 76 = .ok (.if_icmp .ne 46, 3) := by decide +kernel
theorem d_mo_trap_79 : decode b_mo_trap 79 = .ok (.aload_n 0, 1) := by decide +kernel
theorem d_mo_trap_80 : decode b_mo_trap 80 = .ok (.iconst 5, 1) := by decide +kernel
theorem d_mo_trap_81 : decode b_mo_trap 81 = .ok (.aload_n 0, 1) := by decide +kernel
theorem d_mo_trap_82 : decode b_mo_trap 82 = .ok (.iconst 1, 1) := by decide +kernel
theorem d_mo_trap_83 : decode b_mo_trap 83 = .ok (.invokevirtual 152, 3) := by decide +kernel
theorem d_mo_trap_86 : decode b_mo_trap 86 = .ok (.invokevirtual 155, 3) := by decide +kernel
theorem d_mo_trap_89 : decode b_mo_trap 89 = .ok (.aload_n 0, 1) := by decide +kernel
theorem d_mo_trap_90 : decode b_mo_trap 90 = .ok (.iconst 1, 1) := by decide +kernel
theorem d_mo_trap_91 : decode b_mo_trap 91 = .ok (.iconst 0, 1) := by decide +kernel
theorem d_mo_trap_92 : decode b_mo_trap 92 = .ok (.invokevirtual 155, 3) := by decide +kernel
theorem d_mo_trap_95 : decode b_mo_trap 95 = .ok (.aload_n 0, 1) := by decide +kernel
theorem d_mo_trap_96 : decode b_mo_trap 96 = .ok (.bipush 8, 2) := by decide +kernel
theorem d_mo_trap_98 : decode b_mo_trap 98 = .ok (.aload_n 0, 1) := by decide +kernel
theorem d_mo_trap_99 : decode b_mo_trap 99 = .ok (.getfield 7, 3) := by decide +kernel
theorem d_mo_trap_102 : decode b_mo_trap 102 = .ok (.iconst 1, 1) := by decide +kernel
theorem d_mo_trap_103 : decode b_mo_trap 103 = .ok (.if_icmp .ne 7, 3) := by decide +kernel
theorem d_mo_trap_106 : decode b_mo_trap 106 = .ok (.iconst 1, 1) := by decide +kernel
theorem d_mo_trap_107 : decode b_mo_trap 107 = .ok (.goto 4, 3) := by decide +kernel
theorem d_mo_trap_110 : decode b_mo_trap 110 = .ok (.iconst 0, 1) := by decide +kernel
theorem d_mo_trap_111 : decode b_mo_trap 111 = .ok (.invokevirtual 155, 3) := by decide +kernel
theorem d_mo_trap_114 : decode b_mo_trap 114 = .ok (.aload_n 0, 1) := by decide +kernel
theorem d_mo_trap_115 : decode b_mo_trap 115 = .ok (.iconst 1, 1) := by decide +kernel
theorem d_mo_trap_116 : decode b_mo_trap 116 = .ok (.putfield 7, 3) := by decide +kernel
theorem d_mo_trap_119 : decode b_mo_trap 119 = .ok (.goto 46, 3) := by decide +kernel
theorem d_mo_trap_122 : decode b_mo_trap 122 = .ok (.aload_n 0, 1) := by decide +kernel
theorem d_mo_trap_123 : decode b_mo_trap 123 = .ok (.bipush 7, 2) := by decide +kernel
theorem d_mo_trap_125 : decode b_mo_trap 125 = .ok (.aload_n 0, 1) := by decide +kernel
theorem d_mo_trap_126 : decode b_mo_trap 126 = .ok (.iconst 3, 1) := by decide +kernel
theorem d_mo_trap_127 : decode b_mo_trap 127 = .ok (.invokevirtual 152, 3) := by decide +kernel
theorem d_mo_trap_130 : decode b_mo_trap 130 = .ok (.invokevirtual 155, 3) := by decide +kernel
theorem d_mo_trap_133 : decode b_mo_trap 133 = .ok (.aload_n 0, 1) := by decide +kernel
theorem d_mo_trap_134 : decode b_mo_trap 134 = .ok (.iconst 3, 1) := by decide +kernel
theorem d_mo_trap_135 : decode b_mo_trap 135 = .ok (.iconst 0, 1) := by decide +kernel
theorem d_mo_trap_136 : decode b_mo_trap 136 = .ok (.invokevirtual 155, 3) := by decide +kernel
theorem d_mo_trap_139 : decode b_mo_trap 139 = .ok (.aload_n 0, 1) := by decide +kernel
theorem d_mo_trap_140 : decode b_mo_trap 140 = .ok (.aload_n 0, 1) := by decide +kernel
theorem d_mo_trap_141 : decode b_mo_trap 141 = .ok (.getfield 131, 3) := by decide +kernel
theorem d_mo_trap_144 : decode b_mo_trap 144 = .ok (.aload_n 0, 1) := by decide +kernel
theorem d_mo_trap_145 : decode b_mo_trap 145 = .ok (.getfield 7, 3) := by decide +kernel
theorem d_mo_trap_148 : decode b_mo_trap 148 = .ok (.bipush 11, 2) := by decide +kernel
theorem d_mo_trap_150 : decode b_mo_trap 150 = .ok (.ishl, 1) := by decide +kernel
theorem d_mo_trap_151 : decode b_mo_trap 151 = .ok (.sipush 6144, 3) := by decide +kernel
theorem d_mo_trap_154 : decode b_mo_trap 154 = .ok (.invokestatic 146, 3) := by decide +kernel
theorem d_mo_trap_157 : decode b_mo_trap 157 = .ok (.putfield 131, 3) := by decide +kernel
theorem d_mo_trap_160 : decode b_mo_trap 160 = .ok (.aload_n 0, 1) := by decide +kernel
theorem d_mo_trap_161 : decode b_mo_trap 161 = .ok (.iconst 3, 1) := by decide +kernel
theorem d_mo_trap_162 : decode b_mo_trap 162 = .ok (.putfield 7, 3) := by decide +kernel
theorem d_mo_trap_165 : decode b_mo_trap 165 = .ok (.aload_n 0, 1) := by decide +kernel
theorem d_mo_trap_166 : decode b_mo_trap 166 = .ok (.aload_n 0, 1) := by decide +kernel
theorem d_mo_trap_167 : decode b_mo_trap 167 = .ok (.getfield 45, 3) := by decide +kernel
theorem d_mo_trap_170 : decode b_mo_trap 170 = .ok (.iload 4, 2) := by decide +kernel
theorem d_mo_trap_172 : decode b_mo_trap 172 = .ok (.iaload, 1) := by decide +kernel
theorem d_mo_trap_173 : decode b_mo_trap 173 = .ok (.bipush (-4), 2) := by decide +kernel
theorem d_mo_trap_175 : decode b_mo_trap 175 = .ok (.iand, 1) := by decide +kernel
theorem d_mo_trap_176 : decode b_mo_trap 176 = .ok (.putfield 109, 3) := by decide +kernel
theorem d_mo_trap_179 : decode b_mo_trap 179 = .ok (.iload_n 2, 1) := by decide +kernel
theorem d_mo_trap_180 : decode b_mo_trap 180 = .ok (.ifCond .eq 28, 3) := by decide +kernel
theorem d_mo_trap_183 : decode b_mo_trap 183 = .ok (.aload_n 0, 1) := by decide +kernel
theorem d_mo_trap_184 : decode b_mo_trap 184 = .ok (.getfield 45, 3) := by decide +kernel
theorem d_mo_trap_187 : decode b_mo_trap 187 = .ok (.iload 4, 2) := by decide +kernel
theorem d_mo_trap_189 : decode b_mo_trap 189 = .ok (.iaload, 1) := by decide +kernel
theorem d_mo_trap_190 : decode b_mo_trap 190 = .ok (.iconst 1, 1) := by decide +kernel
theorem d_mo_trap_191 : decode b_mo_trap 191 = .ok (.iand, 1) := by decide +kernel
theorem d_mo_trap_192 : decode b_mo_trap 192 = .ok (.iconst 1, 1) := by decide +kernel
theorem d_mo_trap_193 : decode b_mo_trap 193 = .ok (.if_icmp .ne 15, 3) := by decide +kernel
theorem d_mo_trap_196 : decode b_mo_trap 196 = .ok (.aload_n 0, 1) := by decide +kernel
theorem d_mo_trap_197 : decode b_mo_trap 197 = .ok (.aload_n 0, 1) := by decide +kernel
theorem d_mo_trap_198 : decode b_mo_trap 198 = .ok (.getfield 109, 3) := by decide +kernel
theorem d_mo_trap_201 : decode b_mo_trap 201 = .ok (.iconst 4, 1) := by decide +kernel
theorem d_mo_trap_202 : decode b_mo_trap 202 = .ok (.iload_n 1, 1) := by decide +kernel
theorem d_mo_trap_203 : decode b_mo_trap 203 = .ok (.imul, 1) := by decide +kernel
theorem d_mo_trap_204 : decode b_mo_trap 204 = .ok (.iadd, 1) := by decide +kernel
theorem d_mo_trap_205 : decode b_mo_trap 205 = .ok (.putfield 109, 3) := by decide +kernel
theorem d_mo_trap_208 : decode b_mo_trap 208 = .ok (.return_, 1) := by decide +kernel
theorem d_mo_order_0 : decode b_mo_order 0 = .ok (.iload_n 0, 1) := by decide +kernel
theorem d_mo_order_1 : decode b_mo_order 1 = .ok (.ifCond .ne 8, 3) := by decide +kernel
theorem d_mo_order_4 : decode b_mo_order 4 = .ok (.bipush 11, 2) := by decide +kernel
theorem d_mo_order_6 : decode b_mo_order 6 = .ok (.goto 42, 3) := by decide +kernel
theorem d_mo_order_9 : decode b_mo_order 9 = .ok (.iload_n 0, 1) := by decide +kernel
theorem d_mo_order_10 : decode b_mo_order 10 = .ok (.iconst 1, 1) := by decide +kernel
theorem d_mo_order_11 : decode b_mo_order 11 = .ok (.if_icmp .ne 7, 3) := by decide +kernel
theorem d_mo_order_14 : decode b_mo_order 14 = .ok (.iconst 3, 1) := by decide +kernel
theorem d_mo_order_15 : decode b_mo_order 15 = .ok (.goto 33, 3) := by decide +kernel
theorem d_mo_order_18 : decode b_mo_order 18 = .ok (.iload_n 0, 1) := by decide +kernel
theorem d_mo_order_19 : decode b_mo_order 19 = .ok (.iconst 2, 1) := by decide +kernel
theorem d_mo_order_20 : decode b_mo_order 20 = .ok (.if_icmp .ne 8, 3) := by decide +kernel
theorem d_mo_order_23 : decode b_mo_order 23 = .ok (.bipush 7, 2) := by decide +kernel
theorem d_mo_order_25 : decode b_mo_order 25 = .ok (.goto 23, 3) := by decide +kernel
theorem d_mo_order_28 : decode b_mo_order 28 = .ok (.iload_n 0, 1) := by decide +kernel
theorem d_mo_order_29 : decode b_mo_order 29 = .ok (.iconst 3, 1) := by decide +kernel
theorem d_mo_order_30 : decode b_mo_order 30 = .ok (.if_icmp .ne 8, 3) := by decide +kernel
theorem d_mo_order_33 : decode b_mo_order 33 = .ok (.bipush 9, 2) := by decide +kernel
theorem d_mo_order_35 : decode b_mo_order 35 = .ok (.goto 13, 3) := by decide +kernel
theorem d_mo_order_38 : decode b_mo_order 38 = .ok (.iload_n 0, 1) := by decide +kernel
theorem d_mo_order_39 : decode b_mo_order 39 = .ok (.iconst 4, 1) := by decide +kernel
theorem d_mo_order_40 : decode b_mo_order 40 = .ok (.if_icmp .ne 7, 3) := by decide +kernel
theorem d_mo_order_43 : decode b_mo_order 43 = .ok (.iconst 1, 1) := by decide +kernel
theorem d_mo_order_44 : decode b_mo_order 44 = .ok (.goto 4, 3) := by decide +kernel
theorem d_mo_order_47 : decode b_mo_order 47 = .ok (.iconst 5, 1) := by decide +kernel
theorem d_mo_order_48 : decode b_mo_order 48 = .ok (.ireturn, 1) := by decide +kernel
theorem d_mo_dueNow_0 : decode b_mo_dueNow 0 = .ok (.aload_n 0, 1) := by decide +kernel
theorem d_mo_dueNow_1 : decode b_mo_dueNow 1 = .ok (.invokevirtual 143, 3) := by decide +kernel
theorem d_mo_dueNow_4 : decode b_mo_dueNow 4 = .ok (.aload_n 0, 1) := by decide +kernel
theorem d_mo_dueNow_5 : decode b_mo_dueNow 5 = .ok (.getfield 140, 3) := by decide +kernel
theorem d_mo_dueNow_8 : decode b_mo_dueNow 8 = .ok (.iand, 1) := by decide +kernel
theorem d_mo_dueNow_9 : decode b_mo_dueNow 9 = .ok (.istore_n 1, 1) := by decide +kernel
theorem d_mo_dueNow_10 : decode b_mo_dueNow 10 = .ok (.iconst 0, 1) := by decide +kernel
theorem d_mo_dueNow_11 : decode b_mo_dueNow 11 = .ok (.istore_n 2, 1) := by decide +kernel
theorem d_mo_dueNow_12 : decode b_mo_dueNow 12 = .ok (.iload_n 2, 1) := by decide +kernel
theorem d_mo_dueNow_13 : decode b_mo_dueNow 13 = .ok (.bipush 12, 2) := by decide +kernel
theorem d_mo_dueNow_15 : decode b_mo_dueNow 15 = .ok (.if_icmp .ge 127, 3) := by decide +kernel
theorem d_mo_dueNow_18 : decode b_mo_dueNow 18 = .ok (.iload_n 2, 1) := by decide +kernel
theorem d_mo_dueNow_19 : decode b_mo_dueNow 19 = .ok (.bipush 6, 2) := by decide +kernel
theorem d_mo_dueNow_21 : decode b_mo_dueNow 21 = .ok (.irem, 1) := by decide +kernel
theorem d_mo_dueNow_22 : decode b_mo_dueNow 22 = .ok (.invokestatic 158, 3) := by decide +kernel
theorem d_mo_dueNow_25 : decode b_mo_dueNow 25 = .ok (.istore_n 3, 1) := by decide +kernel
theorem d_mo_dueNow_26 : decode b_mo_dueNow 26 = .ok (.aload_n 0, 1) := by decide +kernel
theorem d_mo_dueNow_27 : decode b_mo_dueNow 27 = .ok (.getfield 137, 3) := by decide +kernel
theorem d_mo_dueNow_30 : decode b_mo_dueNow 30 = .ok (.iload_n 3, 1) := by decide +kernel
theorem d_mo_dueNow_31 : decode b_mo_dueNow 31 = .ok (.ishr, 1) := by decide +kernel
theorem d_mo_dueNow_32 : decode b_mo_dueNow 32 = .ok (.iconst 1, 1) := by decide +kernel
theorem d_mo_dueNow_33 : decode b_mo_dueNow 33 = .ok (.iand, 1) := by decide +kernel
theorem d_mo_dueNow_34 : decode b_mo_dueNow 34 = .ok (.iconst 1, 1) := by decide +kernel
theorem d_mo_dueNow_35 : decode b_mo_dueNow 35 = .ok (.if_icmp .ne 7, 3) := by decide +kernel
theorem d_mo_dueNow_38 : decode b_mo_dueNow 38 = .ok (.iconst 1, 1) := by decide +kernel
theorem d_mo_dueNow_39 : decode b_mo_dueNow 39 = .ok (.goto 4, 3) := by decide +kernel
theorem d_mo_dueNow_42 : decode b_mo_dueNow 42 = .ok (.iconst 0, 1) := by decide +kernel
theorem d_mo_dueNow_43 : decode b_mo_dueNow 43 = .ok (.istore 4, 2) := by decide +kernel
theorem d_mo_dueNow_45 : decode b_mo_dueNow 45 = .ok (.iload 4, 2) := by decide +kernel
theorem d_mo_dueNow_47 : decode b_mo_dueNow 47 = .ok (.ifCond .eq 34, 3) := by decide +kernel
theorem d_mo_dueNow_50 : decode b_mo_dueNow 50 = .ok (.aload_n 0, 1) := by decide +kernel
theorem d_mo_dueNow_51 : decode b_mo_dueNow 51 = .ok (.getfield 7, 3) := by decide +kernel
theorem d_mo_dueNow_54 : decode b_mo_dueNow 54 = .ok (.ifCond .eq 19, 3) := by decide +kernel
theorem d_mo_dueNow_57 : decode b_mo_dueNow 57 = .ok (.aload_n 0, 1) := by decide +kernel
theorem d_mo_dueNow_58 : decode b_mo_dueNow 58 = .ok (.getfield 7, 3) := by decide +kernel
theorem d_mo_dueNow_61 : decode b_mo_dueNow 61 = .ok (.iconst 1, 1) := by decide +kernel
theorem d_mo_dueNow_62 : decode b_mo_dueNow 62 = .ok (.if_icmp .ne 15, 3) := by decide +kernel
theorem d_mo_dueNow_65 : decode b_mo_dueNow 65 = .ok (.aload_n 0, 1) := by decide +kernel
theorem d_mo_dueNow_66 : decode b_mo_dueNow 66 = .ok (.iconst 1, 1) := by decide +kernel
theorem d_mo_dueNow_67 : decode b_mo_dueNow 67 = .ok (.invokevirtual 152, 3) := by decide +kernel
theorem d_mo_dueNow_70 : decode b_mo_dueNow 70 = .ok (.ifCond .eq 7, 3) := by decide +kernel
theorem d_mo_dueNow_73 : decode b_mo_dueNow 73 = .ok (.iconst 1, 1) := by decide +kernel
theorem d_mo_dueNow_74 : decode b_mo_dueNow 74 = .ok (.goto 28, 3) := by decide +kernel
theorem d_mo_dueNow_77 : decode b_mo_dueNow 77 = .ok (.iconst 0, 1) := by decide +kernel
theorem d_mo_dueNow_78 : decode b_mo_dueNow 78 = .ok (.goto 24, 3) := by decide +kernel
theorem d_mo_dueNow_81 : decode b_mo_dueNow 81 = .ok (.aload_n 0, 1) := by decide +kernel
theorem d_mo_dueNow_82 : decode b_mo_dueNow 82 = .ok (.getfield 7, 3) := by decide +kernel
theorem d_mo_dueNow_85 : decode b_mo_dueNow 85 = .ok (.iconst 3, 1) := by decide +kernel
theorem d_mo_dueNow_86 : decode b_mo_dueNow 86 = .ok (.if_icmp .lt 11, 3) := by decide +kernel
theorem d_mo_dueNow_89 : decode b_mo_dueNow 89 = .ok (.aload_n 0, 1) := by decide +kernel
theorem d_mo_dueNow_90 : decode b_mo_dueNow 90 = .ok (.iconst 3, 1) := by decide +kernel
theorem d_mo_dueNow_91 : decode b_mo_dueNow 91 = .ok (.invokevirtual 152, 3) := by decide +kernel
theorem d_mo_dueNow_94 : decode b_mo_dueNow 94 = .ok (.ifCond .eq 7, 3) := by decide +kernel
theorem d_mo_dueNow_97 : decode b_mo_dueNow 97 = .ok (.iconst 1, 1) := by decide +kernel
theorem d_mo_dueNow_98 : decode b_mo_dueNow 98 = .ok (.goto 4, 3) := by decide +kernel
theorem d_mo_dueNow_101 : decode b_mo_dueNow 101 = .ok (.iconst 0, 1) := by decide +kernel
theorem d_mo_dueNow_102 : decode b_mo_dueNow 102 = .ok (.istore 5, 2) := by decide +kernel
theorem d_mo_dueNow_104 : decode b_mo_dueNow 104 = .ok (.iload_n 1, 1) := by decide +kernel
theorem d_mo_dueNow_105 : decode b_mo_dueNow 105 = .ok (.iload_n 3, 1) := by decide +kernel
theorem d_mo_dueNow_106 : decode b_mo_dueNow 106 = .ok (.ishr, 1) := by decide +kernel
theorem d_mo_dueNow_107 : decode b_mo_dueNow 107 = .ok (.iconst 1, 1) := by decide +kernel
theorem d_mo_dueNow_108 : decode b_mo_dueNow 108 = .ok (.iand, 1) := by decide +kernel
theorem d_mo_dueNow_109 : decode b_mo_dueNow 109 = .ok (.iconst 1, 1) := by decide +kernel
theorem d_mo_dueNow_110 : decode b_mo_dueNow 110 = .ok (.if_icmp .ne 26, 3) := by decide +kernel
theorem d_mo_dueNow_113 : decode b_mo_dueNow 113 = .ok (.iload 4, 2) := by decide +kernel
theorem d_mo_dueNow_115 : decode b_mo_dueNow 115 = .ok (.iload_n 2, 1) := by decide +kernel
theorem d_mo_dueNow_116 : decode b_mo_dueNow 116 = .ok (.bipush 6, 2) := by decide +kernel
theorem d_mo_dueNow_118 : decode b_mo_dueNow 118 = .ok (.if_icmp .lt 7, 3) := by decide +kernel
theorem d_mo_dueNow_121 : decode b_mo_dueNow 121 = .ok (.iconst 1, 1) := by decide +kernel
theorem d_mo_dueNow_122 : decode b_mo_dueNow 122 = .ok (.goto 4, 3) := by decide +kernel
theorem d_mo_dueNow_125 : decode b_mo_dueNow 125 = .ok (.iconst 0, 1) := by decide +kernel
theorem d_mo_dueNow_126 : decode b_mo_dueNow 126 = .ok (.if_icmp .ne 10, 3) := by decide +kernel
theorem d_mo_dueNow_129 : decode b_mo_dueNow 129 = .ok (.iload 5, 2) := by decide +kernel
theorem d_mo_dueNow_131 : decode b_mo_dueNow 131 = .ok (.ifCond .eq 5, 3) := by decide +kernel
theorem d_mo_dueNow_134 : decode b_mo_dueNow 134 = .ok (.iload_n 3, 1) := by decide +kernel
theorem d_mo_dueNow_135 : decode b_mo_dueNow 135 = .ok (.ireturn, 1) := by decide +kernel
theorem d_mo_dueNow_136 : decode b_mo_dueNow 136 = .ok (.iinc 2 1, 3) := by decide +kernel
theorem d_mo_dueNow_139 : decode b_mo_dueNow 139 = .ok (.goto (-127), 3) := by decide +kernel
theorem d_mo_dueNow_142 : decode b_mo_dueNow 142 = .ok (.iconst (-1), 1) := by decide +kernel
theorem d_mo_dueNow_143 : decode b_mo_dueNow 143 = .ok (.ireturn, 1) := by decide +kernel
theorem d_mo_due_0 : decode b_mo_due 0 = .ok (.aload_n 0, 1) := by decide +kernel
theorem d_mo_due_1 : decode b_mo_due 1 = .ok (.iconst 0, 1) := by decide +kernel
theorem d_mo_due_2 : decode b_mo_due 2 = .ok (.putfield 54, 3) := by decide +kernel
theorem d_mo_due_5 : decode b_mo_due 5 = .ok (.aload_n 0, 1) := by decide +kernel
theorem d_mo_due_6 : decode b_mo_due 6 = .ok (.invokevirtual 161, 3) := by decide +kernel
theorem d_mo_due_9 : decode b_mo_due 9 = .ok (.ireturn, 1) := by decide +kernel
theorem d_mo_step_0 : decode b_mo_step 0 = .ok (.aload_n 0, 1) := by decide +kernel
theorem d_mo_step_1 : decode b_mo_step 1 = .ok (.iconst 0, 1) := by decide +kernel
theorem d_mo_step_2 : decode b_mo_step 2 = .ok (.putfield 54, 3) := by decide +kernel
theorem d_mo_step_5 : decode b_mo_step 5 = .ok (.aload_n 0, 1) := by decide +kernel
theorem d_mo_step_6 : decode b_mo_step 6 = .ok (.invokevirtual 161, 3) := by decide +kernel
theorem d_mo_step_9 : decode b_mo_step 9 = .ok (.istore_n 1, 1) := by decide +kernel
theorem d_mo_step_10 : decode b_mo_step 10 = .ok (.iload_n 1, 1) := by decide +kernel
theorem d_mo_step_11 : decode b_mo_step 11 = .ok (.ifCond .lt 12, 3) := by decide +kernel
theorem d_mo_step_14 : decode b_mo_step 14 = .ok (.aload_n 0, 1) := by decide +kernel
theorem d_mo_step_15 : decode b_mo_step 15 = .ok (.iload_n 1, 1) := by decide +kernel
theorem d_mo_step_16 : decode b_mo_step 16 = .ok (.iconst 1, 1) := by decide +kernel
theorem d_mo_step_17 : decode b_mo_step 17 = .ok (.invokevirtual 105, 3) := by decide +kernel
theorem d_mo_step_20 : decode b_mo_step 20 = .ok (.goto 13, 3) := by decide +kernel
theorem d_mo_step_23 : decode b_mo_step 23 = .ok (.aload_n 0, 1) := by decide +kernel
theorem d_mo_step_24 : decode b_mo_step 24 = .ok (.aload_n 0, 1) := by decide +kernel
theorem d_mo_step_25 : decode b_mo_step 25 = .ok (.getfield 109, 3) := by decide +kernel
theorem d_mo_step_28 : decode b_mo_step 28 = .ok (.iconst 4, 1) := by decide +kernel
theorem d_mo_step_29 : decode b_mo_step 29 = .ok (.iadd, 1) := by decide +kernel
theorem d_mo_step_30 : decode b_mo_step 30 = .ok (.putfield 109, 3) := by decide +kernel
theorem d_mo_step_33 : decode b_mo_step 33 = .ok (.iload_n 1, 1) := by decide +kernel
theorem d_mo_step_34 : decode b_mo_step 34 = .ok (.ireturn, 1) := by decide +kernel
theorem d_mo_raise_0 : decode b_mo_raise 0 = .ok (.iload_n 1, 1) := by decide +kernel
theorem d_mo_raise_1 : decode b_mo_raise 1 = .ok (.ifCond .lt 9, 3) := by decide +kernel
theorem d_mo_raise_4 : decode b_mo_raise 4 = .ok (.iload_n 1, 1) := by decide +kernel
theorem d_mo_raise_5 : decode b_mo_raise 5 = .ok (.bipush 9, 2) := by decide +kernel
theorem d_mo_raise_7 : decode b_mo_raise 7 = .ok (.if_icmp .le 27, 3) := by decide +kernel
theorem d_mo_raise_10 : decode b_mo_raise 10 = .ok (.iload_n 1, 1) := by decide +kernel
theorem d_mo_raise_11 : decode b_mo_raise 11 = .ok (.bipush 11, 2) := by decide +kernel
theorem d_mo_raise_13 : decode b_mo_raise 13 = .ok (.if_icmp .eq 21, 3) := by decide +kernel
theorem d_mo_raise_16 : decode b_mo_raise 16 = .ok (.iload_n 1, 1) := by decide +kernel
theorem d_mo_raise_17 : decode b_mo_raise 17 = .ok (.bipush 12, 2) := by decide +kernel
theorem d_mo_raise_19 : decode b_mo_raise 19 = .ok (.if_icmp .eq 15, 3) := by decide +kernel
theorem d_mo_raise_22 : decode b_mo_raise 22 = .ok (.iload_n 1, 1) := by decide +kernel
theorem d_mo_raise_23 : decode b_mo_raise 23 = .ok (.bipush 13, 2) := by decide +kernel
theorem d_mo_raise_25 : decode b_mo_raise 25 = .ok (.if_icmp .eq 9, 3) := by decide +kernel
theorem d_mo_raise_28 : decode b_mo_raise 28 = .ok (.iload_n 1, 1) := by decide +kernel
theorem d_mo_raise_29 : decode b_mo_raise 29 = .ok (.bipush 15, 2) := by decide +kernel
theorem d_mo_raise_31 : decode b_mo_raise 31 = .ok (.if_icmp .ne 7, 3) := by decide +kernel
theorem d_mo_raise_34 : decode b_mo_raise 34 = .ok (.iconst 1, 1) := by decide +kernel
theorem d_mo_raise_35 : decode b_mo_raise 35 = .ok (.goto 4, 3) := by decide +kernel
theorem d_mo_raise_38 : decode b_mo_raise 38 = .ok (.iconst 0, 1) := by decide +kernel
theorem d_mo_raise_39 : decode b_mo_raise 39 = .ok (.istore_n 2, 1) := by decide +kernel
theorem d_mo_raise_40 : decode b_mo_raise 40 = .ok (.aload_n 0, 1) := by decide +kernel
theorem d_mo_raise_41 : decode b_mo_raise 41 = .ok (.iload_n 2, 1) := by decide +kernel
theorem d_mo_raise_42 : decode b_mo_raise 42 = .ok (.ifCond .eq 7, 3) := by decide +kernel
theorem d_mo_raise_45 : decode b_mo_raise 45 = .ok (.iconst 0, 1) := by decide +kernel
theorem d_mo_raise_46 : decode b_mo_raise 46 = .ok (.goto 4, 3) := by decide +kernel
theorem d_mo_raise_49 : decode b_mo_raise 49 = .ok (.iconst 1, 1) := by decide +kernel
theorem d_mo_raise_50 : decode b_mo_raise 50 = .ok (.putfield 54, 3) := by decide +kernel
theorem d_mo_raise_53 : decode b_mo_raise 53 = .ok (.iload_n 2, 1) := by decide +kernel
theorem d_mo_raise_54 : decode b_mo_raise 54 = .ok (.ifCond .eq 9, 3) := by decide +kernel
theorem d_mo_raise_57 : decode b_mo_raise 57 = .ok (.aload_n 0, 1) := by decide +kernel
theorem d_mo_raise_58 : decode b_mo_raise 58 = .ok (.iload_n 1, 1) := by decide +kernel
theorem d_mo_raise_59 : decode b_mo_raise 59 = .ok (.iconst 0, 1) := by decide +kernel
theorem d_mo_raise_60 : decode b_mo_raise 60 = .ok (.invokevirtual 105, 3) := by decide +kernel
theorem d_mo_raise_63 : decode b_mo_raise 63 = .ok (.iload_n 2, 1) := by decide +kernel
theorem d_mo_raise_64 : decode b_mo_raise 64 = .ok (.ifCond .eq 10, 3) := by decide +kernel
theorem d_mo_raise_67 : decode b_mo_raise 67 = .ok (.aload_n 0, 1) := by decide +kernel
theorem d_mo_raise_68 : decode b_mo_raise 68 = .ok (.getfield 7, 3) := by decide +kernel
theorem d_mo_raise_71 : decode b_mo_raise 71 = .ok (.goto 4, 3) := by decide +kernel
theorem d_mo_raise_74 : decode b_mo_raise 74 = .ok (.iconst 0, 1) := by decide +kernel
theorem d_mo_raise_75 : decode b_mo_raise 75 = .ok (.ireturn, 1) := by decide +kernel
theorem d_mo_leave_0 : decode b_mo_leave 0 = .ok (.aload_n 0, 1) := by decide +kernel
theorem d_mo_leave_1 : decode b_mo_leave 1 = .ok (.iload_n 1, 1) := by decide +kernel
theorem d_mo_leave_2 : decode b_mo_leave 2 = .ok (.ifCond .eq 11, 3) := by decide +kernel
theorem d_mo_leave_5 : decode b_mo_leave 5 = .ok (.aload_n 0, 1) := by decide +kernel
theorem d_mo_leave_6 : decode b_mo_leave 6 = .ok (.getfield 7, 3) := by decide +kernel
theorem d_mo_leave_9 : decode b_mo_leave 9 = .ok (.iconst 3, 1) := by decide +kernel
theorem d_mo_leave_10 : decode b_mo_leave 10 = .ok (.if_icmp .lt 10, 3) := by decide +kernel
theorem d_mo_leave_13 : decode b_mo_leave 13 = .ok (.aload_n 0, 1) := by decide +kernel
theorem d_mo_leave_14 : decode b_mo_leave 14 = .ok (.getfield 7, 3) := by decide +kernel
theorem d_mo_leave_17 : decode b_mo_leave 17 = .ok (.ifCond .ne 7, 3) := by decide +kernel
theorem d_mo_leave_20 : decode b_mo_leave 20 = .ok (.iconst 1, 1) := by decide +kernel
theorem d_mo_leave_21 : decode b_mo_leave 21 = .ok (.goto 4, 3) := by decide +kernel
theorem d_mo_leave_24 : decode b_mo_leave 24 = .ok (.iconst 0, 1) := by decide +kernel
theorem d_mo_leave_25 : decode b_mo_leave 25 = .ok (.putfield 54, 3) := by decide +kernel
theorem d_mo_leave_28 : decode b_mo_leave 28 = .ok (.aload_n 0, 1) := by decide +kernel
theorem d_mo_leave_29 : decode b_mo_leave 29 = .ok (.getfield 54, 3) := by decide +kernel
theorem d_mo_leave_32 : decode b_mo_leave 32 = .ok (.ifCond .le 5, 3) := by decide +kernel
theorem d_mo_leave_35 : decode b_mo_leave 35 = .ok (.iconst 0, 1) := by decide +kernel
theorem d_mo_leave_36 : decode b_mo_leave 36 = .ok (.ireturn, 1) := by decide +kernel
theorem d_mo_leave_37 : decode b_mo_leave 37 = .ok (.iload_n 1, 1) := by decide +kernel
theorem d_mo_leave_38 : decode b_mo_leave 38 = .ok (.ifCond .eq 62, 3) := by decide +kernel
theorem d_mo_leave_41 : decode b_mo_leave 41 = .ok (.aload_n 0, 1) := by decide +kernel
theorem d_mo_leave_42 : decode b_mo_leave 42 = .ok (.aload_n 0, 1) := by decide +kernel
theorem d_mo_leave_43 : decode b_mo_leave 43 = .ok (.getfield 131, 3) := by decide +kernel
theorem d_mo_leave_46 : decode b_mo_leave 46 = .ok (.bipush 11, 2) := by decide +kernel
theorem d_mo_leave_48 : decode b_mo_leave 48 = .ok (.ishr, 1) := by decide +kernel
theorem d_mo_leave_49 : decode b_mo_leave 49 = .ok (.iconst 3, 1) := by decide +kernel
theorem d_mo_leave_50 : decode b_mo_leave 50 = .ok (.iand, 1) := by decide +kernel
theorem d_mo_leave_51 : decode b_mo_leave 51 = .ok (.putfield 7, 3) := by decide +kernel
theorem d_mo_leave_54 : decode b_mo_leave 54 = .ok (.aload_n 0, 1) := by decide +kernel
theorem d_mo_leave_55 : decode b_mo_leave 55 = .ok (.iconst 3, 1) := by decide +kernel
theorem d_mo_leave_56 : decode b_mo_leave 56 = .ok (.aload_n 0, 1) := by decide +kernel
theorem d_mo_leave_57 : decode b_mo_leave 57 = .ok (.bipush 7, 2) := by decide +kernel
theorem d_mo_leave_59 : decode b_mo_leave 59 = .ok (.invokevirtual 152, 3) := by decide +kernel
theorem d_mo_leave_62 : decode b_mo_leave 62 = .ok (.invokevirtual 155, 3) := by decide +kernel
theorem d_mo_leave_65 : decode b_mo_leave 65 = .ok (.aload_n 0, 1) := by decide +kernel
theorem d_mo_leave_66 : decode b_mo_leave 66 = .ok (.bipush 7, 2) := by decide +kernel
theorem d_mo_leave_68 : decode b_mo_leave 68 = .ok (.iconst 1, 1) := by decide +kernel
theorem d_mo_leave_69 : decode b_mo_leave 69 = .ok (.invokevirtual 155, 3) := by decide +kernel
theorem d_mo_leave_72 : decode b_mo_leave 72 = .ok (.aload_n 0, 1) := by decide +kernel
theorem d_mo_leave_73 : decode b_mo_leave 73 = .ok (.aload_n 0, 1) := by decide +kernel
theorem d_mo_leave_74 : decode b_mo_leave 74 = .ok (.getfield 131, 3) := by decide +kernel
theorem d_mo_leave_77 : decode b_mo_leave 77 = .ok (.iconst 0, 1) := by decide +kernel
theorem d_mo_leave_78 : decode b_mo_leave 78 = .ok (.sipush 6144, 3) := by decide +kernel
theorem d_mo_leave_81 : decode b_mo_leave 81 = .ok (.invokestatic 146, 3) := by decide +kernel
theorem d_mo_leave_84 : decode b_mo_leave 84 = .ok (.putfield 131, 3) := by decide +kernel
theorem d_mo_leave_87 : decode b_mo_leave 87 = .ok (.aload_n 0, 1) := by decide +kernel
theorem d_mo_leave_88 : decode b_mo_leave 88 = .ok (.aload_n 0, 1) := by decide +kernel
theorem d_mo_leave_89 : decode b_mo_leave 89 = .ok (.getfield 48, 3) := by decide +kernel
theorem d_mo_leave_92 : decode b_mo_leave 92 = .ok (.iconst 0, 1) := by decide +kernel
theorem d_mo_leave_93 : decode b_mo_leave 93 = .ok (.iaload, 1) := by decide +kernel
theorem d_mo_leave_94 : decode b_mo_leave 94 = .ok (.putfield 109, 3) := by decide +kernel
theorem d_mo_leave_97 : decode b_mo_leave 97 = .ok (.goto 54, 3) := by decide +kernel
theorem d_mo_leave_100 : decode b_mo_leave 100 = .ok (.aload_n 0, 1) := by decide +kernel
theorem d_mo_leave_101 : decode b_mo_leave 101 = .ok (.aload_n 0, 1) := by decide +kernel
theorem d_mo_leave_102 : decode b_mo_leave 102 = .ok (.bipush 8, 2) := by decide +kernel
theorem d_mo_leave_104 : decode b_mo_leave 104 = .ok (.invokevirtual 152, 3) := by decide +kernel
theorem d_mo_leave_107 : decode b_mo_leave 107 = .ok (.ifCond .eq 7, 3) := by decide +kernel
theorem d_mo_leave_110 : decode b_mo_leave 110 = .ok (.iconst 1, 1) := by decide +kernel
theorem d_mo_leave_111 : decode b_mo_leave 111 = .ok (.goto 4, 3) := by decide +kernel
theorem d_mo_leave_114 : decode b_mo_leave 114 = .ok (.iconst 0, 1) := by decide +kernel
theorem d_mo_leave_115 : decode b_mo_leave 115 = .ok (.putfield 7, 3) := by decide +kernel
theorem d_mo_leave_118 : decode b_mo_leave 118 = .ok (.aload_n 0, 1) := by decide +kernel
theorem d_mo_leave_119 : decode b_mo_leave 119 = .ok (.iconst 1, 1) := by decide +kernel
theorem d_mo_leave_120 : decode b_mo_leave 120 = .ok (.aload_n 0, 1) := by decide +kernel
theorem d_mo_leave_121 : decode b_mo_leave 121 = .ok (.iconst 5, 1) := by decide +kernel
theorem d_mo_leave_122 : decode b_mo_leave 122 = .ok (.invokevirtual 152, 3) := by decide +kernel
theorem d_mo_leave_125 : decode b_mo_leave 125 = .ok (.invokevirtual 155, 3) := by decide +kernel
theorem d_mo_leave_128 : decode b_mo_leave 128 = .ok (.aload_n 0, 1) := by decide +kernel
theorem d_mo_leave_129 : decode b_mo_leave 129 = .ok (.iconst 5, 1) := by decide +kernel
theorem d_mo_leave_130 : decode b_mo_leave 130 = .ok (.iconst 1, 1) := by decide +kernel
theorem d_mo_leave_131 : decode b_mo_leave 131 = .ok (.invokevirtual 155, 3) := by decide +kernel
theorem d_mo_leave_134 : decode b_mo_leave 134 = .ok (.aload_n 0, 1) := by decide +kernel
theorem d_mo_leave_135 : decode b_mo_leave 135 = .ok (.bipush 8, 2) := by decide +kernel
theorem d_mo_leave_137 : decode b_mo_leave 137 = .ok (.iconst 0, 1) := by decide +kernel
theorem d_mo_leave_138 : decode b_mo_leave 138 = .ok (.invokevirtual 155, 3) := by decide +kernel
theorem d_mo_leave_141 : decode b_mo_leave 141 = .ok (.aload_n 0, 1) := by decide +kernel
theorem d_mo_leave_142 : decode b_mo_leave 142 = .ok (.aload_n 0, 1) := by decide +kernel
theorem d_mo_leave_143 : decode b_mo_leave 143 = .ok (.getfield 48, 3) := by decide +kernel
theorem d_mo_leave_146 : decode b_mo_leave 146 = .ok (.iconst 1, 1) := by decide +kernel
theorem d_mo_leave_147 : decode b_mo_leave 147 = .ok (.iaload, 1) := by decide +kernel
theorem d_mo_leave_148 : decode b_mo_leave 148 = .ok (.putfield 109, 3) := by decide +kernel
theorem d_mo_leave_151 : decode b_mo_leave 151 = .ok (.aload_n 0, 1) := by decide +kernel
theorem d_mo_leave_152 : decode b_mo_leave 152 = .ok (.getfield 7, 3) := by decide +kernel
theorem d_mo_leave_155 : decode b_mo_leave 155 = .ok (.ireturn, 1) := by decide +kernel
theorem d_mo_privilege_0 : decode b_mo_privilege 0 = .ok (.aload_n 0, 1) := by decide +kernel
theorem d_mo_privilege_1 : decode b_mo_privilege 1 = .ok (.iconst 0, 1) := by decide +kernel
theorem d_mo_privilege_2 : decode b_mo_privilege 2 = .ok (.putfield 54, 3) := by decide +kernel
theorem d_mo_privilege_5 : decode b_mo_privilege 5 = .ok (.aload_n 0, 1) := by decide +kernel
theorem d_mo_privilege_6 : decode b_mo_privilege 6 = .ok (.getfield 7, 3) := by decide +kernel
theorem d_mo_privilege_9 : decode b_mo_privilege 9 = .ok (.ireturn, 1) := by decide +kernel
theorem d_mo_pc_0 : decode b_mo_pc 0 = .ok (.aload_n 0, 1) := by decide +kernel
theorem d_mo_pc_1 : decode b_mo_pc 1 = .ok (.iconst 0, 1) := by decide +kernel
theorem d_mo_pc_2 : decode b_mo_pc 2 = .ok (.putfield 54, 3) := by decide +kernel
theorem d_mo_pc_5 : decode b_mo_pc 5 = .ok (.aload_n 0, 1) := by decide +kernel
theorem d_mo_pc_6 : decode b_mo_pc 6 = .ok (.getfield 109, 3) := by decide +kernel
theorem d_mo_pc_9 : decode b_mo_pc 9 = .ok (.ireturn, 1) := by decide +kernel
theorem d_mo_source_0 : decode b_mo_source 0 = .ok (.aload_n 0, 1) := by decide +kernel
theorem d_mo_source_1 : decode b_mo_source 1 = .ok (.iload_n 1, 1) := by decide +kernel
theorem d_mo_source_2 : decode b_mo_source 2 = .ok (.iconst 1, 1) := by decide +kernel
theorem d_mo_source_3 : decode b_mo_source 3 = .ok (.if_icmp .lt 9, 3) := by decide +kernel
theorem d_mo_source_6 : decode b_mo_source 6 = .ok (.iload_n 1, 1) := by decide +kernel
theorem d_mo_source_7 : decode b_mo_source 7 = .ok (.bipush 15, 2) := by decide +kernel
theorem d_mo_source_9 : decode b_mo_source 9 = .ok (.if_icmp .le 7, 3) := by decide +kernel
theorem d_mo_source_12 : decode b_mo_source 12 = .ok (.iconst 1, 1) := by decide +kernel
theorem d_mo_source_13 : decode b_mo_source 13 = .ok (.goto 4, 3) := by decide +kernel
theorem d_mo_source_16 : decode b_mo_source 16 = .ok (.iconst 0, 1) := by decide +kernel
theorem d_mo_source_17 : decode b_mo_source 17 = .ok (.putfield 54, 3) := by decide +kernel
theorem d_mo_source_20 : decode b_mo_source 20 = .ok (.aload_n 0, 1) := by decide +kernel
theorem d_mo_source_21 : decode b_mo_source 21 = .ok (.getfield 54, 3) := by decide +kernel
theorem d_mo_source_24 : decode b_mo_source 24 = .ok (.ifCond .le 7, 3) := by decide +kernel
theorem d_mo_source_27 : decode b_mo_source 27 = .ok (.iconst 0, 1) := by decide +kernel
theorem d_mo_source_28 : decode b_mo_source 28 = .ok (.goto 18, 3) := by decide +kernel
theorem d_mo_source_31 : decode b_mo_source 31 = .ok (.aload_n 0, 1) := by decide +kernel
theorem d_mo_source_32 : decode b_mo_source 32 = .ok (.getfield 27, 3) := by decide +kernel
theorem d_mo_source_35 : decode b_mo_source 35 = .ok (.iload_n 1, 1) := by decide +kernel
theorem d_mo_source_36 : decode b_mo_source 36 = .ok (.iaload, 1) := by decide +kernel
theorem d_mo_source_37 : decode b_mo_source 37 = .ok (.iconst 4, 1) := by decide +kernel
theorem d_mo_source_38 : decode b_mo_source 38 = .ok (.aload_n 0, 1) := by decide +kernel
theorem d_mo_source_39 : decode b_mo_source 39 = .ok (.getfield 30, 3) := by decide +kernel
theorem d_mo_source_42 : decode b_mo_source 42 = .ok (.iload_n 1, 1) := by decide +kernel
theorem d_mo_source_43 : decode b_mo_source 43 = .ok (.iaload, 1) := by decide +kernel
theorem d_mo_source_44 : decode b_mo_source 44 = .ok (.imul, 1) := by decide +kernel
theorem d_mo_source_45 : decode b_mo_source 45 = .ok (.iadd, 1) := by decide +kernel
theorem d_mo_source_46 : decode b_mo_source 46 = .ok (.ireturn, 1) := by decide +kernel
theorem d_ct_init_0 : decode b_ct_init 0 = .ok (.aload_n 0, 1) := by decide +kernel
theorem d_ct_init_1 : decode b_ct_init 1 = .ok (.invokespecial 1, 3) := by decide +kernel
theorem d_ct_init_4 : decode b_ct_init 4 = .ok (.aload_n 0, 1) := by decide +kernel
theorem d_ct_init_5 : decode b_ct_init 5 = .ok (.aload_n 1, 1) := by decide +kernel
theorem d_ct_init_6 : decode b_ct_init 6 = .ok (.putfield 7, 3) := by decide +kernel
theorem d_ct_init_9 : decode b_ct_init 9 = .ok (.aload_n 0, 1) := by decide +kernel
theorem d_ct_init_10 : decode b_ct_init 10 = .ok (.iload_n 2, 1) := by decide +kernel
theorem d_ct_init_11 : decode b_ct_init 11 = .ok (.iconst 1, 1) := by decide +kernel
theorem d_ct_init_12 : decode b_ct_init 12 = .ok (.iadd, 1) := by decide +kernel
theorem d_ct_init_13 : decode b_ct_init 13 = .ok (.putfield 13, 3) := by decide +kernel
theorem d_ct_init_16 : decode b_ct_init 16 = .ok (.return_, 1) := by decide +kernel
theorem d_ct_claim_0 : decode b_ct_claim 0 = .ok (.aload_n 0, 1) := by decide +kernel
theorem d_ct_claim_1 : decode b_ct_claim 1 = .ok (.getfield 7, 3) := by decide +kernel
theorem d_ct_claim_4 : decode b_ct_claim 4 = .ok (.aload_n 0, 1) := by decide +kernel
theorem d_ct_claim_5 : decode b_ct_claim 5 = .ok (.getfield 17, 3) := by decide +kernel
theorem d_ct_claim_8 : decode b_ct_claim 8 = .ok (.iconst 0, 1) := by decide +kernel
theorem d_ct_claim_9 : decode b_ct_claim 9 = .ok (.invokevirtual 20, 3) := by decide +kernel
theorem d_ct_claim_12 : decode b_ct_claim 12 = .ok (.istore_n 1, 1) := by decide +kernel
theorem d_ct_claim_13 : decode b_ct_claim 13 = .ok (.iload_n 1, 1) := by decide +kernel
theorem d_ct_claim_14 : decode b_ct_claim 14 = .ok (.ifCond .eq 15, 3) := by decide +kernel
theorem d_ct_claim_17 : decode b_ct_claim 17 = .ok (.aload_n 0, 1) := by decide +kernel
theorem d_ct_claim_18 : decode b_ct_claim 18 = .ok (.getfield 7, 3) := by decide +kernel
theorem d_ct_claim_21 : decode b_ct_claim 21 = .ok (.iload_n 1, 1) := by decide +kernel
theorem d_ct_claim_22 : decode b_ct_claim 22 = .ok (.aload_n 0, 1) := by decide +kernel
theorem d_ct_claim_23 : decode b_ct_claim 23 = .ok (.getfield 13, 3) := by decide +kernel
theorem d_ct_claim_26 : decode b_ct_claim 26 = .ok (.invokevirtual 26, 3) := by decide +kernel
theorem d_ct_claim_29 : decode b_ct_claim 29 = .ok (.iload_n 1, 1) := by decide +kernel
theorem d_ct_claim_30 : decode b_ct_claim 30 = .ok (.ireturn, 1) := by decide +kernel
theorem d_ct_complete_0 : decode b_ct_complete 0 = .ok (.iload_n 1, 1) := by decide +kernel
theorem d_ct_complete_1 : decode b_ct_complete 1 = .ok (.iconst 1, 1) := by decide +kernel
theorem d_ct_complete_2 : decode b_ct_complete 2 = .ok (.if_icmp .lt 28, 3) := by decide +kernel
theorem d_ct_complete_5 : decode b_ct_complete 5 = .ok (.iload_n 1, 1) := by decide +kernel
theorem d_ct_complete_6 : decode b_ct_complete 6 = .ok (.bipush 15, 2) := by decide +kernel
theorem d_ct_complete_8 : decode b_ct_complete 8 = .ok (.if_icmp .gt 22, 3) := by decide +kernel
theorem d_ct_complete_11 : decode b_ct_complete 11 = .ok (.aload_n 0, 1) := by decide +kernel
theorem d_ct_complete_12 : decode b_ct_complete 12 = .ok (.getfield 17, 3) := by decide +kernel
theorem d_ct_complete_15 : decode b_ct_complete 15 = .ok (.iload_n 1, 1) := by decide +kernel
theorem d_ct_complete_16 : decode b_ct_complete 16 = .ok (.invokestatic 30, 3) := by decide +kernel
theorem d_ct_complete_19 : decode b_ct_complete 19 = .ok (.ifCond .eq 11, 3) := by decide +kernel
theorem d_ct_complete_22 : decode b_ct_complete 22 = .ok (.aload_n 0, 1) := by decide +kernel
theorem d_ct_complete_23 : decode b_ct_complete 23 = .ok (.getfield 7, 3) := by decide +kernel
theorem d_ct_complete_26 : decode b_ct_complete 26 = .ok (.iload_n 1, 1) := by decide +kernel
theorem d_ct_complete_27 : decode b_ct_complete 27 = .ok (.invokevirtual 36, 3) := by decide +kernel
theorem d_ct_complete_30 : decode b_ct_complete 30 = .ok (.return_, 1) := by decide +kernel
theorem d_ct_isCalling_0 : decode b_ct_isCalling 0 = .ok (.aload_n 0, 1) := by decide +kernel
theorem d_ct_isCalling_1 : decode b_ct_isCalling 1 = .ok (.getfield 7, 3) := by decide +kernel
theorem d_ct_isCalling_4 : decode b_ct_isCalling 4 = .ok (.aload_n 0, 1) := by decide +kernel
theorem d_ct_isCalling_5 : decode b_ct_isCalling 5 = .ok (.getfield 17, 3) := by decide +kernel
theorem d_ct_isCalling_8 : decode b_ct_isCalling 8 = .ok (.aload_n 0, 1) := by decide +kernel
theorem d_ct_isCalling_9 : decode b_ct_isCalling 9 = .ok (.getfield 40, 3) := by decide +kernel
theorem d_ct_isCalling_12 : decode b_ct_isCalling 12 = .ok (.invokevirtual 20, 3) := by decide +kernel
theorem d_ct_isCalling_15 : decode b_ct_isCalling 15 = .ok (.ifCond .eq 7, 3) := by decide +kernel
theorem d_ct_isCalling_18 : decode b_ct_isCalling 18 = .ok (.iconst 1, 1) := by decide +kernel
theorem d_ct_isCalling_19 : decode b_ct_isCalling 19 = .ok (.goto 4, 3) := by decide +kernel
theorem d_ct_isCalling_22 : decode b_ct_isCalling 22 = .ok (.iconst 0, 1) := by decide +kernel
theorem d_ct_isCalling_23 : decode b_ct_isCalling 23 = .ok (.ireturn, 1) := by decide +kernel
theorem d_dv_init_0 : decode b_dv_init 0 = .ok (.aload_n 0, 1) := by decide +kernel
theorem d_dv_init_1 : decode b_dv_init 1 = .ok (.invokespecial 1, 3) := by decide +kernel
theorem d_dv_init_4 : decode b_dv_init 4 = .ok (.aload_n 0, 1) := by decide +kernel
theorem d_dv_init_5 : decode b_dv_init 5 = .ok (.new 7, 3) := by decide +kernel
theorem d_dv_init_8 : decode b_dv_init 8 = .ok (.dup, 1) := by decide +kernel
theorem d_dv_init_9 : decode b_dv_init 9 = .ok (.iload_n 1, 1) := by decide +kernel
theorem d_dv_init_10 : decode b_dv_init 10 = .ok (.invokespecial 9, 3) := by decide +kernel
theorem d_dv_init_13 : decode b_dv_init 13 = .ok (.putfield 12, 3) := by decide +kernel
theorem d_dv_init_16 : decode b_dv_init 16 = .ok (.aload_n 0, 1) := by decide +kernel
theorem d_dv_init_17 : decode b_dv_init 17 = .ok (.new 18, 3) := by decide +kernel
theorem d_dv_init_20 : decode b_dv_init 20 = .ok (.dup, 1) := by decide +kernel
theorem d_dv_init_21 : decode b_dv_init 21 = .ok (.aload_n 0, 1) := by decide +kernel
theorem d_dv_init_22 : decode b_dv_init 22 = .ok (.getfield 12, 3) := by decide +kernel
theorem d_dv_init_25 : decode b_dv_init 25 = .ok (.iconst 0, 1) := by decide +kernel
theorem d_dv_init_26 : decode b_dv_init 26 = .ok (.invokespecial 20, 3) := by decide +kernel
theorem d_dv_init_29 : decode b_dv_init 29 = .ok (.putfield 23, 3) := by decide +kernel
theorem d_dv_init_32 : decode b_dv_init 32 = .ok (.aload_n 0, 1) := by decide +kernel
theorem d_dv_init_33 : decode b_dv_init 33 = .ok (.new 18, 3) := by decide +kernel
theorem d_dv_init_36 : decode b_dv_init 36 = .ok (.dup, 1) := by decide +kernel
theorem d_dv_init_37 : decode b_dv_init 37 = .ok (.aload_n 0, 1) := by decide +kernel
theorem d_dv_init_38 : decode b_dv_init 38 = .ok (.getfield 12, 3) := by decide +kernel
theorem d_dv_init_41 : decode b_dv_init 41 = .ok (.iconst 1, 1) := by decide +kernel
theorem d_dv_init_42 : decode b_dv_init 42 = .ok (.invokespecial 20, 3) := by decide +kernel
theorem d_dv_init_45 : decode b_dv_init 45 = .ok (.putfield 27, 3) := by decide +kernel
theorem d_dv_init_48 : decode b_dv_init 48 = .ok (.aload_n 0, 1) := by decide +kernel
theorem d_dv_init_49 : decode b_dv_init 49 = .ok (.new 30, 3) := by decide +kernel
theorem d_dv_init_52 : decode b_dv_init 52 = .ok (.dup, 1) := by decide +kernel
theorem d_dv_init_53 : decode b_dv_init 53 = .ok (.invokespecial 32, 3) := by decide +kernel
theorem d_dv_init_56 : decode b_dv_init 56 = .ok (.putfield 33, 3) := by decide +kernel
theorem d_dv_init_59 : decode b_dv_init 59 = .ok (.return_, 1) := by decide +kernel
theorem d_dv_faultAt_0 : decode b_dv_faultAt 0 = .ok (.iload_n 0, 1) := by decide +kernel
theorem d_dv_faultAt_1 : decode b_dv_faultAt 1 = .ok (.iconst 3, 1) := by decide +kernel
theorem d_dv_faultAt_2 : decode b_dv_faultAt 2 = .ok (.iand, 1) := by decide +kernel
theorem d_dv_faultAt_3 : decode b_dv_faultAt 3 = .ok (.ifCond .eq 5, 3) := by decide +kernel
theorem d_dv_faultAt_6 : decode b_dv_faultAt 6 = .ok (.iconst 1, 1) := by decide +kernel
theorem d_dv_faultAt_7 : decode b_dv_faultAt 7 = .ok (.ireturn, 1) := by decide +kernel
theorem d_dv_faultAt_8 : decode b_dv_faultAt 8 = .ok (.iload_n 0, 1) := by decide +kernel
theorem d_dv_faultAt_9 : decode b_dv_faultAt 9 = .ok (.invokestatic 37, 3) := by decide +kernel
theorem d_dv_faultAt_12 : decode b_dv_faultAt 12 = .ok (.ifCond .ne 5, 3) := by decide +kernel
theorem d_dv_faultAt_15 : decode b_dv_faultAt 15 = .ok (.iconst 2, 1) := by decide +kernel
theorem d_dv_faultAt_16 : decode b_dv_faultAt 16 = .ok (.ireturn, 1) := by decide +kernel
theorem d_dv_faultAt_17 : decode b_dv_faultAt 17 = .ok (.iload_n 1, 1) := by decide +kernel
theorem d_dv_faultAt_18 : decode b_dv_faultAt 18 = .ok (.ifCond .eq 13, 3) := by decide +kernel
theorem d_dv_faultAt_21 : decode b_dv_faultAt 21 = .ok (.iload_n 0, 1) := by decide +kernel
theorem d_dv_faultAt_22 : decode b_dv_faultAt 22 = .ok (.bipush 64, 2) := by decide +kernel
theorem d_dv_faultAt_24 : decode b_dv_faultAt 24 = .ok (.if_icmp .ne 7, 3) := by decide +kernel
theorem d_dv_faultAt_27 : decode b_dv_faultAt 27 = .ok (.iconst 3, 1) := by decide +kernel
theorem d_dv_faultAt_28 : decode b_dv_faultAt 28 = .ok (.goto 4, 3) := by decide +kernel
theorem d_dv_faultAt_31 : decode b_dv_faultAt 31 = .ok (.iconst 0, 1) := by decide +kernel
theorem d_dv_faultAt_32 : decode b_dv_faultAt 32 = .ok (.ireturn, 1) := by decide +kernel
theorem d_dv_isWord_0 : decode b_dv_isWord 0 = .ok (.iload_n 0, 1) := by decide +kernel
theorem d_dv_isWord_1 : decode b_dv_isWord 1 = .ok (.invokestatic 41, 3) := by decide +kernel
theorem d_dv_isWord_4 : decode b_dv_isWord 4 = .ok (.ifCond .ne 51, 3) := by decide +kernel
theorem d_dv_isWord_7 : decode b_dv_isWord 7 = .ok (.iload_n 0, 1) := by decide +kernel
theorem d_dv_isWord_8 : decode b_dv_isWord 8 = .ok (.bipush 64, 2) := by decide +kernel
theorem d_dv_isWord_10 : decode b_dv_isWord 10 = .ok (.if_icmp .eq 45, 3) := by decide +kernel
theorem d_dv_isWord_13 : decode b_dv_isWord 13 = .ok (.iload_n 0, 1) := by decide +kernel
theorem d_dv_isWord_14 : decode b_dv_isWord 14 = .ok (.sipush 128, 3) := by decide +kernel
theorem d_dv_isWord_17 : decode b_dv_isWord 17 = .ok (.if_icmp .lt 10, 3) := by decide +kernel
theorem d_dv_isWord_20 : decode b_dv_isWord 20 = .ok (.iload_n 0, 1) := by decide +kernel
theorem d_dv_isWord_21 : decode b_dv_isWord 21 = .ok (.sipush 136, 3) := by decide +kernel
theorem d_dv_isWord_24 : decode b_dv_isWord 24 = .ok (.if_icmp .le 31, 3) := by decide +kernel
theorem d_dv_isWord_27 : decode b_dv_isWord 27 = .ok (.iload_n 0, 1) := by decide +kernel
theorem d_dv_isWord_28 : decode b_dv_isWord 28 = .ok (.sipush 144, 3) := by decide +kernel
theorem d_dv_isWord_31 : decode b_dv_isWord 31 = .ok (.if_icmp .lt 10, 3) := by decide +kernel
theorem d_dv_isWord_34 : decode b_dv_isWord 34 = .ok (.iload_n 0, 1) := by decide +kernel
theorem d_dv_isWord_35 : decode b_dv_isWord 35 = .ok (.sipush 152, 3) := by decide +kernel
theorem d_dv_isWord_38 : decode b_dv_isWord 38 = .ok (.if_icmp .le 17, 3) := by decide +kernel
theorem d_dv_isWord_41 : decode b_dv_isWord 41 = .ok (.iload_n 0, 1) := by decide +kernel
theorem d_dv_isWord_42 : decode b_dv_isWord 42 = .ok (.sipush 192, 3) := by decide +kernel
theorem d_dv_isWord_45 : decode b_dv_isWord 45 = .ok (.if_icmp .lt 14, 3) := by decide +kernel
theorem d_dv_isWord_48 : decode b_dv_isWord 48 = .ok (.iload_n 0, 1) := by decide +kernel
theorem d_dv_isWord_49 : decode b_dv_isWord 49 = .ok (.sipush 208, 3) := by decide +kernel
theorem d_dv_isWord_52 : decode b_dv_isWord 52 = .ok (.if_icmp .gt 7, 3) := by decide +kernel
theorem d_dv_isWord_55 : decode b_dv_isWord 55 = .ok (.iconst 1, 1) := by decide +kernel
theorem d_dv_isWord_56 : decode b_dv_isWord 56 = .ok (.goto 4, 3) := by decide +kernel
theorem d_dv_isWord_59 : decode b_dv_isWord 59 = .ok (.iconst 0, 1) := by decide +kernel
theorem d_dv_isWord_60 : decode b_dv_isWord 60 = .ok (.ireturn, 1) := by decide +kernel
theorem d_dv_isPriority_0 : decode b_dv_isPriority 0 = .ok (.iload_n 0, 1) := by decide +kernel
theorem d_dv_isPriority_1 : decode b_dv_isPriority 1 = .ok (.iconst 4, 1) := by decide +kernel
theorem d_dv_isPriority_2 : decode b_dv_isPriority 2 = .ok (.if_icmp .lt 13, 3) := by decide +kernel
theorem d_dv_isPriority_5 : decode b_dv_isPriority 5 = .ok (.iload_n 0, 1) := by decide +kernel
theorem d_dv_isPriority_6 : decode b_dv_isPriority 6 = .ok (.bipush 60, 2) := by decide +kernel
theorem d_dv_isPriority_8 : decode b_dv_isPriority 8 = .ok (.if_icmp .gt 7, 3) := by decide +kernel
theorem d_dv_isPriority_11 : decode b_dv_isPriority 11 = .ok (.iconst 1, 1) := by decide +kernel
theorem d_dv_isPriority_12 : decode b_dv_isPriority 12 = .ok (.goto 4, 3) := by decide +kernel
theorem d_dv_isPriority_15 : decode b_dv_isPriority 15 = .ok (.iconst 0, 1) := by decide +kernel
theorem d_dv_isPriority_16 : decode b_dv_isPriority 16 = .ok (.ireturn, 1) := by decide +kernel
theorem d_dv_readWord_0 : decode b_dv_readWord 0 = .ok (.iload_n 1, 1) := by decide +kernel
theorem d_dv_readWord_1 : decode b_dv_readWord 1 = .ok (.invokestatic 41, 3) := by decide +kernel
theorem d_dv_readWord_4 : decode b_dv_readWord 4 = .ok (.ifCond .eq 15, 3) := by decide +kernel
theorem d_dv_readWord_7 : decode b_dv_readWord 7 = .ok (.aload_n 0, 1) := by decide +kernel
theorem d_dv_readWord_8 : decode b_dv_readWord 8 = .ok (.getfield 12, 3) := by decide +kernel
theorem d_dv_readWord_11 : decode b_dv_readWord 11 = .ok (.getfield 44, 3) := by decide +kernel
theorem d_dv_readWord_14 : decode b_dv_readWord 14 = .ok (.iload_n 1, 1) := by decide +kernel
theorem d_dv_readWord_15 : decode b_dv_readWord 15 = .ok (.iconst 2, 1) := by decide +kernel
theorem d_dv_readWord_16 : decode b_dv_readWord 16 = .ok (.ishr, 1) := by decide +kernel
theorem d_dv_readWord_17 : decode b_dv_readWord 17 = .ok (.iaload, 1) := by decide +kernel
theorem d_dv_readWord_18 : decode b_dv_readWord 18 = .ok (.ireturn, 1) := by decide +kernel
theorem d_dv_readWord_19 : decode b_dv_readWord 19 = .ok (.iload_n 1, 1) := by decide +kernel
theorem d_dv_readWord_20 : decode b_dv_readWord 20 = .ok (.lookupswitch 214 #[(64, 108), (128, 116), (132, 124), (136, 132), (144, 140), (148, 148), (152, 156), (192, 164), (196, 172), (200, 181), (204, 193), (208, 202)], 108) := by decide +kernel
theorem d_dv_readWord_128 : decode b_dv_readWord 128 = .ok (.aload_n 0, 1) := by decide +kernel
theorem d_dv_readWord_129 : decode b_dv_readWord 129 = .ok (.getfield 12, 3) := by decide +kernel
theorem d_dv_readWord_132 : decode b_dv_readWord 132 = .ok (.getfield 48, 3) := by decide +kernel
theorem d_dv_readWord_135 : decode b_dv_readWord 135 = .ok (.ireturn, 1) := by decide +kernel
theorem d_dv_readWord_136 : decode b_dv_readWord 136 = .ok (.aload_n 0, 1) := by decide +kernel
theorem d_dv_readWord_137 : decode b_dv_readWord 137 = .ok (.getfield 23, 3) := by decide +kernel
theorem d_dv_readWord_140 : decode b_dv_readWord 140 = .ok (.getfield 52, 3) := by decide +kernel
theorem d_dv_readWord_143 : decode b_dv_readWord 143 = .ok (.ireturn, 1) := by decide +kernel
theorem d_dv_readWord_144 : decode b_dv_readWord 144 = .ok (.aload_n 0, 1) := by decide +kernel
theorem d_dv_readWord_145 : decode b_dv_readWord 145 = .ok (.getfield 23, 3) := by decide +kernel
theorem d_dv_readWord_148 : decode b_dv_readWord 148 = .ok (.getfield 55, 3) := by decide +kernel
theorem d_dv_readWord_151 : decode b_dv_readWord 151 = .ok (.ireturn, 1) := by decide +kernel
theorem d_dv_readWord_152 : decode b_dv_readWord 152 = .ok (.aload_n 0, 1) := by decide +kernel
theorem d_dv_readWord_153 : decode b_dv_readWord 153 = .ok (.getfield 23, 3) := by decide +kernel
theorem d_dv_readWord_156 : decode b_dv_readWord 156 = .ok (.invokevirtual 58, 3) := by decide +kernel
theorem d_dv_readWord_159 : decode b_dv_readWord 159 = .ok (.ireturn, 1) := by decide +kernel
theorem d_dv_readWord_160 : decode b_dv_readWord 160 = .ok (.aload_n 0, 1) := by decide +kernel
theorem d_dv_readWord_161 : decode b_dv_readWord 161 = .ok (.getfield 27, 3) := by decide +kernel
theorem d_dv_readWord_164 : decode b_dv_readWord 164 = .ok (.getfield 52, 3) := by decide +kernel
theorem d_dv_readWord_167 : decode b_dv_readWord 167 = .ok (.ireturn, 1) := by decide +kernel
theorem d_dv_readWord_168 : decode b_dv_readWord 168 = .ok (.aload_n 0, 1) := by decide +kernel
theorem d_dv_readWord_169 : decode b_dv_readWord 169 = .ok (.getfield 27, 3) := by decide +kernel
theorem d_dv_readWord_172 : decode b_dv_readWord 172 = .ok (.getfield 55, 3) := by decide +kernel
theorem d_dv_readWord_175 : decode b_dv_readWord 175 = .ok (.ireturn, 1) := by decide +kernel
theorem d_dv_readWord_176 : decode b_dv_readWord 176 = .ok (.aload_n 0, 1) := by decide +kernel
theorem d_dv_readWord_177 : decode b_dv_readWord 177 = .ok (.getfield 27, 3) := by decide +kernel
theorem d_dv_readWord_180 : decode b_dv_readWord 180 = .ok (.invokevirtual 58, 3) := by decide +kernel
theorem d_dv_readWord_183 : decode b_dv_readWord 183 = .ok (.ireturn, 1) := by decide +kernel
theorem d_dv_readWord_184 : decode b_dv_readWord 184 = .ok (.aload_n 0, 1) := by decide +kernel
theorem d_dv_readWord_185 : decode b_dv_readWord 185 = .ok (.getfield 33, 3) := by decide +kernel
theorem d_dv_readWord_188 : decode b_dv_readWord 188 = .ok (.getfield 62, 3) := by decide +kernel
theorem d_dv_readWord_191 : decode b_dv_readWord 191 = .ok (.ireturn, 1) := by decide +kernel
theorem d_dv_readWord_192 : decode b_dv_readWord 192 = .ok (.aload_n 0, 1) := by decide +kernel
theorem d_dv_readWord_193 : decode b_dv_readWord 193 = .ok (.getfield 33, 3) := by decide +kernel
theorem d_dv_readWord_196 : decode b_dv_readWord 196 = .ok (.getfield 65, 3) := by decide +kernel
theorem d_dv_readWord_199 : decode b_dv_readWord 199 = .ok (.l2i, 1) := by decide +kernel
theorem d_dv_readWord_200 : decode b_dv_readWord 200 = .ok (.ireturn, 1) := by decide +kernel
theorem d_dv_readWord_201 : decode b_dv_readWord 201 = .ok (.aload_n 0, 1) := by decide +kernel
theorem d_dv_readWord_202 : decode b_dv_readWord 202 = .ok (.getfield 33, 3) := by decide +kernel
theorem d_dv_readWord_205 : decode b_dv_readWord 205 = .ok (.getfield 65, 3) := by decide +kernel
theorem d_dv_readWord_208 : decode b_dv_readWord 208 = .ok (.bipush 32, 2) := by decide +kernel
theorem d_dv_readWord_210 : decode b_dv_readWord 210 = .ok (.lushr, 1) := by decide +kernel
theorem d_dv_readWord_211 : decode b_dv_readWord 211 = .ok (.l2i, 1) := by decide +kernel
theorem d_dv_readWord_212 : decode b_dv_readWord 212 = .ok (.ireturn, 1) := by decide +kernel
theorem d_dv_readWord_213 : decode b_dv_readWord 213 = .ok (.aload_n 0, 1) := by decide +kernel
theorem d_dv_readWord_214 : decode b_dv_readWord 214 = .ok (.getfield 33, 3) := by decide +kernel
theorem d_dv_readWord_217 : decode b_dv_readWord 217 = .ok (.getfield 69, 3) := by decide +kernel
theorem d_dv_readWord_220 : decode b_dv_readWord 220 = .ok (.l2i, 1) := by decide +kernel
theorem d_dv_readWord_221 : decode b_dv_readWord 221 = .ok (.ireturn, 1) := by decide +kernel
theorem d_dv_readWord_222 : decode b_dv_readWord 222 = .ok (.aload_n 0, 1) := by decide +kernel
theorem d_dv_readWord_223 : decode b_dv_readWord 223 = .ok (.getfield 33, 3) := by decide +kernel
theorem d_dv_readWord_226 : decode b_dv_readWord 226 = .ok (.getfield 69, 3) := by decide +kernel
theorem d_dv_readWord_229 : decode b_dv_readWord 229 = .ok (.bipush 32, 2) := by decide +kernel
theorem d_dv_readWord_231 : decode b_dv_readWord 231 = .ok (.lushr, 1) := by decide +kernel
theorem d_dv_readWord_232 : decode b_dv_readWord 232 = .ok (.l2i, 1) := by decide +kernel
theorem d_dv_readWord_233 : decode b_dv_readWord 233 = .ok (.ireturn, 1) := by decide +kernel
theorem d_dv_readWord_234 : decode b_dv_readWord 234 = .ok (.iconst 0, 1) := by decide +kernel
theorem d_dv_readWord_235 : decode b_dv_readWord 235 = .ok (.ireturn, 1) := by decide +kernel
theorem d_dv_writeWord_0 : decode b_dv_writeWord 0 = .ok (.iload_n 1, 1) := by decide +kernel
theorem d_dv_writeWord_1 : decode b_dv_writeWord 1 = .ok (.invokestatic 41, 3) := by decide +kernel
theorem d_dv_writeWord_4 : decode b_dv_writeWord 4 = .ok (.ifCond .eq 19, 3) := by decide +kernel
theorem d_dv_writeWord_7 : decode b_dv_writeWord 7 = .ok (.aload_n 0, 1) := by decide +kernel
theorem d_dv_writeWord_8 : decode b_dv_writeWord 8 = .ok (.getfield 12, 3) := by decide +kernel
theorem d_dv_writeWord_11 : decode b_dv_writeWord 11 = .ok (.getfield 44, 3) := by decide +kernel
theorem d_dv_writeWord_14 : decode b_dv_writeWord 14 = .ok (.iload_n 1, 1) := by decide +kernel
theorem d_dv_writeWord_15 : decode b_dv_writeWord 15 = .ok (.iconst 2, 1) := by decide +kernel
theorem d_dv_writeWord_16 : decode b_dv_writeWord 16 = .ok (.ishr, 1) := by decide +kernel
theorem d_dv_writeWord_17 : decode b_dv_writeWord 17 = .ok (.iload_n 2, 1) := by decide +kernel
theorem d_dv_writeWord_18 : decode b_dv_writeWord 18 = .ok (.bipush 7, 2) := by decide +kernel
theorem d_dv_writeWord_20 : decode b_dv_writeWord 20 = .ok (.iand, 1) := by decide +kernel
theorem d_dv_writeWord_21 : decode b_dv_writeWord 21 = .ok (.iastore, 1) := by decide +kernel
theorem d_dv_writeWord_22 : decode b_dv_writeWord 22 = .ok (.return_, 1) := by decide +kernel
theorem d_dv_writeWord_23 : decode b_dv_writeWord 23 = .ok (.iload_n 1, 1) := by decide +kernel
theorem d_dv_writeWord_24 : decode b_dv_writeWord 24 = .ok (.lookupswitch 275 #[(128, 100), (132, 114), (136, 128), (144, 139), (148, 153), (152, 167), (192, 178), (196, 191), (200, 212), (204, 233), (208, 254)], 100) := by decide +kernel
theorem d_dv_writeWord_124 : decode b_dv_writeWord 124 = .ok (.aload_n 0, 1) := by decide +kernel
end
section
theorem d_dv_writeWord_125 : decode b_dv_writeWord 125 = .ok (.getfield 23, 3) := by decide +kernel
theorem d_dv_writeWord_128 : decode b_dv_writeWord 128 = .ok (.iload_n 2, 1) := by decide +kernel
theorem d_dv_writeWord_129 : decode b_dv_writeWord 129 = .ok (.ldc 72, 2) := by decide +kernel
theorem d_dv_writeWord_131 : decode b_dv_writeWord 131 = .ok (.iand, 1) := by decide +kernel
theorem d_dv_writeWord_132 : decode b_dv_writeWord 132 = .ok (.putfield 52, 3) := by decide +kernel
theorem d_dv_writeWord_135 : decode b_dv_writeWord 135 = .ok (.goto 164, 3) := by decide +kernel
theorem d_dv_writeWord_138 : decode b_dv_writeWord 138 = .ok (.aload_n 0, 1) := by decide +kernel
theorem d_dv_writeWord_139 : decode b_dv_writeWord 139 = .ok (.getfield 23, 3) := by decide +kernel
theorem d_dv_writeWord_142 : decode b_dv_writeWord 142 = .ok (.iload_n 2, 1) := by decide +kernel
theorem d_dv_writeWord_143 : decode b_dv_writeWord 143 = .ok (.bipush 7, 2) := by decide +kernel
theorem d_dv_writeWord_145 : decode b_dv_writeWord 145 = .ok (.iand, 1) := by decide +kernel
theorem d_dv_writeWord_146 : decode b_dv_writeWord 146 = .ok (.putfield 55, 3) := by decide +kernel
theorem d_dv_writeWord_149 : decode b_dv_writeWord 149 = .ok (.goto 150, 3) := by decide +kernel
theorem d_dv_writeWord_152 : decode b_dv_writeWord 152 = .ok (.aload_n 0, 1) := by decide +kernel
theorem d_dv_writeWord_153 : decode b_dv_writeWord 153 = .ok (.getfield 23, 3) := by decide +kernel
theorem d_dv_writeWord_156 : decode b_dv_writeWord 156 = .ok (.iload_n 2, 1) := by decide +kernel
theorem d_dv_writeWord_157 : decode b_dv_writeWord 157 = .ok (.invokevirtual 73, 3) := by decide +kernel
theorem d_dv_writeWord_160 : decode b_dv_writeWord 160 = .ok (.goto 139, 3) := by decide +kernel
theorem d_dv_writeWord_163 : decode b_dv_writeWord 163 = .ok (.aload_n 0, 1) := by decide +kernel
theorem d_dv_writeWord_164 : decode b_dv_writeWord 164 = .ok (.getfield 27, 3) := by decide +kernel
theorem d_dv_writeWord_167 : decode b_dv_writeWord 167 = .ok (.iload_n 2, 1) := by decide +kernel
theorem d_dv_writeWord_168 : decode b_dv_writeWord 168 = .ok (.ldc 72, 2) := by decide +kernel
theorem d_dv_writeWord_170 : decode b_dv_writeWord 170 = .ok (.iand, 1) := by decide +kernel
theorem d_dv_writeWord_171 : decode b_dv_writeWord 171 = .ok (.putfield 52, 3) := by decide +kernel
theorem d_dv_writeWord_174 : decode b_dv_writeWord 174 = .ok (.goto 125, 3) := by decide +kernel
theorem d_dv_writeWord_177 : decode b_dv_writeWord 177 = .ok (.aload_n 0, 1) := by decide +kernel
theorem d_dv_writeWord_178 : decode b_dv_writeWord 178 = .ok (.getfield 27, 3) := by decide +kernel
theorem d_dv_writeWord_181 : decode b_dv_writeWord 181 = .ok (.iload_n 2, 1) := by decide +kernel
theorem d_dv_writeWord_182 : decode b_dv_writeWord 182 = .ok (.bipush 7, 2) := by decide +kernel
theorem d_dv_writeWord_184 : decode b_dv_writeWord 184 = .ok (.iand, 1) := by decide +kernel
theorem d_dv_writeWord_185 : decode b_dv_writeWord 185 = .ok (.putfield 55, 3) := by decide +kernel
theorem d_dv_writeWord_188 : decode b_dv_writeWord 188 = .ok (.goto 111, 3) := by decide +kernel
theorem d_dv_writeWord_191 : decode b_dv_writeWord 191 = .ok (.aload_n 0, 1) := by decide +kernel
theorem d_dv_writeWord_192 : decode b_dv_writeWord 192 = .ok (.getfield 27, 3) := by decide +kernel
theorem d_dv_writeWord_195 : decode b_dv_writeWord 195 = .ok (.iload_n 2, 1) := by decide +kernel
theorem d_dv_writeWord_196 : decode b_dv_writeWord 196 = .ok (.invokevirtual 73, 3) := by decide +kernel
theorem d_dv_writeWord_199 : decode b_dv_writeWord 199 = .ok (.goto 100, 3) := by decide +kernel
theorem d_dv_writeWord_202 : decode b_dv_writeWord 202 = .ok (.aload_n 0, 1) := by decide +kernel
theorem d_dv_writeWord_203 : decode b_dv_writeWord 203 = .ok (.getfield 33, 3) := by decide +kernel
theorem d_dv_writeWord_206 : decode b_dv_writeWord 206 = .ok (.iload_n 2, 1) := by decide +kernel
theorem d_dv_writeWord_207 : decode b_dv_writeWord 207 = .ok (.iconst 1, 1) := by decide +kernel
theorem d_dv_writeWord_208 : decode b_dv_writeWord 208 = .ok (.iand, 1) := by decide +kernel
theorem d_dv_writeWord_209 : decode b_dv_writeWord 209 = .ok (.putfield 62, 3) := by decide +kernel
theorem d_dv_writeWord_212 : decode b_dv_writeWord 212 = .ok (.goto 87, 3) := by decide +kernel
theorem d_dv_writeWord_215 : decode b_dv_writeWord 215 = .ok (.aload_n 0, 1) := by decide +kernel
theorem d_dv_writeWord_216 : decode b_dv_writeWord 216 = .ok (.getfield 33, 3) := by decide +kernel
theorem d_dv_writeWord_219 : decode b_dv_writeWord 219 = .ok (.aload_n 0, 1) := by decide +kernel
theorem d_dv_writeWord_220 : decode b_dv_writeWord 220 = .ok (.getfield 33, 3) := by decide +kernel
theorem d_dv_writeWord_223 : decode b_dv_writeWord 223 = .ok (.getfield 65, 3) := by decide +kernel
theorem d_dv_writeWord_226 : decode b_dv_writeWord 226 = .ok (.iload_n 2, 1) := by decide +kernel
theorem d_dv_writeWord_227 : decode b_dv_writeWord 227 = .ok (.invokestatic 76, 3) := by decide +kernel
theorem d_dv_writeWord_230 : decode b_dv_writeWord 230 = .ok (.putfield 65, 3) := by decide +kernel
theorem d_dv_writeWord_233 : decode b_dv_writeWord 233 = .ok (.goto 66, 3) := by decide +kernel
theorem d_dv_writeWord_236 : decode b_dv_writeWord 236 = .ok (.aload_n 0, 1) := by decide +kernel
theorem d_dv_writeWord_237 : decode b_dv_writeWord 237 = .ok (.getfield 33, 3) := by decide +kernel
theorem d_dv_writeWord_240 : decode b_dv_writeWord 240 = .ok (.aload_n 0, 1) := by decide +kernel
theorem d_dv_writeWord_241 : decode b_dv_writeWord 241 = .ok (.getfield 33, 3) := by decide +kernel
theorem d_dv_writeWord_244 : decode b_dv_writeWord 244 = .ok (.getfield 65, 3) := by decide +kernel
theorem d_dv_writeWord_247 : decode b_dv_writeWord 247 = .ok (.iload_n 2, 1) := by decide +kernel
theorem d_dv_writeWord_248 : decode b_dv_writeWord 248 = .ok (.invokestatic 80, 3) := by decide +kernel
theorem d_dv_writeWord_251 : decode b_dv_writeWord 251 = .ok (.putfield 65, 3) := by decide +kernel
theorem d_dv_writeWord_254 : decode b_dv_writeWord 254 = .ok (.goto 45, 3) := by decide +kernel
theorem d_dv_writeWord_257 : decode b_dv_writeWord 257 = .ok (.aload_n 0, 1) := by decide +kernel
theorem d_dv_writeWord_258 : decode b_dv_writeWord 258 = .ok (.getfield 33, 3) := by decide +kernel
theorem d_dv_writeWord_261 : decode b_dv_writeWord 261 = .ok (.aload_n 0, 1) := by decide +kernel
theorem d_dv_writeWord_262 : decode b_dv_writeWord 262 = .ok (.getfield 33, 3) := by decide +kernel
theorem d_dv_writeWord_265 : decode b_dv_writeWord 265 = .ok (.getfield 69, 3) := by decide +kernel
theorem d_dv_writeWord_268 : decode b_dv_writeWord 268 = .ok (.iload_n 2, 1) := by decide +kernel
theorem d_dv_writeWord_269 : decode b_dv_writeWord 269 = .ok (.invokestatic 76, 3) := by decide +kernel
theorem d_dv_writeWord_272 : decode b_dv_writeWord 272 = .ok (.putfield 69, 3) := by decide +kernel
theorem d_dv_writeWord_275 : decode b_dv_writeWord 275 = .ok (.goto 24, 3) := by decide +kernel
theorem d_dv_writeWord_278 : decode b_dv_writeWord 278 = .ok (.aload_n 0, 1) := by decide +kernel
theorem d_dv_writeWord_279 : decode b_dv_writeWord 279 = .ok (.getfield 33, 3) := by decide +kernel
theorem d_dv_writeWord_282 : decode b_dv_writeWord 282 = .ok (.aload_n 0, 1) := by decide +kernel
theorem d_dv_writeWord_283 : decode b_dv_writeWord 283 = .ok (.getfield 33, 3) := by decide +kernel
theorem d_dv_writeWord_286 : decode b_dv_writeWord 286 = .ok (.getfield 69, 3) := by decide +kernel
theorem d_dv_writeWord_289 : decode b_dv_writeWord 289 = .ok (.iload_n 2, 1) := by decide +kernel
theorem d_dv_writeWord_290 : decode b_dv_writeWord 290 = .ok (.invokestatic 80, 3) := by decide +kernel
theorem d_dv_writeWord_293 : decode b_dv_writeWord 293 = .ok (.putfield 69, 3) := by decide +kernel
theorem d_dv_writeWord_296 : decode b_dv_writeWord 296 = .ok (.goto 3, 3) := by decide +kernel
theorem d_dv_writeWord_299 : decode b_dv_writeWord 299 = .ok (.return_, 1) := by decide +kernel
theorem d_dv_interrupts_0 : decode b_dv_interrupts 0 = .ok (.aload_n 0, 1) := by decide +kernel
theorem d_dv_interrupts_1 : decode b_dv_interrupts 1 = .ok (.getfield 33, 3) := by decide +kernel
theorem d_dv_interrupts_4 : decode b_dv_interrupts 4 = .ok (.getfield 62, 3) := by decide +kernel
theorem d_dv_interrupts_7 : decode b_dv_interrupts 7 = .ok (.iconst 3, 1) := by decide +kernel
theorem d_dv_interrupts_8 : decode b_dv_interrupts 8 = .ok (.ishl, 1) := by decide +kernel
theorem d_dv_interrupts_9 : decode b_dv_interrupts 9 = .ok (.istore_n 1, 1) := by decide +kernel
theorem d_dv_interrupts_10 : decode b_dv_interrupts 10 = .ok (.aload_n 0, 1) := by decide +kernel
theorem d_dv_interrupts_11 : decode b_dv_interrupts 11 = .ok (.getfield 33, 3) := by decide +kernel
theorem d_dv_interrupts_14 : decode b_dv_interrupts 14 = .ok (.invokevirtual 83, 3) := by decide +kernel
theorem d_dv_interrupts_17 : decode b_dv_interrupts 17 = .ok (.ifCond .eq 9, 3) := by decide +kernel
theorem d_dv_interrupts_20 : decode b_dv_interrupts 20 = .ok (.iload_n 1, 1) := by decide +kernel
theorem d_dv_interrupts_21 : decode b_dv_interrupts 21 = .ok (.sipush 128, 3) := by decide +kernel
theorem d_dv_interrupts_24 : decode b_dv_interrupts 24 = .ok (.ior, 1) := by decide +kernel
theorem d_dv_interrupts_25 : decode b_dv_interrupts 25 = .ok (.istore_n 1, 1) := by decide +kernel
theorem d_dv_interrupts_26 : decode b_dv_interrupts 26 = .ok (.aload_n 0, 1) := by decide +kernel
theorem d_dv_interrupts_27 : decode b_dv_interrupts 27 = .ok (.getfield 27, 3) := by decide +kernel
theorem d_dv_interrupts_30 : decode b_dv_interrupts 30 = .ok (.invokevirtual 87, 3) := by decide +kernel
theorem d_dv_interrupts_33 : decode b_dv_interrupts 33 = .ok (.ifCond .eq 9, 3) := by decide +kernel
theorem d_dv_interrupts_36 : decode b_dv_interrupts 36 = .ok (.iload_n 1, 1) := by decide +kernel
theorem d_dv_interrupts_37 : decode b_dv_interrupts 37 = .ok (.sipush 512, 3) := by decide +kernel
theorem d_dv_interrupts_40 : decode b_dv_interrupts 40 = .ok (.ior, 1) := by decide +kernel
theorem d_dv_interrupts_41 : decode b_dv_interrupts 41 = .ok (.istore_n 1, 1) := by decide +kernel
theorem d_dv_interrupts_42 : decode b_dv_interrupts 42 = .ok (.aload_n 0, 1) := by decide +kernel
theorem d_dv_interrupts_43 : decode b_dv_interrupts 43 = .ok (.getfield 23, 3) := by decide +kernel
theorem d_dv_interrupts_46 : decode b_dv_interrupts 46 = .ok (.invokevirtual 87, 3) := by decide +kernel
theorem d_dv_interrupts_49 : decode b_dv_interrupts 49 = .ok (.ifCond .eq 9, 3) := by decide +kernel
theorem d_dv_interrupts_52 : decode b_dv_interrupts 52 = .ok (.iload_n 1, 1) := by decide +kernel
theorem d_dv_interrupts_53 : decode b_dv_interrupts 53 = .ok (.sipush 2048, 3) := by decide +kernel
theorem d_dv_interrupts_56 : decode b_dv_interrupts 56 = .ok (.ior, 1) := by decide +kernel
theorem d_dv_interrupts_57 : decode b_dv_interrupts 57 = .ok (.istore_n 1, 1) := by decide +kernel
theorem d_dv_interrupts_58 : decode b_dv_interrupts 58 = .ok (.iload_n 1, 1) := by decide +kernel
theorem d_dv_interrupts_59 : decode b_dv_interrupts 59 = .ok (.ireturn, 1) := by decide +kernel
theorem d_hd_init_0 : decode b_hd_init 0 = .ok (.aload_n 0, 1) := by decide +kernel
theorem d_hd_init_1 : decode b_hd_init 1 = .ok (.invokespecial 1, 3) := by decide +kernel
theorem d_hd_init_4 : decode b_hd_init 4 = .ok (.return_, 1) := by decide +kernel
theorem d_hd_take_0 : decode b_hd_take 0 = .ok (.aload_n 0, 1) := by decide +kernel
theorem d_hd_take_1 : decode b_hd_take 1 = .ok (.iload_n 1, 1) := by decide +kernel
theorem d_hd_take_2 : decode b_hd_take 2 = .ok (.bipush (-4), 2) := by decide +kernel
theorem d_hd_take_4 : decode b_hd_take 4 = .ok (.iand, 1) := by decide +kernel
theorem d_hd_take_5 : decode b_hd_take 5 = .ok (.putfield 9, 3) := by decide +kernel
theorem d_hd_take_8 : decode b_hd_take 8 = .ok (.aload_n 0, 1) := by decide +kernel
theorem d_hd_take_9 : decode b_hd_take 9 = .ok (.iload_n 3, 1) := by decide +kernel
theorem d_hd_take_10 : decode b_hd_take 10 = .ok (.ifCond .eq 10, 3) := by decide +kernel
theorem d_hd_take_13 : decode b_hd_take 13 = .ok (.iload_n 2, 1) := by decide +kernel
theorem d_hd_take_14 : decode b_hd_take 14 = .ok (.ldc 13, 2) := by decide +kernel
theorem d_hd_take_16 : decode b_hd_take 16 = .ok (.ior, 1) := by decide +kernel
theorem d_hd_take_17 : decode b_hd_take 17 = .ok (.goto 4, 3) := by decide +kernel
theorem d_hd_take_20 : decode b_hd_take 20 = .ok (.iload_n 2, 1) := by decide +kernel
theorem d_hd_take_21 : decode b_hd_take 21 = .ok (.putfield 14, 3) := by decide +kernel
theorem d_hd_take_24 : decode b_hd_take 24 = .ok (.aload_n 0, 1) := by decide +kernel
theorem d_hd_take_25 : decode b_hd_take 25 = .ok (.getfield 17, 3) := by decide +kernel
theorem d_hd_take_28 : decode b_hd_take 28 = .ok (.bipush (-4), 2) := by decide +kernel
theorem d_hd_take_30 : decode b_hd_take 30 = .ok (.iand, 1) := by decide +kernel
theorem d_hd_take_31 : decode b_hd_take 31 = .ok (.istore 4, 2) := by decide +kernel
theorem d_hd_take_33 : decode b_hd_take 33 = .ok (.iload_n 3, 1) := by decide +kernel
theorem d_hd_take_34 : decode b_hd_take 34 = .ok (.ifCond .eq 21, 3) := by decide +kernel
theorem d_hd_take_37 : decode b_hd_take 37 = .ok (.aload_n 0, 1) := by decide +kernel
theorem d_hd_take_38 : decode b_hd_take 38 = .ok (.getfield 17, 3) := by decide +kernel
theorem d_hd_take_41 : decode b_hd_take 41 = .ok (.iconst 1, 1) := by decide +kernel
theorem d_hd_take_42 : decode b_hd_take 42 = .ok (.iand, 1) := by decide +kernel
theorem d_hd_take_43 : decode b_hd_take 43 = .ok (.ifCond .eq 12, 3) := by decide +kernel
theorem d_hd_take_46 : decode b_hd_take 46 = .ok (.iload 4, 2) := by decide +kernel
theorem d_hd_take_48 : decode b_hd_take 48 = .ok (.iconst 4, 1) := by decide +kernel
theorem d_hd_take_49 : decode b_hd_take 49 = .ok (.iload_n 2, 1) := by decide +kernel
theorem d_hd_take_50 : decode b_hd_take 50 = .ok (.imul, 1) := by decide +kernel
theorem d_hd_take_51 : decode b_hd_take 51 = .ok (.iadd, 1) := by decide +kernel
theorem d_hd_take_52 : decode b_hd_take 52 = .ok (.goto 5, 3) := by decide +kernel
theorem d_hd_take_55 : decode b_hd_take 55 = .ok (.iload 4, 2) := by decide +kernel
theorem d_hd_take_57 : decode b_hd_take 57 = .ok (.ireturn, 1) := by decide +kernel
theorem d_rg_init_0 : decode b_rg_init 0 = .ok (.aload_n 0, 1) := by decide +kernel
theorem d_rg_init_1 : decode b_rg_init 1 = .ok (.invokespecial 3, 3) := by decide +kernel
theorem d_rg_init_4 : decode b_rg_init 4 = .ok (.aload_n 0, 1) := by decide +kernel
theorem d_rg_init_5 : decode b_rg_init 5 = .ok (.new 9, 3) := by decide +kernel
theorem d_rg_init_8 : decode b_rg_init 8 = .ok (.dup, 1) := by decide +kernel
theorem d_rg_init_9 : decode b_rg_init 9 = .ok (.invokespecial 11, 3) := by decide +kernel
theorem d_rg_init_12 : decode b_rg_init 12 = .ok (.putfield 12, 3) := by decide +kernel
theorem d_rg_init_15 : decode b_rg_init 15 = .ok (.aload_n 0, 1) := by decide +kernel
theorem d_rg_init_16 : decode b_rg_init 16 = .ok (.new 18, 3) := by decide +kernel
theorem d_rg_init_19 : decode b_rg_init 19 = .ok (.dup, 1) := by decide +kernel
theorem d_rg_init_20 : decode b_rg_init 20 = .ok (.invokespecial 20, 3) := by decide +kernel
theorem d_rg_init_23 : decode b_rg_init 23 = .ok (.putfield 21, 3) := by decide +kernel
theorem d_rg_init_26 : decode b_rg_init 26 = .ok (.aload_n 0, 1) := by decide +kernel
theorem d_rg_init_27 : decode b_rg_init 27 = .ok (.new 18, 3) := by decide +kernel
theorem d_rg_init_30 : decode b_rg_init 30 = .ok (.dup, 1) := by decide +kernel
theorem d_rg_init_31 : decode b_rg_init 31 = .ok (.invokespecial 20, 3) := by decide +kernel
theorem d_rg_init_34 : decode b_rg_init 34 = .ok (.putfield 25, 3) := by decide +kernel
theorem d_rg_init_37 : decode b_rg_init 37 = .ok (.aload_n 0, 1) := by decide +kernel
theorem d_rg_init_38 : decode b_rg_init 38 = .ok (.aload_n 1, 1) := by decide +kernel
theorem d_rg_init_39 : decode b_rg_init 39 = .ok (.putfield 28, 3) := by decide +kernel
theorem d_rg_init_42 : decode b_rg_init 42 = .ok (.return_, 1) := by decide +kernel
theorem d_rg_isThere_0 : decode b_rg_isThere 0 = .ok (.iload_n 0, 1) := by decide +kernel
theorem d_rg_isThere_1 : decode b_rg_isThere 1 = .ok (.lookupswitch 125 #[(256, 123), (260, 123), (261, 123), (321, 123), (322, 123), (324, 123), (768, 123), (770, 123), (771, 123), (772, 123), (773, 123), (833, 123), (834, 123), (836, 123)], 123) := by decide +kernel
theorem d_rg_isThere_124 : decode b_rg_isThere 124 = .ok (.iconst 1, 1) := by decide +kernel
theorem d_rg_isThere_125 : decode b_rg_isThere 125 = .ok (.ireturn, 1) := by decide +kernel
theorem d_rg_isThere_126 : decode b_rg_isThere 126 = .ok (.iconst 0, 1) := by decide +kernel
theorem d_rg_isThere_127 : decode b_rg_isThere 127 = .ok (.ireturn, 1) := by decide +kernel
theorem d_rg_isOfMachine_0 : decode b_rg_isOfMachine 0 = .ok (.iload_n 0, 1) := by decide +kernel
theorem d_rg_isOfMachine_1 : decode b_rg_isOfMachine 1 = .ok (.sipush 768, 3) := by decide +kernel
theorem d_rg_isOfMachine_4 : decode b_rg_isOfMachine 4 = .ok (.if_icmp .lt 7, 3) := by decide +kernel
theorem d_rg_isOfMachine_7 : decode b_rg_isOfMachine 7 = .ok (.iconst 1, 1) := by decide +kernel
theorem d_rg_isOfMachine_8 : decode b_rg_isOfMachine 8 = .ok (.goto 4, 3) := by decide +kernel
theorem d_rg_isOfMachine_11 : decode b_rg_isOfMachine 11 = .ok (.iconst 0, 1) := by decide +kernel
theorem d_rg_isOfMachine_12 : decode b_rg_isOfMachine 12 = .ok (.ireturn, 1) := by decide +kernel
theorem d_rg_firstInterrupt_0 : decode b_rg_firstInterrupt 0 = .ok (.iconst 0, 1) := by decide +kernel
theorem d_rg_firstInterrupt_1 : decode b_rg_firstInterrupt 1 = .ok (.istore_n 1, 1) := by decide +kernel
theorem d_rg_firstInterrupt_2 : decode b_rg_firstInterrupt 2 = .ok (.iload_n 1, 1) := by decide +kernel
theorem d_rg_firstInterrupt_3 : decode b_rg_firstInterrupt 3 = .ok (.getstatic 32, 3) := by decide +kernel
theorem d_rg_firstInterrupt_6 : decode b_rg_firstInterrupt 6 = .ok (.arraylength, 1) := by decide +kernel
theorem d_rg_firstInterrupt_7 : decode b_rg_firstInterrupt 7 = .ok (.if_icmp .ge 27, 3) := by decide +kernel
theorem d_rg_firstInterrupt_10 : decode b_rg_firstInterrupt 10 = .ok (.iload_n 0, 1) := by decide +kernel
theorem d_rg_firstInterrupt_11 : decode b_rg_firstInterrupt 11 = .ok (.getstatic 32, 3) := by decide +kernel
theorem d_rg_firstInterrupt_14 : decode b_rg_firstInterrupt 14 = .ok (.iload_n 1, 1) := by decide +kernel
theorem d_rg_firstInterrupt_15 : decode b_rg_firstInterrupt 15 = .ok (.iaload, 1) := by decide +kernel
theorem d_rg_firstInterrupt_16 : decode b_rg_firstInterrupt 16 = .ok (.invokestatic 36, 3) := by decide +kernel
theorem d_rg_firstInterrupt_19 : decode b_rg_firstInterrupt 19 = .ok (.ifCond .eq 9, 3) := by decide +kernel
theorem d_rg_firstInterrupt_22 : decode b_rg_firstInterrupt 22 = .ok (.getstatic 32, 3) := by decide +kernel
theorem d_rg_firstInterrupt_25 : decode b_rg_firstInterrupt 25 = .ok (.iload_n 1, 1) := by decide +kernel
theorem d_rg_firstInterrupt_26 : decode b_rg_firstInterrupt 26 = .ok (.iaload, 1) := by decide +kernel
theorem d_rg_firstInterrupt_27 : decode b_rg_firstInterrupt 27 = .ok (.ireturn, 1) := by decide +kernel
theorem d_rg_firstInterrupt_28 : decode b_rg_firstInterrupt 28 = .ok (.iinc 1 1, 3) := by decide +kernel
theorem d_rg_firstInterrupt_31 : decode b_rg_firstInterrupt 31 = .ok (.goto (-29), 3) := by decide +kernel
theorem d_rg_firstInterrupt_34 : decode b_rg_firstInterrupt 34 = .ok (.iconst (-1), 1) := by decide +kernel
theorem d_rg_firstInterrupt_35 : decode b_rg_firstInterrupt 35 = .ok (.ireturn, 1) := by decide +kernel
theorem d_rg_isDelegated_0 : decode b_rg_isDelegated 0 = .ok (.iload_n 2, 1) := by decide +kernel
theorem d_rg_isDelegated_1 : decode b_rg_isDelegated 1 = .ok (.ifCond .eq 10, 3) := by decide +kernel
theorem d_rg_isDelegated_4 : decode b_rg_isDelegated 4 = .ok (.aload_n 0, 1) := by decide +kernel
theorem d_rg_isDelegated_5 : decode b_rg_isDelegated 5 = .ok (.getfield 40, 3) := by decide +kernel
theorem d_rg_isDelegated_8 : decode b_rg_isDelegated 8 = .ok (.goto 7, 3) := by decide +kernel
theorem d_rg_isDelegated_11 : decode b_rg_isDelegated 11 = .ok (.aload_n 0, 1) := by decide +kernel
theorem d_rg_isDelegated_12 : decode b_rg_isDelegated 12 = .ok (.getfield 44, 3) := by decide +kernel
theorem d_rg_isDelegated_15 : decode b_rg_isDelegated 15 = .ok (.iload_n 1, 1) := by decide +kernel
theorem d_rg_isDelegated_16 : decode b_rg_isDelegated 16 = .ok (.invokestatic 36, 3) := by decide +kernel
theorem d_rg_isDelegated_19 : decode b_rg_isDelegated 19 = .ok (.ireturn, 1) := by decide +kernel
theorem d_rg_pendingInterrupts_0 : decode b_rg_pendingInterrupts 0 = .ok (.aload_n 0, 1) := by decide +kernel
theorem d_rg_pendingInterrupts_1 : decode b_rg_pendingInterrupts 1 = .ok (.getfield 47, 3) := by decide +kernel
theorem d_rg_pendingInterrupts_4 : decode b_rg_pendingInterrupts 4 = .ok (.aload_n 0, 1) := by decide +kernel
theorem d_rg_pendingInterrupts_5 : decode b_rg_pendingInterrupts 5 = .ok (.getfield 28, 3) := by decide +kernel
theorem d_rg_pendingInterrupts_8 : decode b_rg_pendingInterrupts 8 = .ok (.invokevirtual 50, 3) := by decide +kernel
theorem d_rg_pendingInterrupts_11 : decode b_rg_pendingInterrupts 11 = .ok (.ior, 1) := by decide +kernel
theorem d_rg_pendingInterrupts_12 : decode b_rg_pendingInterrupts 12 = .ok (.ireturn, 1) := by decide +kernel
theorem d_rg_valueOf_0 : decode b_rg_valueOf 0 = .ok (.iload_n 1, 1) := by decide +kernel
theorem d_rg_valueOf_1 : decode b_rg_valueOf 1 = .ok (.lookupswitch 231 #[(256, 175), (260, 187), (261, 197), (321, 205), (322, 213), (324, 221), (768, 123), (770, 131), (771, 136), (772, 141), (773, 146), (833, 154), (834, 162), (836, 170)], 123) := by decide +kernel
theorem d_rg_valueOf_124 : decode b_rg_valueOf 124 = .ok (.aload_n 0, 1) := by decide +kernel
theorem d_rg_valueOf_125 : decode b_rg_valueOf 125 = .ok (.getfield 12, 3) := by decide +kernel
theorem d_rg_valueOf_128 : decode b_rg_valueOf 128 = .ok (.getfield 56, 3) := by decide +kernel
theorem d_rg_valueOf_131 : decode b_rg_valueOf 131 = .ok (.ireturn, 1) := by decide +kernel
theorem d_rg_valueOf_132 : decode b_rg_valueOf 132 = .ok (.aload_n 0, 1) := by decide +kernel
theorem d_rg_valueOf_133 : decode b_rg_valueOf 133 = .ok (.getfield 44, 3) := by decide +kernel
theorem d_rg_valueOf_136 : decode b_rg_valueOf 136 = .ok (.ireturn, 1) := by decide +kernel
theorem d_rg_valueOf_137 : decode b_rg_valueOf 137 = .ok (.aload_n 0, 1) := by decide +kernel
theorem d_rg_valueOf_138 : decode b_rg_valueOf 138 = .ok (.getfield 40, 3) := by decide +kernel
theorem d_rg_valueOf_141 : decode b_rg_valueOf 141 = .ok (.ireturn, 1) := by decide +kernel
theorem d_rg_valueOf_142 : decode b_rg_valueOf 142 = .ok (.aload_n 0, 1) := by decide +kernel
theorem d_rg_valueOf_143 : decode b_rg_valueOf 143 = .ok (.getfield 59, 3) := by decide +kernel
theorem d_rg_valueOf_146 : decode b_rg_valueOf 146 = .ok (.ireturn, 1) := by decide +kernel
theorem d_rg_valueOf_147 : decode b_rg_valueOf 147 = .ok (.aload_n 0, 1) := by decide +kernel
theorem d_rg_valueOf_148 : decode b_rg_valueOf 148 = .ok (.getfield 21, 3) := by decide +kernel
theorem d_rg_valueOf_151 : decode b_rg_valueOf 151 = .ok (.getfield 62, 3) := by decide +kernel
theorem d_rg_valueOf_154 : decode b_rg_valueOf 154 = .ok (.ireturn, 1) := by decide +kernel
theorem d_rg_valueOf_155 : decode b_rg_valueOf 155 = .ok (.aload_n 0, 1) := by decide +kernel
theorem d_rg_valueOf_156 : decode b_rg_valueOf 156 = .ok (.getfield 21, 3) := by decide +kernel
theorem d_rg_valueOf_159 : decode b_rg_valueOf 159 = .ok (.getfield 65, 3) := by decide +kernel
theorem d_rg_valueOf_162 : decode b_rg_valueOf 162 = .ok (.ireturn, 1) := by decide +kernel
theorem d_rg_valueOf_163 : decode b_rg_valueOf 163 = .ok (.aload_n 0, 1) := by decide +kernel
theorem d_rg_valueOf_164 : decode b_rg_valueOf 164 = .ok (.getfield 21, 3) := by decide +kernel
theorem d_rg_valueOf_167 : decode b_rg_valueOf 167 = .ok (.getfield 68, 3) := by decide +kernel
theorem d_rg_valueOf_170 : decode b_rg_valueOf 170 = .ok (.ireturn, 1) := by decide +kernel
theorem d_rg_valueOf_171 : decode b_rg_valueOf 171 = .ok (.aload_n 0, 1) := by decide +kernel
theorem d_rg_valueOf_172 : decode b_rg_valueOf 172 = .ok (.invokevirtual 71, 3) := by decide +kernel
theorem d_rg_valueOf_175 : decode b_rg_valueOf 175 = .ok (.ireturn, 1) := by decide +kernel
theorem d_rg_valueOf_176 : decode b_rg_valueOf 176 = .ok (.aload_n 0, 1) := by decide +kernel
theorem d_rg_valueOf_177 : decode b_rg_valueOf 177 = .ok (.getfield 12, 3) := by decide +kernel
theorem d_rg_valueOf_180 : decode b_rg_valueOf 180 = .ok (.getfield 56, 3) := by decide +kernel
theorem d_rg_valueOf_183 : decode b_rg_valueOf 183 = .ok (.sipush 290, 3) := by decide +kernel
theorem d_rg_valueOf_186 : decode b_rg_valueOf 186 = .ok (.iand, 1) := by decide +kernel
theorem d_rg_valueOf_187 : decode b_rg_valueOf 187 = .ok (.ireturn, 1) := by decide +kernel
theorem d_rg_valueOf_188 : decode b_rg_valueOf 188 = .ok (.aload_n 0, 1) := by decide +kernel
theorem d_rg_valueOf_189 : decode b_rg_valueOf 189 = .ok (.getfield 59, 3) := by decide +kernel
theorem d_rg_valueOf_192 : decode b_rg_valueOf 192 = .ok (.aload_n 0, 1) := by decide +kernel
theorem d_rg_valueOf_193 : decode b_rg_valueOf 193 = .ok (.getfield 40, 3) := by decide +kernel
theorem d_rg_valueOf_196 : decode b_rg_valueOf 196 = .ok (.iand, 1) := by decide +kernel
theorem d_rg_valueOf_197 : decode b_rg_valueOf 197 = .ok (.ireturn, 1) := by decide +kernel
theorem d_rg_valueOf_198 : decode b_rg_valueOf 198 = .ok (.aload_n 0, 1) := by decide +kernel
theorem d_rg_valueOf_199 : decode b_rg_valueOf 199 = .ok (.getfield 25, 3) := by decide +kernel
theorem d_rg_valueOf_202 : decode b_rg_valueOf 202 = .ok (.getfield 62, 3) := by decide +kernel
theorem d_rg_valueOf_205 : decode b_rg_valueOf 205 = .ok (.ireturn, 1) := by decide +kernel
theorem d_rg_valueOf_206 : decode b_rg_valueOf 206 = .ok (.aload_n 0, 1) := by decide +kernel
theorem d_rg_valueOf_207 : decode b_rg_valueOf 207 = .ok (.getfield 25, 3) := by decide +kernel
theorem d_rg_valueOf_210 : decode b_rg_valueOf 210 = .ok (.getfield 65, 3) := by decide +kernel
theorem d_rg_valueOf_213 : decode b_rg_valueOf 213 = .ok (.ireturn, 1) := by decide +kernel
theorem d_rg_valueOf_214 : decode b_rg_valueOf 214 = .ok (.aload_n 0, 1) := by decide +kernel
theorem d_rg_valueOf_215 : decode b_rg_valueOf 215 = .ok (.getfield 25, 3) := by decide +kernel
theorem d_rg_valueOf_218 : decode b_rg_valueOf 218 = .ok (.getfield 68, 3) := by decide +kernel
theorem d_rg_valueOf_221 : decode b_rg_valueOf 221 = .ok (.ireturn, 1) := by decide +kernel
theorem d_rg_valueOf_222 : decode b_rg_valueOf 222 = .ok (.aload_n 0, 1) := by decide +kernel
theorem d_rg_valueOf_223 : decode b_rg_valueOf 223 = .ok (.invokevirtual 71, 3) := by decide +kernel
theorem d_rg_valueOf_226 : decode b_rg_valueOf 226 = .ok (.aload_n 0, 1) := by decide +kernel
theorem d_rg_valueOf_227 : decode b_rg_valueOf 227 = .ok (.getfield 40, 3) := by decide +kernel
theorem d_rg_valueOf_230 : decode b_rg_valueOf 230 = .ok (.iand, 1) := by decide +kernel
theorem d_rg_valueOf_231 : decode b_rg_valueOf 231 = .ok (.ireturn, 1) := by decide +kernel
theorem d_rg_valueOf_232 : decode b_rg_valueOf 232 = .ok (.iconst 0, 1) := by decide +kernel
theorem d_rg_valueOf_233 : decode b_rg_valueOf 233 = .ok (.ireturn, 1) := by decide +kernel
theorem d_rg_change_0 : decode b_rg_change 0 = .ok (.iload_n 1, 1) := by decide +kernel
theorem d_rg_change_1 : decode b_rg_change 1 = .ok (.invokestatic 74, 3) := by decide +kernel
theorem d_rg_change_4 : decode b_rg_change 4 = .ok (.ifCond .eq 12, 3) := by decide +kernel
theorem d_rg_change_7 : decode b_rg_change 7 = .ok (.aload_n 0, 1) := by decide +kernel
theorem d_rg_change_8 : decode b_rg_change 8 = .ok (.iload_n 1, 1) := by decide +kernel
theorem d_rg_change_9 : decode b_rg_change 9 = .ok (.iload_n 2, 1) := by decide +kernel
theorem d_rg_change_10 : decode b_rg_change 10 = .ok (.invokevirtual 78, 3) := by decide +kernel
theorem d_rg_change_13 : decode b_rg_change 13 = .ok (.goto 9, 3) := by decide +kernel
theorem d_rg_change_16 : decode b_rg_change 16 = .ok (.aload_n 0, 1) := by decide +kernel
theorem d_rg_change_17 : decode b_rg_change 17 = .ok (.iload_n 1, 1) := by decide +kernel
theorem d_rg_change_18 : decode b_rg_change 18 = .ok (.iload_n 2, 1) := by decide +kernel
theorem d_rg_change_19 : decode b_rg_change 19 = .ok (.invokevirtual 82, 3) := by decide +kernel
theorem d_rg_change_22 : decode b_rg_change 22 = .ok (.return_, 1) := by decide +kernel
theorem d_rg_changeOfMachine_0 : decode b_rg_changeOfMachine 0 = .ok (.iload_n 1, 1) := by decide +kernel
theorem d_rg_changeOfMachine_1 : decode b_rg_changeOfMachine 1 = .ok (.lookupswitch 172 #[(768, 75), (770, 86), (771, 97), (772, 109), (773, 121), (833, 135), (834, 149), (836, 160)], 75) := by decide +kernel
theorem d_rg_changeOfMachine_76 : decode b_rg_changeOfMachine 76 = .ok (.aload_n 0, 1) := by decide +kernel
theorem d_rg_changeOfMachine_77 : decode b_rg_changeOfMachine 77 = .ok (.getfield 12, 3) := by decide +kernel
theorem d_rg_changeOfMachine_80 : decode b_rg_changeOfMachine 80 = .ok (.iload_n 2, 1) := by decide +kernel
theorem d_rg_changeOfMachine_81 : decode b_rg_changeOfMachine 81 = .ok (.invokevirtual 85, 3) := by decide +kernel
theorem d_rg_changeOfMachine_84 : decode b_rg_changeOfMachine 84 = .ok (.goto 89, 3) := by decide +kernel
theorem d_rg_changeOfMachine_87 : decode b_rg_changeOfMachine 87 = .ok (.aload_n 0, 1) := by decide +kernel
theorem d_rg_changeOfMachine_88 : decode b_rg_changeOfMachine 88 = .ok (.iload_n 2, 1) := by decide +kernel
theorem d_rg_changeOfMachine_89 : decode b_rg_changeOfMachine 89 = .ok (.ldc 89, 2) := by decide +kernel
theorem d_rg_changeOfMachine_91 : decode b_rg_changeOfMachine 91 = .ok (.iand, 1) := by decide +kernel
theorem d_rg_changeOfMachine_92 : decode b_rg_changeOfMachine 92 = .ok (.putfield 44, 3) := by decide +kernel
theorem d_rg_changeOfMachine_95 : decode b_rg_changeOfMachine 95 = .ok (.goto 78, 3) := by decide +kernel
theorem d_rg_changeOfMachine_98 : decode b_rg_changeOfMachine 98 = .ok (.aload_n 0, 1) := by decide +kernel
theorem d_rg_changeOfMachine_99 : decode b_rg_changeOfMachine 99 = .ok (.iload_n 2, 1) := by decide +kernel
theorem d_rg_changeOfMachine_100 : decode b_rg_changeOfMachine 100 = .ok (.sipush 546, 3) := by decide +kernel
theorem d_rg_changeOfMachine_103 : decode b_rg_changeOfMachine 103 = .ok (.iand, 1) := by decide +kernel
theorem d_rg_changeOfMachine_104 : decode b_rg_changeOfMachine 104 = .ok (.putfield 40, 3) := by decide +kernel
theorem d_rg_changeOfMachine_107 : decode b_rg_changeOfMachine 107 = .ok (.goto 66, 3) := by decide +kernel
theorem d_rg_changeOfMachine_110 : decode b_rg_changeOfMachine 110 = .ok (.aload_n 0, 1) := by decide +kernel
theorem d_rg_changeOfMachine_111 : decode b_rg_changeOfMachine 111 = .ok (.iload_n 2, 1) := by decide +kernel
theorem d_rg_changeOfMachine_112 : decode b_rg_changeOfMachine 112 = .ok (.sipush 2730, 3) := by decide +kernel
theorem d_rg_changeOfMachine_115 : decode b_rg_changeOfMachine 115 = .ok (.iand, 1) := by decide +kernel
theorem d_rg_changeOfMachine_116 : decode b_rg_changeOfMachine 116 = .ok (.putfield 59, 3) := by decide +kernel
theorem d_rg_changeOfMachine_119 : decode b_rg_changeOfMachine 119 = .ok (.goto 54, 3) := by decide +kernel
theorem d_rg_changeOfMachine_122 : decode b_rg_changeOfMachine 122 = .ok (.aload_n 0, 1) := by decide +kernel
theorem d_rg_changeOfMachine_123 : decode b_rg_changeOfMachine 123 = .ok (.getfield 21, 3) := by decide +kernel
theorem d_rg_changeOfMachine_126 : decode b_rg_changeOfMachine 126 = .ok (.iload_n 2, 1) := by decide +kernel
theorem d_rg_changeOfMachine_127 : decode b_rg_changeOfMachine 127 = .ok (.bipush (-3), 2) := by decide +kernel
theorem d_rg_changeOfMachine_129 : decode b_rg_changeOfMachine 129 = .ok (.iand, 1) := by decide +kernel
theorem d_rg_changeOfMachine_130 : decode b_rg_changeOfMachine 130 = .ok (.putfield 62, 3) := by decide +kernel
theorem d_rg_changeOfMachine_133 : decode b_rg_changeOfMachine 133 = .ok (.goto 40, 3) := by decide +kernel
theorem d_rg_changeOfMachine_136 : decode b_rg_changeOfMachine 136 = .ok (.aload_n 0, 1) := by decide +kernel
theorem d_rg_changeOfMachine_137 : decode b_rg_changeOfMachine 137 = .ok (.getfield 21, 3) := by decide +kernel
theorem d_rg_changeOfMachine_140 : decode b_rg_changeOfMachine 140 = .ok (.iload_n 2, 1) := by decide +kernel
theorem d_rg_changeOfMachine_141 : decode b_rg_changeOfMachine 141 = .ok (.bipush (-4), 2) := by decide +kernel
theorem d_rg_changeOfMachine_143 : decode b_rg_changeOfMachine 143 = .ok (.iand, 1) := by decide +kernel
theorem d_rg_changeOfMachine_144 : decode b_rg_changeOfMachine 144 = .ok (.putfield 65, 3) := by decide +kernel
theorem d_rg_changeOfMachine_147 : decode b_rg_changeOfMachine 147 = .ok (.goto 26, 3) := by decide +kernel
theorem d_rg_changeOfMachine_150 : decode b_rg_changeOfMachine 150 = .ok (.aload_n 0, 1) := by decide +kernel
theorem d_rg_changeOfMachine_151 : decode b_rg_changeOfMachine 151 = .ok (.getfield 21, 3) := by decide +kernel
theorem d_rg_changeOfMachine_154 : decode b_rg_changeOfMachine 154 = .ok (.iload_n 2, 1) := by decide +kernel
theorem d_rg_changeOfMachine_155 : decode b_rg_changeOfMachine 155 = .ok (.putfield 68, 3) := by decide +kernel
theorem d_rg_changeOfMachine_158 : decode b_rg_changeOfMachine 158 = .ok (.goto 15, 3) := by decide +kernel
theorem d_rg_changeOfMachine_161 : decode b_rg_changeOfMachine 161 = .ok (.aload_n 0, 1) := by decide +kernel
theorem d_rg_changeOfMachine_162 : decode b_rg_changeOfMachine 162 = .ok (.iload_n 2, 1) := by decide +kernel
theorem d_rg_changeOfMachine_163 : decode b_rg_changeOfMachine 163 = .ok (.sipush 546, 3) := by decide +kernel
theorem d_rg_changeOfMachine_166 : decode b_rg_changeOfMachine 166 = .ok (.iand, 1) := by decide +kernel
theorem d_rg_changeOfMachine_167 : decode b_rg_changeOfMachine 167 = .ok (.putfield 47, 3) := by decide +kernel
theorem d_rg_changeOfMachine_170 : decode b_rg_changeOfMachine 170 = .ok (.goto 3, 3) := by decide +kernel
theorem d_rg_changeOfMachine_173 : decode b_rg_changeOfMachine 173 = .ok (.return_, 1) := by decide +kernel
theorem d_rg_changeOfSupervisor_0 : decode b_rg_changeOfSupervisor 0 = .ok (.iload_n 1, 1) := by decide +kernel
theorem d_rg_changeOfSupervisor_1 : decode b_rg_changeOfSupervisor 1 = .ok (.lookupswitch 149 #[(256, 59), (260, 70), (261, 89), (321, 103), (322, 117), (324, 128)], 59) := by decide +kernel
theorem d_rg_changeOfSupervisor_60 : decode b_rg_changeOfSupervisor 60 = .ok (.aload_n 0, 1) := by decide +kernel
theorem d_rg_changeOfSupervisor_61 : decode b_rg_changeOfSupervisor 61 = .ok (.getfield 12, 3) := by decide +kernel
theorem d_rg_changeOfSupervisor_64 : decode b_rg_changeOfSupervisor 64 = .ok (.iload_n 2, 1) := by decide +kernel
theorem d_rg_changeOfSupervisor_65 : decode b_rg_changeOfSupervisor 65 = .ok (.invokevirtual 90, 3) := by decide +kernel
theorem d_rg_changeOfSupervisor_68 : decode b_rg_changeOfSupervisor 68 = .ok (.goto 82, 3) := by decide +kernel
theorem d_rg_changeOfSupervisor_71 : decode b_rg_changeOfSupervisor 71 = .ok (.aload_n 0, 1) := by decide +kernel
theorem d_rg_changeOfSupervisor_72 : decode b_rg_changeOfSupervisor 72 = .ok (.aload_n 0, 1) := by decide +kernel
theorem d_rg_changeOfSupervisor_73 : decode b_rg_changeOfSupervisor 73 = .ok (.getfield 59, 3) := by decide +kernel
theorem d_rg_changeOfSupervisor_76 : decode b_rg_changeOfSupervisor 76 = .ok (.iload_n 2, 1) := by decide +kernel
theorem d_rg_changeOfSupervisor_77 : decode b_rg_changeOfSupervisor 77 = .ok (.aload_n 0, 1) := by decide +kernel
theorem d_rg_changeOfSupervisor_78 : decode b_rg_changeOfSupervisor 78 = .ok (.getfield 40, 3) := by decide +kernel
theorem d_rg_changeOfSupervisor_81 : decode b_rg_changeOfSupervisor 81 = .ok (.invokestatic 93, 3) := by decide +kernel
theorem d_rg_changeOfSupervisor_84 : decode b_rg_changeOfSupervisor 84 = .ok (.putfield 59, 3) := by decide +kernel
theorem d_rg_changeOfSupervisor_87 : decode b_rg_changeOfSupervisor 87 = .ok (.goto 63, 3) := by decide +kernel
theorem d_rg_changeOfSupervisor_90 : decode b_rg_changeOfSupervisor 90 = .ok (.aload_n 0, 1) := by decide +kernel
theorem d_rg_changeOfSupervisor_91 : decode b_rg_changeOfSupervisor 91 = .ok (.getfield 25, 3) := by decide +kernel
theorem d_rg_changeOfSupervisor_94 : decode b_rg_changeOfSupervisor 94 = .ok (.iload_n 2, 1) := by decide +kernel
theorem d_rg_changeOfSupervisor_95 : decode b_rg_changeOfSupervisor 95 = .ok (.bipush (-3), 2) := by decide +kernel
theorem d_rg_changeOfSupervisor_97 : decode b_rg_changeOfSupervisor 97 = .ok (.iand, 1) := by decide +kernel
theorem d_rg_changeOfSupervisor_98 : decode b_rg_changeOfSupervisor 98 = .ok (.putfield 62, 3) := by decide +kernel
theorem d_rg_changeOfSupervisor_101 : decode b_rg_changeOfSupervisor 101 = .ok (.goto 49, 3) := by decide +kernel
theorem d_rg_changeOfSupervisor_104 : decode b_rg_changeOfSupervisor 104 = .ok (.aload_n 0, 1) := by decide +kernel
theorem d_rg_changeOfSupervisor_105 : decode b_rg_changeOfSupervisor 105 = .ok (.getfield 25, 3) := by decide +kernel
theorem d_rg_changeOfSupervisor_108 : decode b_rg_changeOfSupervisor 108 = .ok (.iload_n 2, 1) := by decide +kernel
theorem d_rg_changeOfSupervisor_109 : decode b_rg_changeOfSupervisor 109 = .ok (.bipush (-4), 2) := by decide +kernel
theorem d_rg_changeOfSupervisor_111 : decode b_rg_changeOfSupervisor 111 = .ok (.iand, 1) := by decide +kernel
theorem d_rg_changeOfSupervisor_112 : decode b_rg_changeOfSupervisor 112 = .ok (.putfield 65, 3) := by decide +kernel
theorem d_rg_changeOfSupervisor_115 : decode b_rg_changeOfSupervisor 115 = .ok (.goto 35, 3) := by decide +kernel
theorem d_rg_changeOfSupervisor_118 : decode b_rg_changeOfSupervisor 118 = .ok (.aload_n 0, 1) := by decide +kernel
theorem d_rg_changeOfSupervisor_119 : decode b_rg_changeOfSupervisor 119 = .ok (.getfield 25, 3) := by decide +kernel
theorem d_rg_changeOfSupervisor_122 : decode b_rg_changeOfSupervisor 122 = .ok (.iload_n 2, 1) := by decide +kernel
theorem d_rg_changeOfSupervisor_123 : decode b_rg_changeOfSupervisor 123 = .ok (.putfield 68, 3) := by decide +kernel
theorem d_rg_changeOfSupervisor_126 : decode b_rg_changeOfSupervisor 126 = .ok (.goto 24, 3) := by decide +kernel
theorem d_rg_changeOfSupervisor_129 : decode b_rg_changeOfSupervisor 129 = .ok (.aload_n 0, 1) := by decide +kernel
theorem d_rg_changeOfSupervisor_130 : decode b_rg_changeOfSupervisor 130 = .ok (.aload_n 0, 1) := by decide +kernel
theorem d_rg_changeOfSupervisor_131 : decode b_rg_changeOfSupervisor 131 = .ok (.getfield 47, 3) := by decide +kernel
theorem d_rg_changeOfSupervisor_134 : decode b_rg_changeOfSupervisor 134 = .ok (.iload_n 2, 1) := by decide +kernel
theorem d_rg_changeOfSupervisor_135 : decode b_rg_changeOfSupervisor 135 = .ok (.aload_n 0, 1) := by decide +kernel
theorem d_rg_changeOfSupervisor_136 : decode b_rg_changeOfSupervisor 136 = .ok (.getfield 40, 3) := by decide +kernel
theorem d_rg_changeOfSupervisor_139 : decode b_rg_changeOfSupervisor 139 = .ok (.iconst 2, 1) := by decide +kernel
theorem d_rg_changeOfSupervisor_140 : decode b_rg_changeOfSupervisor 140 = .ok (.iand, 1) := by decide +kernel
theorem d_rg_changeOfSupervisor_141 : decode b_rg_changeOfSupervisor 141 = .ok (.invokestatic 93, 3) := by decide +kernel
theorem d_rg_changeOfSupervisor_144 : decode b_rg_changeOfSupervisor 144 = .ok (.putfield 47, 3) := by decide +kernel
theorem d_rg_changeOfSupervisor_147 : decode b_rg_changeOfSupervisor 147 = .ok (.goto 3, 3) := by decide +kernel
theorem d_rg_changeOfSupervisor_150 : decode b_rg_changeOfSupervisor 150 = .ok (.return_, 1) := by decide +kernel
theorem d_so_init_0 : decode b_so_init 0 = .ok (.aload_n 0, 1) := by decide +kernel
theorem d_so_init_1 : decode b_so_init 1 = .ok (.invokespecial 1, 3) := by decide +kernel
theorem d_so_init_4 : decode b_so_init 4 = .ok (.aload_n 0, 1) := by decide +kernel
theorem d_so_init_5 : decode b_so_init 5 = .ok (.bipush 16, 2) := by decide +kernel
theorem d_so_init_7 : decode b_so_init 7 = .ok (.newarray .int, 2) := by decide +kernel
theorem d_so_init_9 : decode b_so_init 9 = .ok (.putfield 9, 3) := by decide +kernel
theorem d_so_init_12 : decode b_so_init 12 = .ok (.aload_n 0, 1) := by decide +kernel
theorem d_so_init_13 : decode b_so_init 13 = .ok (.bipush 16, 2) := by decide +kernel
theorem d_so_init_15 : decode b_so_init 15 = .ok (.newarray .int, 2) := by decide +kernel
theorem d_so_init_17 : decode b_so_init 17 = .ok (.putfield 13, 3) := by decide +kernel
theorem d_so_init_20 : decode b_so_init 20 = .ok (.aload_n 0, 1) := by decide +kernel
theorem d_so_init_21 : decode b_so_init 21 = .ok (.bipush 16, 2) := by decide +kernel
theorem d_so_init_23 : decode b_so_init 23 = .ok (.newarray .int, 2) := by decide +kernel
theorem d_so_init_25 : decode b_so_init 25 = .ok (.putfield 16, 3) := by decide +kernel
theorem d_so_init_28 : decode b_so_init 28 = .ok (.aload_n 0, 1) := by decide +kernel
theorem d_so_init_29 : decode b_so_init 29 = .ok (.iload_n 1, 1) := by decide +kernel
theorem d_so_init_30 : decode b_so_init 30 = .ok (.ldc 19, 2) := by decide +kernel
theorem d_so_init_32 : decode b_so_init 32 = .ok (.iand, 1) := by decide +kernel
theorem d_so_init_33 : decode b_so_init 33 = .ok (.putfield 20, 3) := by decide +kernel
theorem d_so_init_36 : decode b_so_init 36 = .ok (.return_, 1) := by decide +kernel
theorem d_so_drive_0 : decode b_so_drive 0 = .ok (.iload_n 1, 1) := by decide +kernel
theorem d_so_drive_1 : decode b_so_drive 1 = .ok (.aload_n 0, 1) := by decide +kernel
theorem d_so_drive_2 : decode b_so_drive 2 = .ok (.getfield 24, 3) := by decide +kernel
theorem d_so_drive_5 : decode b_so_drive 5 = .ok (.iconst (-1), 1) := by decide +kernel
theorem d_so_drive_6 : decode b_so_drive 6 = .ok (.ixor, 1) := by decide +kernel
theorem d_so_drive_7 : decode b_so_drive 7 = .ok (.iand, 1) := by decide +kernel
theorem d_so_drive_8 : decode b_so_drive 8 = .ok (.aload_n 0, 1) := by decide +kernel
theorem d_so_drive_9 : decode b_so_drive 9 = .ok (.getfield 20, 3) := by decide +kernel
theorem d_so_drive_12 : decode b_so_drive 12 = .ok (.iand, 1) := by decide +kernel
theorem d_so_drive_13 : decode b_so_drive 13 = .ok (.istore_n 2, 1) := by decide +kernel
theorem d_so_drive_14 : decode b_so_drive 14 = .ok (.aload_n 0, 1) := by decide +kernel
theorem d_so_drive_15 : decode b_so_drive 15 = .ok (.iload_n 1, 1) := by decide +kernel
theorem d_so_drive_16 : decode b_so_drive 16 = .ok (.ldc 19, 2) := by decide +kernel
theorem d_so_drive_18 : decode b_so_drive 18 = .ok (.iand, 1) := by decide +kernel
theorem d_so_drive_19 : decode b_so_drive 19 = .ok (.putfield 24, 3) := by decide +kernel
theorem d_so_drive_22 : decode b_so_drive 22 = .ok (.iconst 1, 1) := by decide +kernel
theorem d_so_drive_23 : decode b_so_drive 23 = .ok (.istore_n 3, 1) := by decide +kernel
theorem d_so_drive_24 : decode b_so_drive 24 = .ok (.iload_n 3, 1) := by decide +kernel
theorem d_so_drive_25 : decode b_so_drive 25 = .ok (.bipush 15, 2) := by decide +kernel
theorem d_so_drive_27 : decode b_so_drive 27 = .ok (.if_icmp .gt 43, 3) := by decide +kernel
theorem d_so_drive_30 : decode b_so_drive 30 = .ok (.iload_n 2, 1) := by decide +kernel
theorem d_so_drive_31 : decode b_so_drive 31 = .ok (.iload_n 3, 1) := by decide +kernel
theorem d_so_drive_32 : decode b_so_drive 32 = .ok (.invokestatic 27, 3) := by decide +kernel
theorem d_so_drive_35 : decode b_so_drive 35 = .ok (.ifCond .eq 24, 3) := by decide +kernel
theorem d_so_drive_38 : decode b_so_drive 38 = .ok (.aload_n 0, 1) := by decide +kernel
theorem d_so_drive_39 : decode b_so_drive 39 = .ok (.getfield 13, 3) := by decide +kernel
theorem d_so_drive_42 : decode b_so_drive 42 = .ok (.iload_n 3, 1) := by decide +kernel
theorem d_so_drive_43 : decode b_so_drive 43 = .ok (.iaload, 1) := by decide +kernel
theorem d_so_drive_44 : decode b_so_drive 44 = .ok (.bipush 15, 2) := by decide +kernel
theorem d_so_drive_46 : decode b_so_drive 46 = .ok (.if_icmp .ge 13, 3) := by decide +kernel
theorem d_so_drive_49 : decode b_so_drive 49 = .ok (.aload_n 0, 1) := by decide +kernel
theorem d_so_drive_50 : decode b_so_drive 50 = .ok (.getfield 13, 3) := by decide +kernel
theorem d_so_drive_53 : decode b_so_drive 53 = .ok (.iload_n 3, 1) := by decide +kernel
theorem d_so_drive_54 : decode b_so_drive 54 = .ok (.dup2, 1) := by decide +kernel
theorem d_so_drive_55 : decode b_so_drive 55 = .ok (.iaload, 1) := by decide +kernel
theorem d_so_drive_56 : decode b_so_drive 56 = .ok (.iconst 1, 1) := by decide +kernel
theorem d_so_drive_57 : decode b_so_drive 57 = .ok (.iadd, 1) := by decide +kernel
theorem d_so_drive_58 : decode b_so_drive 58 = .ok (.iastore, 1) := by decide +kernel
theorem d_so_drive_59 : decode b_so_drive 59 = .ok (.aload_n 0, 1) := by decide +kernel
theorem d_so_drive_60 : decode b_so_drive 60 = .ok (.iload_n 3, 1) := by decide +kernel
theorem d_so_drive_61 : decode b_so_drive 61 = .ok (.invokevirtual 33, 3) := by decide +kernel
theorem d_so_drive_64 : decode b_so_drive 64 = .ok (.iinc 3 1, 3) := by decide +kernel
theorem d_so_drive_67 : decode b_so_drive 67 = .ok (.goto (-43), 3) := by decide +kernel
theorem d_so_drive_70 : decode b_so_drive 70 = .ok (.return_, 1) := by decide +kernel
theorem d_so_forward_0 : decode b_so_forward 0 = .ok (.aload_n 0, 1) := by decide +kernel
theorem d_so_forward_1 : decode b_so_forward 1 = .ok (.getfield 37, 3) := by decide +kernel
theorem d_so_forward_4 : decode b_so_forward 4 = .ok (.iload_n 1, 1) := by decide +kernel
theorem d_so_forward_5 : decode b_so_forward 5 = .ok (.invokestatic 27, 3) := by decide +kernel
theorem d_so_forward_8 : decode b_so_forward 8 = .ok (.ifCond .ne 12, 3) := by decide +kernel
theorem d_so_forward_11 : decode b_so_forward 11 = .ok (.aload_n 0, 1) := by decide +kernel
theorem d_so_forward_12 : decode b_so_forward 12 = .ok (.getfield 16, 3) := by decide +kernel
theorem d_so_forward_15 : decode b_so_forward 15 = .ok (.iload_n 1, 1) := by decide +kernel
theorem d_so_forward_16 : decode b_so_forward 16 = .ok (.iaload, 1) := by decide +kernel
theorem d_so_forward_17 : decode b_so_forward 17 = .ok (.ifCond .eq 4, 3) := by decide +kernel
theorem d_so_forward_20 : decode b_so_forward 20 = .ok (.return_, 1) := by decide +kernel
theorem d_so_forward_21 : decode b_so_forward 21 = .ok (.aload_n 0, 1) := by decide +kernel
theorem d_so_forward_22 : decode b_so_forward 22 = .ok (.getfield 20, 3) := by decide +kernel
theorem d_so_forward_25 : decode b_so_forward 25 = .ok (.iload_n 1, 1) := by decide +kernel
theorem d_so_forward_26 : decode b_so_forward 26 = .ok (.invokestatic 27, 3) := by decide +kernel
theorem d_so_forward_29 : decode b_so_forward 29 = .ok (.ifCond .ne 23, 3) := by decide +kernel
theorem d_so_forward_32 : decode b_so_forward 32 = .ok (.aload_n 0, 1) := by decide +kernel
theorem d_so_forward_33 : decode b_so_forward 33 = .ok (.dup, 1) := by decide +kernel
theorem d_so_forward_34 : decode b_so_forward 34 = .ok (.getfield 37, 3) := by decide +kernel
theorem d_so_forward_37 : decode b_so_forward 37 = .ok (.aload_n 0, 1) := by decide +kernel
theorem d_so_forward_38 : decode b_so_forward 38 = .ok (.getfield 24, 3) := by decide +kernel
theorem d_so_forward_41 : decode b_so_forward 41 = .ok (.iconst 1, 1) := by decide +kernel
theorem d_so_forward_42 : decode b_so_forward 42 = .ok (.iload_n 1, 1) := by decide +kernel
theorem d_so_forward_43 : decode b_so_forward 43 = .ok (.ishl, 1) := by decide +kernel
theorem d_so_forward_44 : decode b_so_forward 44 = .ok (.iand, 1) := by decide +kernel
theorem d_so_forward_45 : decode b_so_forward 45 = .ok (.ior, 1) := by decide +kernel
theorem d_so_forward_46 : decode b_so_forward 46 = .ok (.putfield 37, 3) := by decide +kernel
theorem d_so_forward_49 : decode b_so_forward 49 = .ok (.goto 34, 3) := by decide +kernel
theorem d_so_forward_52 : decode b_so_forward 52 = .ok (.aload_n 0, 1) := by decide +kernel
theorem d_so_forward_53 : decode b_so_forward 53 = .ok (.getfield 13, 3) := by decide +kernel
theorem d_so_forward_56 : decode b_so_forward 56 = .ok (.iload_n 1, 1) := by decide +kernel
theorem d_so_forward_57 : decode b_so_forward 57 = .ok (.iaload, 1) := by decide +kernel
theorem d_so_forward_58 : decode b_so_forward 58 = .ok (.ifCond .le 25, 3) := by decide +kernel
theorem d_so_forward_61 : decode b_so_forward 61 = .ok (.aload_n 0, 1) := by decide +kernel
theorem d_so_forward_62 : decode b_so_forward 62 = .ok (.getfield 13, 3) := by decide +kernel
theorem d_so_forward_65 : decode b_so_forward 65 = .ok (.iload_n 1, 1) := by decide +kernel
theorem d_so_forward_66 : decode b_so_forward 66 = .ok (.dup2, 1) := by decide +kernel
theorem d_so_forward_67 : decode b_so_forward 67 = .ok (.iaload, 1) := by decide +kernel
theorem d_so_forward_68 : decode b_so_forward 68 = .ok (.iconst 1, 1) := by decide +kernel
theorem d_so_forward_69 : decode b_so_forward 69 = .ok (.isub, 1) := by decide +kernel
theorem d_so_forward_70 : decode b_so_forward 70 = .ok (.iastore, 1) := by decide +kernel
theorem d_so_forward_71 : decode b_so_forward 71 = .ok (.aload_n 0, 1) := by decide +kernel
theorem d_so_forward_72 : decode b_so_forward 72 = .ok (.dup, 1) := by decide +kernel
theorem d_so_forward_73 : decode b_so_forward 73 = .ok (.getfield 37, 3) := by decide +kernel
theorem d_so_forward_76 : decode b_so_forward 76 = .ok (.iconst 1, 1) := by decide +kernel
theorem d_so_forward_77 : decode b_so_forward 77 = .ok (.iload_n 1, 1) := by decide +kernel
theorem d_so_forward_78 : decode b_so_forward 78 = .ok (.ishl, 1) := by decide +kernel
theorem d_so_forward_79 : decode b_so_forward 79 = .ok (.ior, 1) := by decide +kernel
theorem d_so_forward_80 : decode b_so_forward 80 = .ok (.putfield 37, 3) := by decide +kernel
theorem d_so_forward_83 : decode b_so_forward 83 = .ok (.return_, 1) := by decide +kernel
theorem d_so_best_0 : decode b_so_best 0 = .ok (.iconst 0, 1) := by decide +kernel
theorem d_so_best_1 : decode b_so_best 1 = .ok (.istore_n 3, 1) := by decide +kernel
theorem d_so_best_2 : decode b_so_best 2 = .ok (.iload_n 2, 1) := by decide +kernel
theorem d_so_best_3 : decode b_so_best 3 = .ok (.istore 4, 2) := by decide +kernel
theorem d_so_best_5 : decode b_so_best 5 = .ok (.iconst 1, 1) := by decide +kernel
theorem d_so_best_6 : decode b_so_best 6 = .ok (.istore 5, 2) := by decide +kernel
theorem d_so_best_8 : decode b_so_best 8 = .ok (.iload 5, 2) := by decide +kernel
theorem d_so_best_10 : decode b_so_best 10 = .ok (.bipush 15, 2) := by decide +kernel
theorem d_so_best_12 : decode b_so_best 12 = .ok (.if_icmp .gt 47, 3) := by decide +kernel
theorem d_so_best_15 : decode b_so_best 15 = .ok (.aload_n 0, 1) := by decide +kernel
theorem d_so_best_16 : decode b_so_best 16 = .ok (.getfield 37, 3) := by decide +kernel
theorem d_so_best_19 : decode b_so_best 19 = .ok (.iload_n 1, 1) := by decide +kernel
theorem d_so_best_20 : decode b_so_best 20 = .ok (.iand, 1) := by decide +kernel
theorem d_so_best_21 : decode b_so_best 21 = .ok (.iload 5, 2) := by decide +kernel
theorem d_so_best_23 : decode b_so_best 23 = .ok (.invokestatic 27, 3) := by decide +kernel
theorem d_so_best_26 : decode b_so_best 26 = .ok (.ifCond .eq 27, 3) := by decide +kernel
theorem d_so_best_29 : decode b_so_best 29 = .ok (.aload_n 0, 1) := by decide +kernel
theorem d_so_best_30 : decode b_so_best 30 = .ok (.getfield 9, 3) := by decide +kernel
theorem d_so_best_33 : decode b_so_best 33 = .ok (.iload 5, 2) := by decide +kernel
theorem d_so_best_35 : decode b_so_best 35 = .ok (.iaload, 1) := by decide +kernel
theorem d_so_best_36 : decode b_so_best 36 = .ok (.iload 4, 2) := by decide +kernel
theorem d_so_best_38 : decode b_so_best 38 = .ok (.if_icmp .le 15, 3) := by decide +kernel
theorem d_so_best_41 : decode b_so_best 41 = .ok (.iload 5, 2) := by decide +kernel
theorem d_so_best_43 : decode b_so_best 43 = .ok (.istore_n 3, 1) := by decide +kernel
theorem d_so_best_44 : decode b_so_best 44 = .ok (.aload_n 0, 1) := by decide +kernel
theorem d_so_best_45 : decode b_so_best 45 = .ok (.getfield 9, 3) := by decide +kernel
theorem d_so_best_48 : decode b_so_best 48 = .ok (.iload 5, 2) := by decide +kernel
theorem d_so_best_50 : decode b_so_best 50 = .ok (.iaload, 1) := by decide +kernel
theorem d_so_best_51 : decode b_so_best 51 = .ok (.istore 4, 2) := by decide +kernel
theorem d_so_best_53 : decode b_so_best 53 = .ok (.iinc 5 1, 3) := by decide +kernel
theorem d_so_best_56 : decode b_so_best 56 = .ok (.goto (-48), 3) := by decide +kernel
theorem d_so_best_59 : decode b_so_best 59 = .ok (.iload_n 3, 1) := by decide +kernel
theorem d_so_best_60 : decode b_so_best 60 = .ok (.ireturn, 1) := by decide +kernel
theorem d_so_serve_0 : decode b_so_serve 0 = .ok (.aload_n 0, 1) := by decide +kernel
theorem d_so_serve_1 : decode b_so_serve 1 = .ok (.dup, 1) := by decide +kernel
theorem d_so_serve_2 : decode b_so_serve 2 = .ok (.getfield 37, 3) := by decide +kernel
theorem d_so_serve_5 : decode b_so_serve 5 = .ok (.iconst 1, 1) := by decide +kernel
theorem d_so_serve_6 : decode b_so_serve 6 = .ok (.iload_n 1, 1) := by decide +kernel
theorem d_so_serve_7 : decode b_so_serve 7 = .ok (.ishl, 1) := by decide +kernel
theorem d_so_serve_8 : decode b_so_serve 8 = .ok (.iconst (-1), 1) := by decide +kernel
theorem d_so_serve_9 : decode b_so_serve 9 = .ok (.ixor, 1) := by decide +kernel
theorem d_so_serve_10 : decode b_so_serve 10 = .ok (.iand, 1) := by decide +kernel
theorem d_so_serve_11 : decode b_so_serve 11 = .ok (.putfield 37, 3) := by decide +kernel
theorem d_so_serve_14 : decode b_so_serve 14 = .ok (.aload_n 0, 1) := by decide +kernel
theorem d_so_serve_15 : decode b_so_serve 15 = .ok (.getfield 16, 3) := by decide +kernel
theorem d_so_serve_18 : decode b_so_serve 18 = .ok (.iload_n 1, 1) := by decide +kernel
theorem d_so_serve_19 : decode b_so_serve 19 = .ok (.iload_n 2, 1) := by decide +kernel
theorem d_so_serve_20 : decode b_so_serve 20 = .ok (.iastore, 1) := by decide +kernel
theorem d_so_serve_21 : decode b_so_serve 21 = .ok (.return_, 1) := by decide +kernel
theorem d_so_release_0 : decode b_so_release 0 = .ok (.aload_n 0, 1) := by decide +kernel
theorem d_so_release_1 : decode b_so_release 1 = .ok (.getfield 16, 3) := by decide +kernel
theorem d_so_release_4 : decode b_so_release 4 = .ok (.iload_n 1, 1) := by decide +kernel
theorem d_so_release_5 : decode b_so_release 5 = .ok (.iaload, 1) := by decide +kernel
theorem d_so_release_6 : decode b_so_release 6 = .ok (.ifCond .eq 15, 3) := by decide +kernel
theorem d_so_release_9 : decode b_so_release 9 = .ok (.aload_n 0, 1) := by decide +kernel
theorem d_so_release_10 : decode b_so_release 10 = .ok (.getfield 16, 3) := by decide +kernel
theorem d_so_release_13 : decode b_so_release 13 = .ok (.iload_n 1, 1) := by decide +kernel
theorem d_so_release_14 : decode b_so_release 14 = .ok (.iconst 0, 1) := by decide +kernel
theorem d_so_release_15 : decode b_so_release 15 = .ok (.iastore, 1) := by decide +kernel
theorem d_so_release_16 : decode b_so_release 16 = .ok (.aload_n 0, 1) := by decide +kernel
theorem d_so_release_17 : decode b_so_release 17 = .ok (.iload_n 1, 1) := by decide +kernel
theorem d_so_release_18 : decode b_so_release 18 = .ok (.invokevirtual 33, 3) := by decide +kernel
theorem d_so_release_21 : decode b_so_release 21 = .ok (.return_, 1) := by decide +kernel
theorem d_st_init_0 : decode b_st_init 0 = .ok (.aload_n 0, 1) := by decide +kernel
theorem d_st_init_1 : decode b_st_init 1 = .ok (.invokespecial 3, 3) := by decide +kernel
theorem d_st_init_4 : decode b_st_init 4 = .ok (.return_, 1) := by decide +kernel
theorem d_st_machineOpen_0 : decode b_st_machineOpen 0 = .ok (.aload_n 0, 1) := by decide +kernel
theorem d_st_machineOpen_1 : decode b_st_machineOpen 1 = .ok (.getfield 9, 3) := by decide +kernel
theorem d_st_machineOpen_4 : decode b_st_machineOpen 4 = .ok (.bipush 8, 2) := by decide +kernel
theorem d_st_machineOpen_6 : decode b_st_machineOpen 6 = .ok (.iand, 1) := by decide +kernel
theorem d_st_machineOpen_7 : decode b_st_machineOpen 7 = .ok (.ifCond .eq 7, 3) := by decide +kernel
theorem d_st_machineOpen_10 : decode b_st_machineOpen 10 = .ok (.iconst 1, 1) := by decide +kernel
theorem d_st_machineOpen_11 : decode b_st_machineOpen 11 = .ok (.goto 4, 3) := by decide +kernel
theorem d_st_machineOpen_14 : decode b_st_machineOpen 14 = .ok (.iconst 0, 1) := by decide +kernel
theorem d_st_machineOpen_15 : decode b_st_machineOpen 15 = .ok (.ireturn, 1) := by decide +kernel
theorem d_st_supervisorOpen_0 : decode b_st_supervisorOpen 0 = .ok (.aload_n 0, 1) := by decide +kernel
theorem d_st_supervisorOpen_1 : decode b_st_supervisorOpen 1 = .ok (.getfield 9, 3) := by decide +kernel
theorem d_st_supervisorOpen_4 : decode b_st_supervisorOpen 4 = .ok (.iconst 2, 1) := by decide +kernel
theorem d_st_supervisorOpen_5 : decode b_st_supervisorOpen 5 = .ok (.iand, 1) := by decide +kernel
theorem d_st_supervisorOpen_6 : decode b_st_supervisorOpen 6 = .ok (.ifCond .eq 7, 3) := by decide +kernel
theorem d_st_supervisorOpen_9 : decode b_st_supervisorOpen 9 = .ok (.iconst 1, 1) := by decide +kernel
theorem d_st_supervisorOpen_10 : decode b_st_supervisorOpen 10 = .ok (.goto 4, 3) := by decide +kernel
theorem d_st_supervisorOpen_13 : decode b_st_supervisorOpen 13 = .ok (.iconst 0, 1) := by decide +kernel
theorem d_st_supervisorOpen_14 : decode b_st_supervisorOpen 14 = .ok (.ireturn, 1) := by decide +kernel
theorem d_st_changeByMachine_0 : decode b_st_changeByMachine 0 = .ok (.iload_n 1, 1) := by decide +kernel
theorem d_st_changeByMachine_1 : decode b_st_changeByMachine 1 = .ok (.sipush 6144, 3) := by decide +kernel
theorem d_st_changeByMachine_4 : decode b_st_changeByMachine 4 = .ok (.iand, 1) := by decide +kernel
theorem d_st_changeByMachine_5 : decode b_st_changeByMachine 5 = .ok (.sipush 4096, 3) := by decide +kernel
theorem d_st_changeByMachine_8 : decode b_st_changeByMachine 8 = .ok (.if_icmp .ne 7, 3) := by decide +kernel
theorem d_st_changeByMachine_11 : decode b_st_changeByMachine 11 = .ok (.iconst 1, 1) := by decide +kernel
theorem d_st_changeByMachine_12 : decode b_st_changeByMachine 12 = .ok (.goto 4, 3) := by decide +kernel
theorem d_st_changeByMachine_15 : decode b_st_changeByMachine 15 = .ok (.iconst 0, 1) := by decide +kernel
theorem d_st_changeByMachine_16 : decode b_st_changeByMachine 16 = .ok (.istore_n 2, 1) := by decide +kernel
theorem d_st_changeByMachine_17 : decode b_st_changeByMachine 17 = .ok (.aload_n 0, 1) := by decide +kernel
theorem d_st_changeByMachine_18 : decode b_st_changeByMachine 18 = .ok (.aload_n 0, 1) := by decide +kernel
theorem d_st_changeByMachine_19 : decode b_st_changeByMachine 19 = .ok (.getfield 9, 3) := by decide +kernel
theorem d_st_changeByMachine_22 : decode b_st_changeByMachine 22 = .ok (.iload_n 1, 1) := by decide +kernel
theorem d_st_changeByMachine_23 : decode b_st_changeByMachine 23 = .ok (.iload_n 2, 1) := by decide +kernel
theorem d_st_changeByMachine_24 : decode b_st_changeByMachine 24 = .ok (.ifCond .eq 9, 3) := by decide +kernel
theorem d_st_changeByMachine_27 : decode b_st_changeByMachine 27 = .ok (.sipush 426, 3) := by decide +kernel
theorem d_st_changeByMachine_30 : decode b_st_changeByMachine 30 = .ok (.goto 6, 3) := by decide +kernel
theorem d_st_changeByMachine_33 : decode b_st_changeByMachine 33 = .ok (.sipush 6570, 3) := by decide +kernel
theorem d_st_changeByMachine_36 : decode b_st_changeByMachine 36 = .ok (.invokestatic 13, 3) := by decide +kernel
theorem d_st_changeByMachine_39 : decode b_st_changeByMachine 39 = .ok (.putfield 9, 3) := by decide +kernel
theorem d_st_changeByMachine_42 : decode b_st_changeByMachine 42 = .ok (.return_, 1) := by decide +kernel
theorem d_st_changeBySupervisor_0 : decode b_st_changeBySupervisor 0 = .ok (.aload_n 0, 1) := by decide +kernel
theorem d_st_changeBySupervisor_1 : decode b_st_changeBySupervisor 1 = .ok (.aload_n 0, 1) := by decide +kernel
theorem d_st_changeBySupervisor_2 : decode b_st_changeBySupervisor 2 = .ok (.getfield 9, 3) := by decide +kernel
theorem d_st_changeBySupervisor_5 : decode b_st_changeBySupervisor 5 = .ok (.iload_n 1, 1) := by decide +kernel
theorem d_st_changeBySupervisor_6 : decode b_st_changeBySupervisor 6 = .ok (.sipush 290, 3) := by decide +kernel
theorem d_st_changeBySupervisor_9 : decode b_st_changeBySupervisor 9 = .ok (.invokestatic 13, 3) := by decide +kernel
theorem d_st_changeBySupervisor_12 : decode b_st_changeBySupervisor 12 = .ok (.putfield 9, 3) := by decide +kernel
theorem d_st_changeBySupervisor_15 : decode b_st_changeBySupervisor 15 = .ok (.return_, 1) := by decide +kernel
theorem d_st_enterMachine_0 : decode b_st_enterMachine 0 = .ok (.aload_n 0, 1) := by decide +kernel
theorem d_st_enterMachine_1 : decode b_st_enterMachine 1 = .ok (.getfield 9, 3) := by decide +kernel
theorem d_st_enterMachine_4 : decode b_st_enterMachine 4 = .ok (.bipush 8, 2) := by decide +kernel
theorem d_st_enterMachine_6 : decode b_st_enterMachine 6 = .ok (.iand, 1) := by decide +kernel
theorem d_st_enterMachine_7 : decode b_st_enterMachine 7 = .ok (.iconst 4, 1) := by decide +kernel
theorem d_st_enterMachine_8 : decode b_st_enterMachine 8 = .ok (.ishl, 1) := by decide +kernel
theorem d_st_enterMachine_9 : decode b_st_enterMachine 9 = .ok (.iload_n 1, 1) := by decide +kernel
theorem d_st_enterMachine_10 : decode b_st_enterMachine 10 = .ok (.bipush 11, 2) := by decide +kernel
theorem d_st_enterMachine_12 : decode b_st_enterMachine 12 = .ok (.ishl, 1) := by decide +kernel
theorem d_st_enterMachine_13 : decode b_st_enterMachine 13 = .ok (.ior, 1) := by decide +kernel
theorem d_st_enterMachine_14 : decode b_st_enterMachine 14 = .ok (.istore_n 2, 1) := by decide +kernel
theorem d_st_enterMachine_15 : decode b_st_enterMachine 15 = .ok (.aload_n 0, 1) := by decide +kernel
theorem d_st_enterMachine_16 : decode b_st_enterMachine 16 = .ok (.aload_n 0, 1) := by decide +kernel
theorem d_st_enterMachine_17 : decode b_st_enterMachine 17 = .ok (.getfield 9, 3) := by decide +kernel
theorem d_st_enterMachine_20 : decode b_st_enterMachine 20 = .ok (.iload_n 2, 1) := by decide +kernel
theorem d_st_enterMachine_21 : decode b_st_enterMachine 21 = .ok (.sipush 6280, 3) := by decide +kernel
theorem d_st_enterMachine_24 : decode b_st_enterMachine 24 = .ok (.invokestatic 13, 3) := by decide +kernel
theorem d_st_enterMachine_27 : decode b_st_enterMachine 27 = .ok (.putfield 9, 3) := by decide +kernel
theorem d_st_enterMachine_30 : decode b_st_enterMachine 30 = .ok (.return_, 1) := by decide +kernel
theorem d_st_enterSupervisor_0 : decode b_st_enterSupervisor 0 = .ok (.aload_n 0, 1) := by decide +kernel
theorem d_st_enterSupervisor_1 : decode b_st_enterSupervisor 1 = .ok (.getfield 9, 3) := by decide +kernel
theorem d_st_enterSupervisor_4 : decode b_st_enterSupervisor 4 = .ok (.iconst 2, 1) := by decide +kernel
theorem d_st_enterSupervisor_5 : decode b_st_enterSupervisor 5 = .ok (.iand, 1) := by decide +kernel
theorem d_st_enterSupervisor_6 : decode b_st_enterSupervisor 6 = .ok (.iconst 4, 1) := by decide +kernel
theorem d_st_enterSupervisor_7 : decode b_st_enterSupervisor 7 = .ok (.ishl, 1) := by decide +kernel
theorem d_st_enterSupervisor_8 : decode b_st_enterSupervisor 8 = .ok (.iload_n 1, 1) := by decide +kernel
theorem d_st_enterSupervisor_9 : decode b_st_enterSupervisor 9 = .ok (.bipush 8, 2) := by decide +kernel
theorem d_st_enterSupervisor_11 : decode b_st_enterSupervisor 11 = .ok (.ishl, 1) := by decide +kernel
theorem d_st_enterSupervisor_12 : decode b_st_enterSupervisor 12 = .ok (.ior, 1) := by decide +kernel
theorem d_st_enterSupervisor_13 : decode b_st_enterSupervisor 13 = .ok (.istore_n 2, 1) := by decide +kernel
theorem d_st_enterSupervisor_14 : decode b_st_enterSupervisor 14 = .ok (.aload_n 0, 1) := by decide +kernel
theorem d_st_enterSupervisor_15 : decode b_st_enterSupervisor 15 = .ok (.aload_n 0, 1) := by decide +kernel
theorem d_st_enterSupervisor_16 : decode b_st_enterSupervisor 16 = .ok (.getfield 9, 3) := by decide +kernel
theorem d_st_enterSupervisor_19 : decode b_st_enterSupervisor 19 = .ok (.iload_n 2, 1) := by decide +kernel
theorem d_st_enterSupervisor_20 : decode b_st_enterSupervisor 20 = .ok (.sipush 290, 3) := by decide +kernel
theorem d_st_enterSupervisor_23 : decode b_st_enterSupervisor 23 = .ok (.invokestatic 13, 3) := by decide +kernel
theorem d_st_enterSupervisor_26 : decode b_st_enterSupervisor 26 = .ok (.putfield 9, 3) := by decide +kernel
theorem d_st_enterSupervisor_29 : decode b_st_enterSupervisor 29 = .ok (.return_, 1) := by decide +kernel
theorem d_st_leaveMachine_0 : decode b_st_leaveMachine 0 = .ok (.aload_n 0, 1) := by decide +kernel
theorem d_st_leaveMachine_1 : decode b_st_leaveMachine 1 = .ok (.getfield 9, 3) := by decide +kernel
theorem d_st_leaveMachine_4 : decode b_st_leaveMachine 4 = .ok (.sipush 6144, 3) := by decide +kernel
theorem d_st_leaveMachine_7 : decode b_st_leaveMachine 7 = .ok (.iand, 1) := by decide +kernel
theorem d_st_leaveMachine_8 : decode b_st_leaveMachine 8 = .ok (.bipush 11, 2) := by decide +kernel
theorem d_st_leaveMachine_10 : decode b_st_leaveMachine 10 = .ok (.ishr, 1) := by decide +kernel
theorem d_st_leaveMachine_11 : decode b_st_leaveMachine 11 = .ok (.istore_n 1, 1) := by decide +kernel
theorem d_st_leaveMachine_12 : decode b_st_leaveMachine 12 = .ok (.aload_n 0, 1) := by decide +kernel
theorem d_st_leaveMachine_13 : decode b_st_leaveMachine 13 = .ok (.getfield 9, 3) := by decide +kernel
theorem d_st_leaveMachine_16 : decode b_st_leaveMachine 16 = .ok (.sipush 128, 3) := by decide +kernel
theorem d_st_leaveMachine_19 : decode b_st_leaveMachine 19 = .ok (.iand, 1) := by decide +kernel
theorem d_st_leaveMachine_20 : decode b_st_leaveMachine 20 = .ok (.iconst 4, 1) := by decide +kernel
theorem d_st_leaveMachine_21 : decode b_st_leaveMachine 21 = .ok (.ishr, 1) := by decide +kernel
theorem d_st_leaveMachine_22 : decode b_st_leaveMachine 22 = .ok (.sipush 128, 3) := by decide +kernel
theorem d_st_leaveMachine_25 : decode b_st_leaveMachine 25 = .ok (.ior, 1) := by decide +kernel
theorem d_st_leaveMachine_26 : decode b_st_leaveMachine 26 = .ok (.istore_n 2, 1) := by decide +kernel
theorem d_st_leaveMachine_27 : decode b_st_leaveMachine 27 = .ok (.aload_n 0, 1) := by decide +kernel
theorem d_st_leaveMachine_28 : decode b_st_leaveMachine 28 = .ok (.aload_n 0, 1) := by decide +kernel
theorem d_st_leaveMachine_29 : decode b_st_leaveMachine 29 = .ok (.getfield 9, 3) := by decide +kernel
theorem d_st_leaveMachine_32 : decode b_st_leaveMachine 32 = .ok (.iload_n 2, 1) := by decide +kernel
theorem d_st_leaveMachine_33 : decode b_st_leaveMachine 33 = .ok (.sipush 6280, 3) := by decide +kernel
theorem d_st_leaveMachine_36 : decode b_st_leaveMachine 36 = .ok (.invokestatic 13, 3) := by decide +kernel
theorem d_st_leaveMachine_39 : decode b_st_leaveMachine 39 = .ok (.putfield 9, 3) := by decide +kernel
theorem d_st_leaveMachine_42 : decode b_st_leaveMachine 42 = .ok (.iload_n 1, 1) := by decide +kernel
theorem d_st_leaveMachine_43 : decode b_st_leaveMachine 43 = .ok (.ireturn, 1) := by decide +kernel
theorem d_st_leaveSupervisor_0 : decode b_st_leaveSupervisor 0 = .ok (.aload_n 0, 1) := by decide +kernel
theorem d_st_leaveSupervisor_1 : decode b_st_leaveSupervisor 1 = .ok (.getfield 9, 3) := by decide +kernel
theorem d_st_leaveSupervisor_4 : decode b_st_leaveSupervisor 4 = .ok (.sipush 256, 3) := by decide +kernel
theorem d_st_leaveSupervisor_7 : decode b_st_leaveSupervisor 7 = .ok (.iand, 1) := by decide +kernel
theorem d_st_leaveSupervisor_8 : decode b_st_leaveSupervisor 8 = .ok (.bipush 8, 2) := by decide +kernel
theorem d_st_leaveSupervisor_10 : decode b_st_leaveSupervisor 10 = .ok (.ishr, 1) := by decide +kernel
theorem d_st_leaveSupervisor_11 : decode b_st_leaveSupervisor 11 = .ok (.istore_n 1, 1) := by decide +kernel
theorem d_st_leaveSupervisor_12 : decode b_st_leaveSupervisor 12 = .ok (.aload_n 0, 1) := by decide +kernel
theorem d_st_leaveSupervisor_13 : decode b_st_leaveSupervisor 13 = .ok (.getfield 9, 3) := by decide +kernel
theorem d_st_leaveSupervisor_16 : decode b_st_leaveSupervisor 16 = .ok (.bipush 32, 2) := by decide +kernel
theorem d_st_leaveSupervisor_18 : decode b_st_leaveSupervisor 18 = .ok (.iand, 1) := by decide +kernel
theorem d_st_leaveSupervisor_19 : decode b_st_leaveSupervisor 19 = .ok (.iconst 4, 1) := by decide +kernel
theorem d_st_leaveSupervisor_20 : decode b_st_leaveSupervisor 20 = .ok (.ishr, 1) := by decide +kernel
theorem d_st_leaveSupervisor_21 : decode b_st_leaveSupervisor 21 = .ok (.bipush 32, 2) := by decide +kernel
theorem d_st_leaveSupervisor_23 : decode b_st_leaveSupervisor 23 = .ok (.ior, 1) := by decide +kernel
theorem d_st_leaveSupervisor_24 : decode b_st_leaveSupervisor 24 = .ok (.istore_n 2, 1) := by decide +kernel
end
section
theorem d_st_leaveSupervisor_25 : decode b_st_leaveSupervisor 25 = .ok (.aload_n 0, 1) := by decide +kernel
theorem d_st_leaveSupervisor_26 : decode b_st_leaveSupervisor 26 = .ok (.aload_n 0, 1) := by decide +kernel
theorem d_st_leaveSupervisor_27 : decode b_st_leaveSupervisor 27 = .ok (.getfield 9, 3) := by decide +kernel
theorem d_st_leaveSupervisor_30 : decode b_st_leaveSupervisor 30 = .ok (.iload_n 2, 1) := by decide +kernel
theorem d_st_leaveSupervisor_31 : decode b_st_leaveSupervisor 31 = .ok (.sipush 290, 3) := by decide +kernel
theorem d_st_leaveSupervisor_34 : decode b_st_leaveSupervisor 34 = .ok (.invokestatic 13, 3) := by decide +kernel
theorem d_st_leaveSupervisor_37 : decode b_st_leaveSupervisor 37 = .ok (.putfield 9, 3) := by decide +kernel
theorem d_st_leaveSupervisor_40 : decode b_st_leaveSupervisor 40 = .ok (.iload_n 1, 1) := by decide +kernel
theorem d_st_leaveSupervisor_41 : decode b_st_leaveSupervisor 41 = .ok (.ireturn, 1) := by decide +kernel
theorem d_tm_init_0 : decode b_tm_init 0 = .ok (.aload_n 0, 1) := by decide +kernel
theorem d_tm_init_1 : decode b_tm_init 1 = .ok (.invokespecial 1, 3) := by decide +kernel
theorem d_tm_init_4 : decode b_tm_init 4 = .ok (.aload_n 0, 1) := by decide +kernel
theorem d_tm_init_5 : decode b_tm_init 5 = .ok (.lconst 0, 1) := by decide +kernel
theorem d_tm_init_6 : decode b_tm_init 6 = .ok (.putfield 7, 3) := by decide +kernel
theorem d_tm_init_9 : decode b_tm_init 9 = .ok (.aload_n 0, 1) := by decide +kernel
theorem d_tm_init_10 : decode b_tm_init 10 = .ok (.ldc2_w 13, 3) := by decide +kernel
theorem d_tm_init_13 : decode b_tm_init 13 = .ok (.putfield 15, 3) := by decide +kernel
theorem d_tm_init_16 : decode b_tm_init 16 = .ok (.aload_n 0, 1) := by decide +kernel
theorem d_tm_init_17 : decode b_tm_init 17 = .ok (.iconst 0, 1) := by decide +kernel
theorem d_tm_init_18 : decode b_tm_init 18 = .ok (.putfield 18, 3) := by decide +kernel
theorem d_tm_init_21 : decode b_tm_init 21 = .ok (.return_, 1) := by decide +kernel
theorem d_tm_isReached_0 : decode b_tm_isReached 0 = .ok (.aload_n 0, 1) := by decide +kernel
theorem d_tm_isReached_1 : decode b_tm_isReached 1 = .ok (.getfield 7, 3) := by decide +kernel
theorem d_tm_isReached_4 : decode b_tm_isReached 4 = .ok (.ldc2_w 22, 3) := by decide +kernel
theorem d_tm_isReached_7 : decode b_tm_isReached 7 = .ok (.lxor, 1) := by decide +kernel
theorem d_tm_isReached_8 : decode b_tm_isReached 8 = .ok (.aload_n 0, 1) := by decide +kernel
theorem d_tm_isReached_9 : decode b_tm_isReached 9 = .ok (.getfield 15, 3) := by decide +kernel
theorem d_tm_isReached_12 : decode b_tm_isReached 12 = .ok (.ldc2_w 22, 3) := by decide +kernel
theorem d_tm_isReached_15 : decode b_tm_isReached 15 = .ok (.lxor, 1) := by decide +kernel
theorem d_tm_isReached_16 : decode b_tm_isReached 16 = .ok (.lcmp, 1) := by decide +kernel
theorem d_tm_isReached_17 : decode b_tm_isReached 17 = .ok (.ifCond .lt 7, 3) := by decide +kernel
theorem d_tm_isReached_20 : decode b_tm_isReached 20 = .ok (.iconst 1, 1) := by decide +kernel
theorem d_tm_isReached_21 : decode b_tm_isReached 21 = .ok (.goto 4, 3) := by decide +kernel
theorem d_tm_isReached_24 : decode b_tm_isReached 24 = .ok (.iconst 0, 1) := by decide +kernel
theorem d_tm_isReached_25 : decode b_tm_isReached 25 = .ok (.ireturn, 1) := by decide +kernel
theorem d_tm_withLower_0 : decode b_tm_withLower 0 = .ok (.lload_n 0, 1) := by decide +kernel
theorem d_tm_withLower_1 : decode b_tm_withLower 1 = .ok (.ldc2_w 24, 3) := by decide +kernel
theorem d_tm_withLower_4 : decode b_tm_withLower 4 = .ok (.land, 1) := by decide +kernel
theorem d_tm_withLower_5 : decode b_tm_withLower 5 = .ok (.iload_n 2, 1) := by decide +kernel
theorem d_tm_withLower_6 : decode b_tm_withLower 6 = .ok (.i2l, 1) := by decide +kernel
theorem d_tm_withLower_7 : decode b_tm_withLower 7 = .ok (.ldc2_w 26, 3) := by decide +kernel
theorem d_tm_withLower_10 : decode b_tm_withLower 10 = .ok (.land, 1) := by decide +kernel
theorem d_tm_withLower_11 : decode b_tm_withLower 11 = .ok (.lor, 1) := by decide +kernel
theorem d_tm_withLower_12 : decode b_tm_withLower 12 = .ok (.lreturn, 1) := by decide +kernel
theorem d_tm_withHigher_0 : decode b_tm_withHigher 0 = .ok (.lload_n 0, 1) := by decide +kernel
theorem d_tm_withHigher_1 : decode b_tm_withHigher 1 = .ok (.ldc2_w 26, 3) := by decide +kernel
theorem d_tm_withHigher_4 : decode b_tm_withHigher 4 = .ok (.land, 1) := by decide +kernel
theorem d_tm_withHigher_5 : decode b_tm_withHigher 5 = .ok (.iload_n 2, 1) := by decide +kernel
theorem d_tm_withHigher_6 : decode b_tm_withHigher 6 = .ok (.i2l, 1) := by decide +kernel
theorem d_tm_withHigher_7 : decode b_tm_withHigher 7 = .ok (.bipush 32, 2) := by decide +kernel
theorem d_tm_withHigher_9 : decode b_tm_withHigher 9 = .ok (.lshl, 1) := by decide +kernel
theorem d_tm_withHigher_10 : decode b_tm_withHigher 10 = .ok (.lor, 1) := by decide +kernel
theorem d_tm_withHigher_11 : decode b_tm_withHigher 11 = .ok (.lreturn, 1) := by decide +kernel
theorem d_la_cell_0 : decode b_la_cell 0 = .ok (.iload_n 1, 1) := by decide +kernel
theorem d_la_cell_1 : decode b_la_cell 1 = .ok (.aload_n 0, 1) := by decide +kernel
theorem d_la_cell_2 : decode b_la_cell 2 = .ok (.arraylength, 1) := by decide +kernel
theorem d_la_cell_3 : decode b_la_cell 3 = .ok (.if_icmp .ge 9, 3) := by decide +kernel
theorem d_la_cell_6 : decode b_la_cell 6 = .ok (.aload_n 0, 1) := by decide +kernel
theorem d_la_cell_7 : decode b_la_cell 7 = .ok (.iload_n 1, 1) := by decide +kernel
theorem d_la_cell_8 : decode b_la_cell 8 = .ok (.iaload, 1) := by decide +kernel
theorem d_la_cell_9 : decode b_la_cell 9 = .ok (.goto 4, 3) := by decide +kernel
theorem d_la_cell_12 : decode b_la_cell 12 = .ok (.iconst 0, 1) := by decide +kernel
theorem d_la_cell_13 : decode b_la_cell 13 = .ok (.ireturn, 1) := by decide +kernel
theorem d_la_ticks_0 : decode b_la_ticks 0 = .ok (.aload_n 0, 1) := by decide +kernel
theorem d_la_ticks_1 : decode b_la_ticks 1 = .ok (.iload_n 1, 1) := by decide +kernel
theorem d_la_ticks_2 : decode b_la_ticks 2 = .ok (.invokevirtual 7, 3) := by decide +kernel
theorem d_la_ticks_5 : decode b_la_ticks 5 = .ok (.goto 6, 3) := by decide +kernel
theorem d_la_ticks_8 : decode b_la_ticks 8 = .ok (.astore_n 2, 1) := by decide +kernel
theorem d_la_ticks_9 : decode b_la_ticks 9 = .ok (.iconst 1, 1) := by decide +kernel
theorem d_la_ticks_10 : decode b_la_ticks 10 = .ok (.ireturn, 1) := by decide +kernel
theorem d_la_ticks_11 : decode b_la_ticks 11 = .ok (.iconst 0, 1) := by decide +kernel
theorem d_la_ticks_12 : decode b_la_ticks 12 = .ok (.ireturn, 1) := by decide +kernel
theorem d_la_load_0 : decode b_la_load 0 = .ok (.aload_n 2, 1) := by decide +kernel
theorem d_la_load_1 : decode b_la_load 1 = .ok (.iconst 0, 1) := by decide +kernel
theorem d_la_load_2 : decode b_la_load 2 = .ok (.aload_n 0, 1) := by decide +kernel
theorem d_la_load_3 : decode b_la_load 3 = .ok (.iload_n 1, 1) := by decide +kernel
theorem d_la_load_4 : decode b_la_load 4 = .ok (.invokevirtual 15, 3) := by decide +kernel
theorem d_la_load_7 : decode b_la_load 7 = .ok (.i2l, 1) := by decide +kernel
theorem d_la_load_8 : decode b_la_load 8 = .ok (.lastore, 1) := by decide +kernel
theorem d_la_load_9 : decode b_la_load 9 = .ok (.goto 9, 3) := by decide +kernel
theorem d_la_load_12 : decode b_la_load 12 = .ok (.astore_n 3, 1) := by decide +kernel
theorem d_la_load_13 : decode b_la_load 13 = .ok (.iconst 1, 1) := by decide +kernel
theorem d_la_load_14 : decode b_la_load 14 = .ok (.ireturn, 1) := by decide +kernel
theorem d_la_load_15 : decode b_la_load 15 = .ok (.astore_n 3, 1) := by decide +kernel
theorem d_la_load_16 : decode b_la_load 16 = .ok (.iconst 2, 1) := by decide +kernel
theorem d_la_load_17 : decode b_la_load 17 = .ok (.ireturn, 1) := by decide +kernel
theorem d_la_load_18 : decode b_la_load 18 = .ok (.iconst 0, 1) := by decide +kernel
theorem d_la_load_19 : decode b_la_load 19 = .ok (.ireturn, 1) := by decide +kernel
theorem d_la_store_0 : decode b_la_store 0 = .ok (.aload_n 0, 1) := by decide +kernel
theorem d_la_store_1 : decode b_la_store 1 = .ok (.iload_n 1, 1) := by decide +kernel
theorem d_la_store_2 : decode b_la_store 2 = .ok (.iload_n 2, 1) := by decide +kernel
theorem d_la_store_3 : decode b_la_store 3 = .ok (.invokevirtual 21, 3) := by decide +kernel
theorem d_la_store_6 : decode b_la_store 6 = .ok (.goto 12, 3) := by decide +kernel
theorem d_la_store_9 : decode b_la_store 9 = .ok (.astore_n 3, 1) := by decide +kernel
theorem d_la_store_10 : decode b_la_store 10 = .ok (.iconst 1, 1) := by decide +kernel
theorem d_la_store_11 : decode b_la_store 11 = .ok (.ireturn, 1) := by decide +kernel
theorem d_la_store_12 : decode b_la_store 12 = .ok (.astore_n 3, 1) := by decide +kernel
theorem d_la_store_13 : decode b_la_store 13 = .ok (.iconst 2, 1) := by decide +kernel
theorem d_la_store_14 : decode b_la_store 14 = .ok (.ireturn, 1) := by decide +kernel
theorem d_la_store_15 : decode b_la_store 15 = .ok (.astore_n 3, 1) := by decide +kernel
theorem d_la_store_16 : decode b_la_store 16 = .ok (.iconst 3, 1) := by decide +kernel
theorem d_la_store_17 : decode b_la_store 17 = .ok (.ireturn, 1) := by decide +kernel
theorem d_la_store_18 : decode b_la_store 18 = .ok (.iconst 0, 1) := by decide +kernel
theorem d_la_store_19 : decode b_la_store 19 = .ok (.ireturn, 1) := by decide +kernel
theorem d_la_read_0 : decode b_la_read 0 = .ok (.aload_n 2, 1) := by decide +kernel
theorem d_la_read_1 : decode b_la_read 1 = .ok (.iconst 0, 1) := by decide +kernel
theorem d_la_read_2 : decode b_la_read 2 = .ok (.aload_n 0, 1) := by decide +kernel
theorem d_la_read_3 : decode b_la_read 3 = .ok (.iload_n 1, 1) := by decide +kernel
theorem d_la_read_4 : decode b_la_read 4 = .ok (.invokevirtual 27, 3) := by decide +kernel
theorem d_la_read_7 : decode b_la_read 7 = .ok (.i2l, 1) := by decide +kernel
theorem d_la_read_8 : decode b_la_read 8 = .ok (.lastore, 1) := by decide +kernel
theorem d_la_read_9 : decode b_la_read 9 = .ok (.goto 9, 3) := by decide +kernel
theorem d_la_read_12 : decode b_la_read 12 = .ok (.astore_n 3, 1) := by decide +kernel
theorem d_la_read_13 : decode b_la_read 13 = .ok (.iconst 1, 1) := by decide +kernel
theorem d_la_read_14 : decode b_la_read 14 = .ok (.ireturn, 1) := by decide +kernel
theorem d_la_read_15 : decode b_la_read 15 = .ok (.astore_n 3, 1) := by decide +kernel
theorem d_la_read_16 : decode b_la_read 16 = .ok (.iconst 2, 1) := by decide +kernel
theorem d_la_read_17 : decode b_la_read 17 = .ok (.ireturn, 1) := by decide +kernel
theorem d_la_read_18 : decode b_la_read 18 = .ok (.iconst 0, 1) := by decide +kernel
theorem d_la_read_19 : decode b_la_read 19 = .ok (.ireturn, 1) := by decide +kernel
theorem d_la_write_0 : decode b_la_write 0 = .ok (.aload_n 0, 1) := by decide +kernel
theorem d_la_write_1 : decode b_la_write 1 = .ok (.iload_n 1, 1) := by decide +kernel
theorem d_la_write_2 : decode b_la_write 2 = .ok (.iload_n 2, 1) := by decide +kernel
theorem d_la_write_3 : decode b_la_write 3 = .ok (.invokevirtual 34, 3) := by decide +kernel
theorem d_la_write_6 : decode b_la_write 6 = .ok (.goto 9, 3) := by decide +kernel
theorem d_la_write_9 : decode b_la_write 9 = .ok (.astore_n 3, 1) := by decide +kernel
theorem d_la_write_10 : decode b_la_write 10 = .ok (.iconst 1, 1) := by decide +kernel
theorem d_la_write_11 : decode b_la_write 11 = .ok (.ireturn, 1) := by decide +kernel
theorem d_la_write_12 : decode b_la_write 12 = .ok (.astore_n 3, 1) := by decide +kernel
theorem d_la_write_13 : decode b_la_write 13 = .ok (.iconst 2, 1) := by decide +kernel
theorem d_la_write_14 : decode b_la_write 14 = .ok (.ireturn, 1) := by decide +kernel
theorem d_la_write_15 : decode b_la_write 15 = .ok (.iconst 0, 1) := by decide +kernel
theorem d_la_write_16 : decode b_la_write 16 = .ok (.ireturn, 1) := by decide +kernel
theorem d_la_raise_0 : decode b_la_raise 0 = .ok (.aload_n 2, 1) := by decide +kernel
theorem d_la_raise_1 : decode b_la_raise 1 = .ok (.iconst 0, 1) := by decide +kernel
theorem d_la_raise_2 : decode b_la_raise 2 = .ok (.aload_n 0, 1) := by decide +kernel
theorem d_la_raise_3 : decode b_la_raise 3 = .ok (.iload_n 1, 1) := by decide +kernel
theorem d_la_raise_4 : decode b_la_raise 4 = .ok (.invokevirtual 37, 3) := by decide +kernel
theorem d_la_raise_7 : decode b_la_raise 7 = .ok (.i2l, 1) := by decide +kernel
theorem d_la_raise_8 : decode b_la_raise 8 = .ok (.lastore, 1) := by decide +kernel
theorem d_la_raise_9 : decode b_la_raise 9 = .ok (.goto 6, 3) := by decide +kernel
theorem d_la_raise_12 : decode b_la_raise 12 = .ok (.astore_n 3, 1) := by decide +kernel
theorem d_la_raise_13 : decode b_la_raise 13 = .ok (.iconst 1, 1) := by decide +kernel
theorem d_la_raise_14 : decode b_la_raise 14 = .ok (.ireturn, 1) := by decide +kernel
theorem d_la_raise_15 : decode b_la_raise 15 = .ok (.iconst 0, 1) := by decide +kernel
theorem d_la_raise_16 : decode b_la_raise 16 = .ok (.ireturn, 1) := by decide +kernel
theorem d_la_leave_0 : decode b_la_leave 0 = .ok (.aload_n 2, 1) := by decide +kernel
theorem d_la_leave_1 : decode b_la_leave 1 = .ok (.iconst 0, 1) := by decide +kernel
theorem d_la_leave_2 : decode b_la_leave 2 = .ok (.aload_n 0, 1) := by decide +kernel
theorem d_la_leave_3 : decode b_la_leave 3 = .ok (.iload_n 1, 1) := by decide +kernel
theorem d_la_leave_4 : decode b_la_leave 4 = .ok (.invokevirtual 40, 3) := by decide +kernel
theorem d_la_leave_7 : decode b_la_leave 7 = .ok (.i2l, 1) := by decide +kernel
theorem d_la_leave_8 : decode b_la_leave 8 = .ok (.lastore, 1) := by decide +kernel
theorem d_la_leave_9 : decode b_la_leave 9 = .ok (.goto 6, 3) := by decide +kernel
theorem d_la_leave_12 : decode b_la_leave 12 = .ok (.astore_n 3, 1) := by decide +kernel
theorem d_la_leave_13 : decode b_la_leave 13 = .ok (.iconst 1, 1) := by decide +kernel
theorem d_la_leave_14 : decode b_la_leave 14 = .ok (.ireturn, 1) := by decide +kernel
theorem d_la_leave_15 : decode b_la_leave 15 = .ok (.iconst 0, 1) := by decide +kernel
theorem d_la_leave_16 : decode b_la_leave 16 = .ok (.ireturn, 1) := by decide +kernel
theorem d_la_source_0 : decode b_la_source 0 = .ok (.aload_n 2, 1) := by decide +kernel
theorem d_la_source_1 : decode b_la_source 1 = .ok (.iconst 0, 1) := by decide +kernel
theorem d_la_source_2 : decode b_la_source 2 = .ok (.aload_n 0, 1) := by decide +kernel
theorem d_la_source_3 : decode b_la_source 3 = .ok (.iload_n 1, 1) := by decide +kernel
theorem d_la_source_4 : decode b_la_source 4 = .ok (.invokevirtual 44, 3) := by decide +kernel
theorem d_la_source_7 : decode b_la_source 7 = .ok (.i2l, 1) := by decide +kernel
theorem d_la_source_8 : decode b_la_source 8 = .ok (.lastore, 1) := by decide +kernel
theorem d_la_source_9 : decode b_la_source 9 = .ok (.goto 6, 3) := by decide +kernel
theorem d_la_source_12 : decode b_la_source 12 = .ok (.astore_n 3, 1) := by decide +kernel
theorem d_la_source_13 : decode b_la_source 13 = .ok (.iconst 1, 1) := by decide +kernel
theorem d_la_source_14 : decode b_la_source 14 = .ok (.ireturn, 1) := by decide +kernel
theorem d_la_source_15 : decode b_la_source 15 = .ok (.iconst 0, 1) := by decide +kernel
theorem d_la_source_16 : decode b_la_source 16 = .ok (.ireturn, 1) := by decide +kernel
theorem d_la_law_0 : decode b_la_law 0 = .ok (.new 8, 3) := by decide +kernel
theorem d_la_law_3 : decode b_la_law 3 = .ok (.dup, 1) := by decide +kernel
theorem d_la_law_4 : decode b_la_law 4 = .ok (.aload_n 0, 1) := by decide +kernel
theorem d_la_law_5 : decode b_la_law 5 = .ok (.iconst 0, 1) := by decide +kernel
theorem d_la_law_6 : decode b_la_law 6 = .ok (.invokestatic 47, 3) := by decide +kernel
theorem d_la_law_9 : decode b_la_law 9 = .ok (.invokespecial 53, 3) := by decide +kernel
theorem d_la_law_12 : decode b_la_law 12 = .ok (.astore_n 1, 1) := by decide +kernel
theorem d_la_law_13 : decode b_la_law 13 = .ok (.new 55, 3) := by decide +kernel
theorem d_la_law_16 : decode b_la_law 16 = .ok (.dup, 1) := by decide +kernel
theorem d_la_law_17 : decode b_la_law 17 = .ok (.aload_n 0, 1) := by decide +kernel
theorem d_la_law_18 : decode b_la_law 18 = .ok (.iconst 0, 1) := by decide +kernel
theorem d_la_law_19 : decode b_la_law 19 = .ok (.invokestatic 47, 3) := by decide +kernel
theorem d_la_law_22 : decode b_la_law 22 = .ok (.invokespecial 57, 3) := by decide +kernel
theorem d_la_law_25 : decode b_la_law 25 = .ok (.astore_n 2, 1) := by decide +kernel
theorem d_la_law_26 : decode b_la_law 26 = .ok (.iconst 1, 1) := by decide +kernel
theorem d_la_law_27 : decode b_la_law 27 = .ok (.newarray .long, 2) := by decide +kernel
theorem d_la_law_29 : decode b_la_law 29 = .ok (.astore_n 3, 1) := by decide +kernel
theorem d_la_law_30 : decode b_la_law 30 = .ok (.iconst 1, 1) := by decide +kernel
theorem d_la_law_31 : decode b_la_law 31 = .ok (.istore 4, 2) := by decide +kernel
theorem d_la_law_33 : decode b_la_law 33 = .ok (.iload 4, 2) := by decide +kernel
theorem d_la_law_35 : decode b_la_law 35 = .ok (.aload_n 0, 1) := by decide +kernel
theorem d_la_law_36 : decode b_la_law 36 = .ok (.arraylength, 1) := by decide +kernel
theorem d_la_law_37 : decode b_la_law 37 = .ok (.iconst 4, 1) := by decide +kernel
theorem d_la_law_38 : decode b_la_law 38 = .ok (.isub, 1) := by decide +kernel
theorem d_la_law_39 : decode b_la_law 39 = .ok (.if_icmp .gt 658, 3) := by decide +kernel
theorem d_la_law_42 : decode b_la_law 42 = .ok (.aload_n 0, 1) := by decide +kernel
theorem d_la_law_43 : decode b_la_law 43 = .ok (.iload 4, 2) := by decide +kernel
theorem d_la_law_45 : decode b_la_law 45 = .ok (.iaload, 1) := by decide +kernel
theorem d_la_law_46 : decode b_la_law 46 = .ok (.bipush 15, 2) := by decide +kernel
theorem d_la_law_48 : decode b_la_law 48 = .ok (.iand, 1) := by decide +kernel
theorem d_la_law_49 : decode b_la_law 49 = .ok (.tableswitch 642 0 13 #[71, 96, 132, 188, 236, 302, 358, 406, 419, 475, 547, 560, 573, 586], 71) := by decide +kernel
theorem d_la_law_120 : decode b_la_law 120 = .ok (.aload_n 1, 1) := by decide +kernel
theorem d_la_law_121 : decode b_la_law 121 = .ok (.aload_n 0, 1) := by decide +kernel
theorem d_la_law_122 : decode b_la_law 122 = .ok (.iload 4, 2) := by decide +kernel
theorem d_la_law_124 : decode b_la_law 124 = .ok (.iconst 1, 1) := by decide +kernel
theorem d_la_law_125 : decode b_la_law 125 = .ok (.iadd, 1) := by decide +kernel
theorem d_la_law_126 : decode b_la_law 126 = .ok (.iaload, 1) := by decide +kernel
theorem d_la_law_127 : decode b_la_law 127 = .ok (.invokevirtual 58, 3) := by decide +kernel
theorem d_la_law_130 : decode b_la_law 130 = .ok (.aload_n 2, 1) := by decide +kernel
theorem d_la_law_131 : decode b_la_law 131 = .ok (.aload_n 0, 1) := by decide +kernel
theorem d_la_law_132 : decode b_la_law 132 = .ok (.iload 4, 2) := by decide +kernel
theorem d_la_law_134 : decode b_la_law 134 = .ok (.iconst 1, 1) := by decide +kernel
theorem d_la_law_135 : decode b_la_law 135 = .ok (.iadd, 1) := by decide +kernel
theorem d_la_law_136 : decode b_la_law 136 = .ok (.iaload, 1) := by decide +kernel
theorem d_la_law_137 : decode b_la_law 137 = .ok (.invokevirtual 61, 3) := by decide +kernel
theorem d_la_law_140 : decode b_la_law 140 = .ok (.if_icmp .eq 551, 3) := by decide +kernel
theorem d_la_law_143 : decode b_la_law 143 = .ok (.iconst 0, 1) := by decide +kernel
theorem d_la_law_144 : decode b_la_law 144 = .ok (.ireturn, 1) := by decide +kernel
theorem d_la_law_145 : decode b_la_law 145 = .ok (.aload_n 1, 1) := by decide +kernel
theorem d_la_law_146 : decode b_la_law 146 = .ok (.aload_n 0, 1) := by decide +kernel
theorem d_la_law_147 : decode b_la_law 147 = .ok (.iload 4, 2) := by decide +kernel
theorem d_la_law_149 : decode b_la_law 149 = .ok (.iconst 1, 1) := by decide +kernel
theorem d_la_law_150 : decode b_la_law 150 = .ok (.iadd, 1) := by decide +kernel
theorem d_la_law_151 : decode b_la_law 151 = .ok (.iaload, 1) := by decide +kernel
theorem d_la_law_152 : decode b_la_law 152 = .ok (.invokestatic 62, 3) := by decide +kernel
theorem d_la_law_155 : decode b_la_law 155 = .ok (.istore 5, 2) := by decide +kernel
theorem d_la_law_157 : decode b_la_law 157 = .ok (.aload_n 2, 1) := by decide +kernel
theorem d_la_law_158 : decode b_la_law 158 = .ok (.aload_n 0, 1) := by decide +kernel
theorem d_la_law_159 : decode b_la_law 159 = .ok (.iload 4, 2) := by decide +kernel
theorem d_la_law_161 : decode b_la_law 161 = .ok (.iconst 1, 1) := by decide +kernel
theorem d_la_law_162 : decode b_la_law 162 = .ok (.iadd, 1) := by decide +kernel
theorem d_la_law_163 : decode b_la_law 163 = .ok (.iaload, 1) := by decide +kernel
theorem d_la_law_164 : decode b_la_law 164 = .ok (.invokevirtual 65, 3) := by decide +kernel
theorem d_la_law_167 : decode b_la_law 167 = .ok (.aload_n 2, 1) := by decide +kernel
theorem d_la_law_168 : decode b_la_law 168 = .ok (.invokevirtual 66, 3) := by decide +kernel
theorem d_la_law_171 : decode b_la_law 171 = .ok (.iload 5, 2) := by decide +kernel
theorem d_la_law_173 : decode b_la_law 173 = .ok (.if_icmp .eq 5, 3) := by decide +kernel
theorem d_la_law_176 : decode b_la_law 176 = .ok (.iconst 0, 1) := by decide +kernel
theorem d_la_law_177 : decode b_la_law 177 = .ok (.ireturn, 1) := by decide +kernel
theorem d_la_law_178 : decode b_la_law 178 = .ok (.goto 513, 3) := by decide +kernel
theorem d_la_law_181 : decode b_la_law 181 = .ok (.aload_n 1, 1) := by decide +kernel
theorem d_la_law_182 : decode b_la_law 182 = .ok (.aload_n 0, 1) := by decide +kernel
theorem d_la_law_183 : decode b_la_law 183 = .ok (.iload 4, 2) := by decide +kernel
theorem d_la_law_185 : decode b_la_law 185 = .ok (.iconst 1, 1) := by decide +kernel
theorem d_la_law_186 : decode b_la_law 186 = .ok (.iadd, 1) := by decide +kernel
theorem d_la_law_187 : decode b_la_law 187 = .ok (.iaload, 1) := by decide +kernel
theorem d_la_law_188 : decode b_la_law 188 = .ok (.aload_n 3, 1) := by decide +kernel
theorem d_la_law_189 : decode b_la_law 189 = .ok (.invokestatic 70, 3) := by decide +kernel
theorem d_la_law_192 : decode b_la_law 192 = .ok (.istore 5, 2) := by decide +kernel
theorem d_la_law_194 : decode b_la_law 194 = .ok (.aload_n 2, 1) := by decide +kernel
theorem d_la_law_195 : decode b_la_law 195 = .ok (.aload_n 0, 1) := by decide +kernel
theorem d_la_law_196 : decode b_la_law 196 = .ok (.iload 4, 2) := by decide +kernel
theorem d_la_law_198 : decode b_la_law 198 = .ok (.iconst 1, 1) := by decide +kernel
theorem d_la_law_199 : decode b_la_law 199 = .ok (.iadd, 1) := by decide +kernel
theorem d_la_law_200 : decode b_la_law 200 = .ok (.iaload, 1) := by decide +kernel
theorem d_la_law_201 : decode b_la_law 201 = .ok (.invokevirtual 73, 3) := by decide +kernel
theorem d_la_law_204 : decode b_la_law 204 = .ok (.istore 6, 2) := by decide +kernel
theorem d_la_law_206 : decode b_la_law 206 = .ok (.aload_n 2, 1) := by decide +kernel
theorem d_la_law_207 : decode b_la_law 207 = .ok (.invokevirtual 66, 3) := by decide +kernel
theorem d_la_law_210 : decode b_la_law 210 = .ok (.iload 5, 2) := by decide +kernel
theorem d_la_law_212 : decode b_la_law 212 = .ok (.if_icmp .eq 5, 3) := by decide +kernel
theorem d_la_law_215 : decode b_la_law 215 = .ok (.iconst 0, 1) := by decide +kernel
theorem d_la_law_216 : decode b_la_law 216 = .ok (.ireturn, 1) := by decide +kernel
theorem d_la_law_217 : decode b_la_law 217 = .ok (.iload 5, 2) := by decide +kernel
theorem d_la_law_219 : decode b_la_law 219 = .ok (.ifCond .ne 15, 3) := by decide +kernel
theorem d_la_law_222 : decode b_la_law 222 = .ok (.aload_n 3, 1) := by decide +kernel
theorem d_la_law_223 : decode b_la_law 223 = .ok (.iconst 0, 1) := by decide +kernel
theorem d_la_law_224 : decode b_la_law 224 = .ok (.laload, 1) := by decide +kernel
theorem d_la_law_225 : decode b_la_law 225 = .ok (.iload 6, 2) := by decide +kernel
theorem d_la_law_227 : decode b_la_law 227 = .ok (.i2l, 1) := by decide +kernel
theorem d_la_law_228 : decode b_la_law 228 = .ok (.lcmp, 1) := by decide +kernel
theorem d_la_law_229 : decode b_la_law 229 = .ok (.ifCond .eq 5, 3) := by decide +kernel
theorem d_la_law_232 : decode b_la_law 232 = .ok (.iconst 0, 1) := by decide +kernel
theorem d_la_law_233 : decode b_la_law 233 = .ok (.ireturn, 1) := by decide +kernel
theorem d_la_law_234 : decode b_la_law 234 = .ok (.goto 457, 3) := by decide +kernel
theorem d_la_law_237 : decode b_la_law 237 = .ok (.aload_n 1, 1) := by decide +kernel
theorem d_la_law_238 : decode b_la_law 238 = .ok (.aload_n 0, 1) := by decide +kernel
theorem d_la_law_239 : decode b_la_law 239 = .ok (.iload 4, 2) := by decide +kernel
theorem d_la_law_241 : decode b_la_law 241 = .ok (.iconst 1, 1) := by decide +kernel
theorem d_la_law_242 : decode b_la_law 242 = .ok (.iadd, 1) := by decide +kernel
theorem d_la_law_243 : decode b_la_law 243 = .ok (.iaload, 1) := by decide +kernel
theorem d_la_law_244 : decode b_la_law 244 = .ok (.aload_n 0, 1) := by decide +kernel
theorem d_la_law_245 : decode b_la_law 245 = .ok (.iload 4, 2) := by decide +kernel
theorem d_la_law_247 : decode b_la_law 247 = .ok (.iconst 2, 1) := by decide +kernel
theorem d_la_law_248 : decode b_la_law 248 = .ok (.iadd, 1) := by decide +kernel
theorem d_la_law_249 : decode b_la_law 249 = .ok (.iaload, 1) := by decide +kernel
theorem d_la_law_250 : decode b_la_law 250 = .ok (.invokestatic 74, 3) := by decide +kernel
theorem d_la_law_253 : decode b_la_law 253 = .ok (.istore 5, 2) := by decide +kernel
theorem d_la_law_255 : decode b_la_law 255 = .ok (.aload_n 2, 1) := by decide +kernel
theorem d_la_law_256 : decode b_la_law 256 = .ok (.aload_n 0, 1) := by decide +kernel
theorem d_la_law_257 : decode b_la_law 257 = .ok (.iload 4, 2) := by decide +kernel
theorem d_la_law_259 : decode b_la_law 259 = .ok (.iconst 1, 1) := by decide +kernel
theorem d_la_law_260 : decode b_la_law 260 = .ok (.iadd, 1) := by decide +kernel
theorem d_la_law_261 : decode b_la_law 261 = .ok (.iaload, 1) := by decide +kernel
theorem d_la_law_262 : decode b_la_law 262 = .ok (.aload_n 0, 1) := by decide +kernel
theorem d_la_law_263 : decode b_la_law 263 = .ok (.iload 4, 2) := by decide +kernel
theorem d_la_law_265 : decode b_la_law 265 = .ok (.iconst 2, 1) := by decide +kernel
theorem d_la_law_266 : decode b_la_law 266 = .ok (.iadd, 1) := by decide +kernel
theorem d_la_law_267 : decode b_la_law 267 = .ok (.iaload, 1) := by decide +kernel
theorem d_la_law_268 : decode b_la_law 268 = .ok (.invokevirtual 77, 3) := by decide +kernel
theorem d_la_law_271 : decode b_la_law 271 = .ok (.aload_n 2, 1) := by decide +kernel
theorem d_la_law_272 : decode b_la_law 272 = .ok (.invokevirtual 66, 3) := by decide +kernel
theorem d_la_law_275 : decode b_la_law 275 = .ok (.iload 5, 2) := by decide +kernel
theorem d_la_law_277 : decode b_la_law 277 = .ok (.if_icmp .eq 5, 3) := by decide +kernel
theorem d_la_law_280 : decode b_la_law 280 = .ok (.iconst 0, 1) := by decide +kernel
theorem d_la_law_281 : decode b_la_law 281 = .ok (.ireturn, 1) := by decide +kernel
theorem d_la_law_282 : decode b_la_law 282 = .ok (.goto 409, 3) := by decide +kernel
theorem d_la_law_285 : decode b_la_law 285 = .ok (.aload_n 1, 1) := by decide +kernel
theorem d_la_law_286 : decode b_la_law 286 = .ok (.aload_n 0, 1) := by decide +kernel
theorem d_la_law_287 : decode b_la_law 287 = .ok (.iload 4, 2) := by decide +kernel
theorem d_la_law_289 : decode b_la_law 289 = .ok (.iconst 1, 1) := by decide +kernel
theorem d_la_law_290 : decode b_la_law 290 = .ok (.iadd, 1) := by decide +kernel
theorem d_la_law_291 : decode b_la_law 291 = .ok (.iaload, 1) := by decide +kernel
theorem d_la_law_292 : decode b_la_law 292 = .ok (.aload_n 0, 1) := by decide +kernel
theorem d_la_law_293 : decode b_la_law 293 = .ok (.iload 4, 2) := by decide +kernel
theorem d_la_law_295 : decode b_la_law 295 = .ok (.iconst 2, 1) := by decide +kernel
theorem d_la_law_296 : decode b_la_law 296 = .ok (.iadd, 1) := by decide +kernel
theorem d_la_law_297 : decode b_la_law 297 = .ok (.iaload, 1) := by decide +kernel
theorem d_la_law_298 : decode b_la_law 298 = .ok (.ifCond .eq 7, 3) := by decide +kernel
theorem d_la_law_301 : decode b_la_law 301 = .ok (.iconst 1, 1) := by decide +kernel
theorem d_la_law_302 : decode b_la_law 302 = .ok (.goto 4, 3) := by decide +kernel
theorem d_la_law_305 : decode b_la_law 305 = .ok (.iconst 0, 1) := by decide +kernel
theorem d_la_law_306 : decode b_la_law 306 = .ok (.aload_n 0, 1) := by decide +kernel
theorem d_la_law_307 : decode b_la_law 307 = .ok (.iload 4, 2) := by decide +kernel
theorem d_la_law_309 : decode b_la_law 309 = .ok (.iconst 3, 1) := by decide +kernel
theorem d_la_law_310 : decode b_la_law 310 = .ok (.iadd, 1) := by decide +kernel
theorem d_la_law_311 : decode b_la_law 311 = .ok (.iaload, 1) := by decide +kernel
theorem d_la_law_312 : decode b_la_law 312 = .ok (.invokevirtual 78, 3) := by decide +kernel
theorem d_la_law_315 : decode b_la_law 315 = .ok (.aload_n 2, 1) := by decide +kernel
theorem d_la_law_316 : decode b_la_law 316 = .ok (.aload_n 0, 1) := by decide +kernel
theorem d_la_law_317 : decode b_la_law 317 = .ok (.iload 4, 2) := by decide +kernel
theorem d_la_law_319 : decode b_la_law 319 = .ok (.iconst 1, 1) := by decide +kernel
theorem d_la_law_320 : decode b_la_law 320 = .ok (.iadd, 1) := by decide +kernel
theorem d_la_law_321 : decode b_la_law 321 = .ok (.iaload, 1) := by decide +kernel
theorem d_la_law_322 : decode b_la_law 322 = .ok (.aload_n 0, 1) := by decide +kernel
theorem d_la_law_323 : decode b_la_law 323 = .ok (.iload 4, 2) := by decide +kernel
theorem d_la_law_325 : decode b_la_law 325 = .ok (.iconst 2, 1) := by decide +kernel
theorem d_la_law_326 : decode b_la_law 326 = .ok (.iadd, 1) := by decide +kernel
theorem d_la_law_327 : decode b_la_law 327 = .ok (.iaload, 1) := by decide +kernel
theorem d_la_law_328 : decode b_la_law 328 = .ok (.ifCond .eq 7, 3) := by decide +kernel
theorem d_la_law_331 : decode b_la_law 331 = .ok (.iconst 1, 1) := by decide +kernel
theorem d_la_law_332 : decode b_la_law 332 = .ok (.goto 4, 3) := by decide +kernel
theorem d_la_law_335 : decode b_la_law 335 = .ok (.iconst 0, 1) := by decide +kernel
theorem d_la_law_336 : decode b_la_law 336 = .ok (.aload_n 0, 1) := by decide +kernel
theorem d_la_law_337 : decode b_la_law 337 = .ok (.iload 4, 2) := by decide +kernel
theorem d_la_law_339 : decode b_la_law 339 = .ok (.iconst 3, 1) := by decide +kernel
theorem d_la_law_340 : decode b_la_law 340 = .ok (.iadd, 1) := by decide +kernel
theorem d_la_law_341 : decode b_la_law 341 = .ok (.iaload, 1) := by decide +kernel
theorem d_la_law_342 : decode b_la_law 342 = .ok (.invokevirtual 82, 3) := by decide +kernel
theorem d_la_law_345 : decode b_la_law 345 = .ok (.lcmp, 1) := by decide +kernel
theorem d_la_law_346 : decode b_la_law 346 = .ok (.ifCond .eq 345, 3) := by decide +kernel
theorem d_la_law_349 : decode b_la_law 349 = .ok (.iconst 0, 1) := by decide +kernel
theorem d_la_law_350 : decode b_la_law 350 = .ok (.ireturn, 1) := by decide +kernel
theorem d_la_law_351 : decode b_la_law 351 = .ok (.aload_n 1, 1) := by decide +kernel
theorem d_la_law_352 : decode b_la_law 352 = .ok (.aload_n 0, 1) := by decide +kernel
theorem d_la_law_353 : decode b_la_law 353 = .ok (.iload 4, 2) := by decide +kernel
theorem d_la_law_355 : decode b_la_law 355 = .ok (.iconst 1, 1) := by decide +kernel
theorem d_la_law_356 : decode b_la_law 356 = .ok (.iadd, 1) := by decide +kernel
theorem d_la_law_357 : decode b_la_law 357 = .ok (.iaload, 1) := by decide +kernel
theorem d_la_law_358 : decode b_la_law 358 = .ok (.aload_n 3, 1) := by decide +kernel
theorem d_la_law_359 : decode b_la_law 359 = .ok (.invokestatic 83, 3) := by decide +kernel
theorem d_la_law_362 : decode b_la_law 362 = .ok (.istore 5, 2) := by decide +kernel
theorem d_la_law_364 : decode b_la_law 364 = .ok (.aload_n 2, 1) := by decide +kernel
theorem d_la_law_365 : decode b_la_law 365 = .ok (.aload_n 0, 1) := by decide +kernel
theorem d_la_law_366 : decode b_la_law 366 = .ok (.iload 4, 2) := by decide +kernel
theorem d_la_law_368 : decode b_la_law 368 = .ok (.iconst 1, 1) := by decide +kernel
theorem d_la_law_369 : decode b_la_law 369 = .ok (.iadd, 1) := by decide +kernel
theorem d_la_law_370 : decode b_la_law 370 = .ok (.iaload, 1) := by decide +kernel
theorem d_la_law_371 : decode b_la_law 371 = .ok (.invokevirtual 85, 3) := by decide +kernel
theorem d_la_law_374 : decode b_la_law 374 = .ok (.istore 6, 2) := by decide +kernel
theorem d_la_law_376 : decode b_la_law 376 = .ok (.aload_n 2, 1) := by decide +kernel
theorem d_la_law_377 : decode b_la_law 377 = .ok (.invokevirtual 66, 3) := by decide +kernel
theorem d_la_law_380 : decode b_la_law 380 = .ok (.iload 5, 2) := by decide +kernel
theorem d_la_law_382 : decode b_la_law 382 = .ok (.if_icmp .eq 5, 3) := by decide +kernel
theorem d_la_law_385 : decode b_la_law 385 = .ok (.iconst 0, 1) := by decide +kernel
theorem d_la_law_386 : decode b_la_law 386 = .ok (.ireturn, 1) := by decide +kernel
theorem d_la_law_387 : decode b_la_law 387 = .ok (.iload 5, 2) := by decide +kernel
theorem d_la_law_389 : decode b_la_law 389 = .ok (.ifCond .ne 15, 3) := by decide +kernel
theorem d_la_law_392 : decode b_la_law 392 = .ok (.aload_n 3, 1) := by decide +kernel
theorem d_la_law_393 : decode b_la_law 393 = .ok (.iconst 0, 1) := by decide +kernel
theorem d_la_law_394 : decode b_la_law 394 = .ok (.laload, 1) := by decide +kernel
theorem d_la_law_395 : decode b_la_law 395 = .ok (.iload 6, 2) := by decide +kernel
theorem d_la_law_397 : decode b_la_law 397 = .ok (.i2l, 1) := by decide +kernel
theorem d_la_law_398 : decode b_la_law 398 = .ok (.lcmp, 1) := by decide +kernel
theorem d_la_law_399 : decode b_la_law 399 = .ok (.ifCond .eq 5, 3) := by decide +kernel
theorem d_la_law_402 : decode b_la_law 402 = .ok (.iconst 0, 1) := by decide +kernel
theorem d_la_law_403 : decode b_la_law 403 = .ok (.ireturn, 1) := by decide +kernel
theorem d_la_law_404 : decode b_la_law 404 = .ok (.goto 287, 3) := by decide +kernel
theorem d_la_law_407 : decode b_la_law 407 = .ok (.aload_n 1, 1) := by decide +kernel
theorem d_la_law_408 : decode b_la_law 408 = .ok (.aload_n 0, 1) := by decide +kernel
theorem d_la_law_409 : decode b_la_law 409 = .ok (.iload 4, 2) := by decide +kernel
theorem d_la_law_411 : decode b_la_law 411 = .ok (.iconst 1, 1) := by decide +kernel
theorem d_la_law_412 : decode b_la_law 412 = .ok (.iadd, 1) := by decide +kernel
theorem d_la_law_413 : decode b_la_law 413 = .ok (.iaload, 1) := by decide +kernel
theorem d_la_law_414 : decode b_la_law 414 = .ok (.aload_n 0, 1) := by decide +kernel
theorem d_la_law_415 : decode b_la_law 415 = .ok (.iload 4, 2) := by decide +kernel
theorem d_la_law_417 : decode b_la_law 417 = .ok (.iconst 2, 1) := by decide +kernel
theorem d_la_law_418 : decode b_la_law 418 = .ok (.iadd, 1) := by decide +kernel
theorem d_la_law_419 : decode b_la_law 419 = .ok (.iaload, 1) := by decide +kernel
theorem d_la_law_420 : decode b_la_law 420 = .ok (.invokestatic 86, 3) := by decide +kernel
theorem d_la_law_423 : decode b_la_law 423 = .ok (.istore 5, 2) := by decide +kernel
theorem d_la_law_425 : decode b_la_law 425 = .ok (.aload_n 2, 1) := by decide +kernel
theorem d_la_law_426 : decode b_la_law 426 = .ok (.aload_n 0, 1) := by decide +kernel
theorem d_la_law_427 : decode b_la_law 427 = .ok (.iload 4, 2) := by decide +kernel
theorem d_la_law_429 : decode b_la_law 429 = .ok (.iconst 1, 1) := by decide +kernel
theorem d_la_law_430 : decode b_la_law 430 = .ok (.iadd, 1) := by decide +kernel
theorem d_la_law_431 : decode b_la_law 431 = .ok (.iaload, 1) := by decide +kernel
theorem d_la_law_432 : decode b_la_law 432 = .ok (.aload_n 0, 1) := by decide +kernel
theorem d_la_law_433 : decode b_la_law 433 = .ok (.iload 4, 2) := by decide +kernel
theorem d_la_law_435 : decode b_la_law 435 = .ok (.iconst 2, 1) := by decide +kernel
theorem d_la_law_436 : decode b_la_law 436 = .ok (.iadd, 1) := by decide +kernel
theorem d_la_law_437 : decode b_la_law 437 = .ok (.iaload, 1) := by decide +kernel
theorem d_la_law_438 : decode b_la_law 438 = .ok (.invokevirtual 88, 3) := by decide +kernel
theorem d_la_law_441 : decode b_la_law 441 = .ok (.aload_n 2, 1) := by decide +kernel
theorem d_la_law_442 : decode b_la_law 442 = .ok (.invokevirtual 66, 3) := by decide +kernel
theorem d_la_law_445 : decode b_la_law 445 = .ok (.iload 5, 2) := by decide +kernel
theorem d_la_law_447 : decode b_la_law 447 = .ok (.if_icmp .eq 5, 3) := by decide +kernel
theorem d_la_law_450 : decode b_la_law 450 = .ok (.iconst 0, 1) := by decide +kernel
theorem d_la_law_451 : decode b_la_law 451 = .ok (.ireturn, 1) := by decide +kernel
theorem d_la_law_452 : decode b_la_law 452 = .ok (.goto 239, 3) := by decide +kernel
theorem d_la_law_455 : decode b_la_law 455 = .ok (.aload_n 1, 1) := by decide +kernel
theorem d_la_law_456 : decode b_la_law 456 = .ok (.invokevirtual 89, 3) := by decide +kernel
theorem d_la_law_459 : decode b_la_law 459 = .ok (.aload_n 2, 1) := by decide +kernel
theorem d_la_law_460 : decode b_la_law 460 = .ok (.invokevirtual 92, 3) := by decide +kernel
theorem d_la_law_463 : decode b_la_law 463 = .ok (.if_icmp .eq 228, 3) := by decide +kernel
theorem d_la_law_466 : decode b_la_law 466 = .ok (.iconst 0, 1) := by decide +kernel
theorem d_la_law_467 : decode b_la_law 467 = .ok (.ireturn, 1) := by decide +kernel
theorem d_la_law_468 : decode b_la_law 468 = .ok (.aload_n 1, 1) := by decide +kernel
theorem d_la_law_469 : decode b_la_law 469 = .ok (.aload_n 0, 1) := by decide +kernel
theorem d_la_law_470 : decode b_la_law 470 = .ok (.iload 4, 2) := by decide +kernel
theorem d_la_law_472 : decode b_la_law 472 = .ok (.iconst 1, 1) := by decide +kernel
theorem d_la_law_473 : decode b_la_law 473 = .ok (.iadd, 1) := by decide +kernel
theorem d_la_law_474 : decode b_la_law 474 = .ok (.iaload, 1) := by decide +kernel
theorem d_la_law_475 : decode b_la_law 475 = .ok (.aload_n 3, 1) := by decide +kernel
theorem d_la_law_476 : decode b_la_law 476 = .ok (.invokestatic 93, 3) := by decide +kernel
theorem d_la_law_479 : decode b_la_law 479 = .ok (.istore 5, 2) := by decide +kernel
theorem d_la_law_481 : decode b_la_law 481 = .ok (.aload_n 2, 1) := by decide +kernel
theorem d_la_law_482 : decode b_la_law 482 = .ok (.aload_n 0, 1) := by decide +kernel
theorem d_la_law_483 : decode b_la_law 483 = .ok (.iload 4, 2) := by decide +kernel
theorem d_la_law_485 : decode b_la_law 485 = .ok (.iconst 1, 1) := by decide +kernel
theorem d_la_law_486 : decode b_la_law 486 = .ok (.iadd, 1) := by decide +kernel
theorem d_la_law_487 : decode b_la_law 487 = .ok (.iaload, 1) := by decide +kernel
theorem d_la_law_488 : decode b_la_law 488 = .ok (.invokevirtual 95, 3) := by decide +kernel
theorem d_la_law_491 : decode b_la_law 491 = .ok (.istore 6, 2) := by decide +kernel
theorem d_la_law_493 : decode b_la_law 493 = .ok (.aload_n 2, 1) := by decide +kernel
theorem d_la_law_494 : decode b_la_law 494 = .ok (.invokevirtual 66, 3) := by decide +kernel
theorem d_la_law_497 : decode b_la_law 497 = .ok (.iload 5, 2) := by decide +kernel
theorem d_la_law_499 : decode b_la_law 499 = .ok (.if_icmp .eq 5, 3) := by decide +kernel
theorem d_la_law_502 : decode b_la_law 502 = .ok (.iconst 0, 1) := by decide +kernel
theorem d_la_law_503 : decode b_la_law 503 = .ok (.ireturn, 1) := by decide +kernel
theorem d_la_law_504 : decode b_la_law 504 = .ok (.iload 5, 2) := by decide +kernel
theorem d_la_law_506 : decode b_la_law 506 = .ok (.ifCond .ne 15, 3) := by decide +kernel
theorem d_la_law_509 : decode b_la_law 509 = .ok (.aload_n 3, 1) := by decide +kernel
theorem d_la_law_510 : decode b_la_law 510 = .ok (.iconst 0, 1) := by decide +kernel
theorem d_la_law_511 : decode b_la_law 511 = .ok (.laload, 1) := by decide +kernel
theorem d_la_law_512 : decode b_la_law 512 = .ok (.iload 6, 2) := by decide +kernel
theorem d_la_law_514 : decode b_la_law 514 = .ok (.i2l, 1) := by decide +kernel
theorem d_la_law_515 : decode b_la_law 515 = .ok (.lcmp, 1) := by decide +kernel
theorem d_la_law_516 : decode b_la_law 516 = .ok (.ifCond .eq 5, 3) := by decide +kernel
theorem d_la_law_519 : decode b_la_law 519 = .ok (.iconst 0, 1) := by decide +kernel
theorem d_la_law_520 : decode b_la_law 520 = .ok (.ireturn, 1) := by decide +kernel
theorem d_la_law_521 : decode b_la_law 521 = .ok (.goto 170, 3) := by decide +kernel
theorem d_la_law_524 : decode b_la_law 524 = .ok (.aload_n 1, 1) := by decide +kernel
theorem d_la_law_525 : decode b_la_law 525 = .ok (.aload_n 0, 1) := by decide +kernel
theorem d_la_law_526 : decode b_la_law 526 = .ok (.iload 4, 2) := by decide +kernel
theorem d_la_law_528 : decode b_la_law 528 = .ok (.iconst 1, 1) := by decide +kernel
theorem d_la_law_529 : decode b_la_law 529 = .ok (.iadd, 1) := by decide +kernel
theorem d_la_law_530 : decode b_la_law 530 = .ok (.iaload, 1) := by decide +kernel
theorem d_la_law_531 : decode b_la_law 531 = .ok (.ifCond .eq 7, 3) := by decide +kernel
theorem d_la_law_534 : decode b_la_law 534 = .ok (.iconst 1, 1) := by decide +kernel
theorem d_la_law_535 : decode b_la_law 535 = .ok (.goto 4, 3) := by decide +kernel
theorem d_la_law_538 : decode b_la_law 538 = .ok (.iconst 0, 1) := by decide +kernel
theorem d_la_law_539 : decode b_la_law 539 = .ok (.aload_n 3, 1) := by decide +kernel
theorem d_la_law_540 : decode b_la_law 540 = .ok (.invokestatic 96, 3) := by decide +kernel
theorem d_la_law_543 : decode b_la_law 543 = .ok (.istore 5, 2) := by decide +kernel
theorem d_la_law_545 : decode b_la_law 545 = .ok (.aload_n 2, 1) := by decide +kernel
theorem d_la_law_546 : decode b_la_law 546 = .ok (.aload_n 0, 1) := by decide +kernel
theorem d_la_law_547 : decode b_la_law 547 = .ok (.iload 4, 2) := by decide +kernel
theorem d_la_law_549 : decode b_la_law 549 = .ok (.iconst 1, 1) := by decide +kernel
theorem d_la_law_550 : decode b_la_law 550 = .ok (.iadd, 1) := by decide +kernel
theorem d_la_law_551 : decode b_la_law 551 = .ok (.iaload, 1) := by decide +kernel
theorem d_la_law_552 : decode b_la_law 552 = .ok (.ifCond .eq 7, 3) := by decide +kernel
theorem d_la_law_555 : decode b_la_law 555 = .ok (.iconst 1, 1) := by decide +kernel
theorem d_la_law_556 : decode b_la_law 556 = .ok (.goto 4, 3) := by decide +kernel
theorem d_la_law_559 : decode b_la_law 559 = .ok (.iconst 0, 1) := by decide +kernel
theorem d_la_law_560 : decode b_la_law 560 = .ok (.invokevirtual 99, 3) := by decide +kernel
theorem d_la_law_563 : decode b_la_law 563 = .ok (.istore 6, 2) := by decide +kernel
theorem d_la_law_565 : decode b_la_law 565 = .ok (.aload_n 2, 1) := by decide +kernel
theorem d_la_law_566 : decode b_la_law 566 = .ok (.invokevirtual 66, 3) := by decide +kernel
theorem d_la_law_569 : decode b_la_law 569 = .ok (.iload 5, 2) := by decide +kernel
theorem d_la_law_571 : decode b_la_law 571 = .ok (.if_icmp .eq 5, 3) := by decide +kernel
theorem d_la_law_574 : decode b_la_law 574 = .ok (.iconst 0, 1) := by decide +kernel
theorem d_la_law_575 : decode b_la_law 575 = .ok (.ireturn, 1) := by decide +kernel
theorem d_la_law_576 : decode b_la_law 576 = .ok (.iload 5, 2) := by decide +kernel
theorem d_la_law_578 : decode b_la_law 578 = .ok (.ifCond .ne 15, 3) := by decide +kernel
theorem d_la_law_581 : decode b_la_law 581 = .ok (.aload_n 3, 1) := by decide +kernel
theorem d_la_law_582 : decode b_la_law 582 = .ok (.iconst 0, 1) := by decide +kernel
theorem d_la_law_583 : decode b_la_law 583 = .ok (.laload, 1) := by decide +kernel
theorem d_la_law_584 : decode b_la_law 584 = .ok (.iload 6, 2) := by decide +kernel
theorem d_la_law_586 : decode b_la_law 586 = .ok (.i2l, 1) := by decide +kernel
theorem d_la_law_587 : decode b_la_law 587 = .ok (.lcmp, 1) := by decide +kernel
theorem d_la_law_588 : decode b_la_law 588 = .ok (.ifCond .eq 5, 3) := by decide +kernel
theorem d_la_law_591 : decode b_la_law 591 = .ok (.iconst 0, 1) := by decide +kernel
theorem d_la_law_592 : decode b_la_law 592 = .ok (.ireturn, 1) := by decide +kernel
theorem d_la_law_593 : decode b_la_law 593 = .ok (.goto 98, 3) := by decide +kernel
theorem d_la_law_596 : decode b_la_law 596 = .ok (.aload_n 1, 1) := by decide +kernel
theorem d_la_law_597 : decode b_la_law 597 = .ok (.invokevirtual 100, 3) := by decide +kernel
theorem d_la_law_600 : decode b_la_law 600 = .ok (.aload_n 2, 1) := by decide +kernel
theorem d_la_law_601 : decode b_la_law 601 = .ok (.invokevirtual 103, 3) := by decide +kernel
theorem d_la_law_604 : decode b_la_law 604 = .ok (.if_icmp .eq 87, 3) := by decide +kernel
theorem d_la_law_607 : decode b_la_law 607 = .ok (.iconst 0, 1) := by decide +kernel
theorem d_la_law_608 : decode b_la_law 608 = .ok (.ireturn, 1) := by decide +kernel
theorem d_la_law_609 : decode b_la_law 609 = .ok (.aload_n 1, 1) := by decide +kernel
theorem d_la_law_610 : decode b_la_law 610 = .ok (.invokevirtual 104, 3) := by decide +kernel
theorem d_la_law_613 : decode b_la_law 613 = .ok (.aload_n 2, 1) := by decide +kernel
theorem d_la_law_614 : decode b_la_law 614 = .ok (.invokevirtual 107, 3) := by decide +kernel
theorem d_la_law_617 : decode b_la_law 617 = .ok (.if_icmp .eq 74, 3) := by decide +kernel
theorem d_la_law_620 : decode b_la_law 620 = .ok (.iconst 0, 1) := by decide +kernel
theorem d_la_law_621 : decode b_la_law 621 = .ok (.ireturn, 1) := by decide +kernel
theorem d_la_law_622 : decode b_la_law 622 = .ok (.aload_n 1, 1) := by decide +kernel
theorem d_la_law_623 : decode b_la_law 623 = .ok (.invokevirtual 108, 3) := by decide +kernel
theorem d_la_law_626 : decode b_la_law 626 = .ok (.aload_n 2, 1) := by decide +kernel
theorem d_la_law_627 : decode b_la_law 627 = .ok (.invokevirtual 111, 3) := by decide +kernel
theorem d_la_law_630 : decode b_la_law 630 = .ok (.if_icmp .eq 61, 3) := by decide +kernel
theorem d_la_law_633 : decode b_la_law 633 = .ok (.iconst 0, 1) := by decide +kernel
theorem d_la_law_634 : decode b_la_law 634 = .ok (.ireturn, 1) := by decide +kernel
theorem d_la_law_635 : decode b_la_law 635 = .ok (.aload_n 1, 1) := by decide +kernel
theorem d_la_law_636 : decode b_la_law 636 = .ok (.aload_n 0, 1) := by decide +kernel
theorem d_la_law_637 : decode b_la_law 637 = .ok (.iload 4, 2) := by decide +kernel
theorem d_la_law_639 : decode b_la_law 639 = .ok (.iconst 1, 1) := by decide +kernel
theorem d_la_law_640 : decode b_la_law 640 = .ok (.iadd, 1) := by decide +kernel
theorem d_la_law_641 : decode b_la_law 641 = .ok (.iaload, 1) := by decide +kernel
theorem d_la_law_642 : decode b_la_law 642 = .ok (.aload_n 3, 1) := by decide +kernel
theorem d_la_law_643 : decode b_la_law 643 = .ok (.invokestatic 112, 3) := by decide +kernel
theorem d_la_law_646 : decode b_la_law 646 = .ok (.istore 5, 2) := by decide +kernel
theorem d_la_law_648 : decode b_la_law 648 = .ok (.aload_n 2, 1) := by decide +kernel
theorem d_la_law_649 : decode b_la_law 649 = .ok (.aload_n 0, 1) := by decide +kernel
theorem d_la_law_650 : decode b_la_law 650 = .ok (.iload 4, 2) := by decide +kernel
theorem d_la_law_652 : decode b_la_law 652 = .ok (.iconst 1, 1) := by decide +kernel
theorem d_la_law_653 : decode b_la_law 653 = .ok (.iadd, 1) := by decide +kernel
theorem d_la_law_654 : decode b_la_law 654 = .ok (.iaload, 1) := by decide +kernel
theorem d_la_law_655 : decode b_la_law 655 = .ok (.invokevirtual 114, 3) := by decide +kernel
theorem d_la_law_658 : decode b_la_law 658 = .ok (.istore 6, 2) := by decide +kernel
theorem d_la_law_660 : decode b_la_law 660 = .ok (.aload_n 2, 1) := by decide +kernel
theorem d_la_law_661 : decode b_la_law 661 = .ok (.invokevirtual 66, 3) := by decide +kernel
theorem d_la_law_664 : decode b_la_law 664 = .ok (.iload 5, 2) := by decide +kernel
theorem d_la_law_666 : decode b_la_law 666 = .ok (.if_icmp .eq 5, 3) := by decide +kernel
theorem d_la_law_669 : decode b_la_law 669 = .ok (.iconst 0, 1) := by decide +kernel
theorem d_la_law_670 : decode b_la_law 670 = .ok (.ireturn, 1) := by decide +kernel
theorem d_la_law_671 : decode b_la_law 671 = .ok (.iload 5, 2) := by decide +kernel
theorem d_la_law_673 : decode b_la_law 673 = .ok (.ifCond .ne 15, 3) := by decide +kernel
theorem d_la_law_676 : decode b_la_law 676 = .ok (.aload_n 3, 1) := by decide +kernel
theorem d_la_law_677 : decode b_la_law 677 = .ok (.iconst 0, 1) := by decide +kernel
theorem d_la_law_678 : decode b_la_law 678 = .ok (.laload, 1) := by decide +kernel
theorem d_la_law_679 : decode b_la_law 679 = .ok (.iload 6, 2) := by decide +kernel
theorem d_la_law_681 : decode b_la_law 681 = .ok (.i2l, 1) := by decide +kernel
theorem d_la_law_682 : decode b_la_law 682 = .ok (.lcmp, 1) := by decide +kernel
theorem d_la_law_683 : decode b_la_law 683 = .ok (.ifCond .eq 5, 3) := by decide +kernel
theorem d_la_law_686 : decode b_la_law 686 = .ok (.iconst 0, 1) := by decide +kernel
theorem d_la_law_687 : decode b_la_law 687 = .ok (.ireturn, 1) := by decide +kernel
theorem d_la_law_688 : decode b_la_law 688 = .ok (.goto 3, 3) := by decide +kernel
theorem d_la_law_691 : decode b_la_law 691 = .ok (.iinc 4 4, 3) := by decide +kernel
theorem d_la_law_694 : decode b_la_law 694 = .ok (.goto (-661), 3) := by decide +kernel
theorem d_la_law_697 : decode b_la_law 697 = .ok (.iconst 1, 1) := by decide +kernel
theorem d_la_law_698 : decode b_la_law 698 = .ok (.ireturn, 1) := by decide +kernel
end
section
-- ===== the links of a nest: what a state must know of them =====
def isN : Cond → Bool
  | .fieldLinkNest .. => true
  | .methodLinkNest .. => true
  | _ => false
theorem isN_spec (w : Cond) (h : isN w = true) : (∃ a i b n d t, w = .fieldLinkNest a i b n d t) ∨ (∃ a i x t, w = .methodLinkNest a i x t) := by
  unfold isN at h
  split at h
  · exact Or.inl ⟨_, _, _, _, _, _, rfl⟩
  · exact Or.inr ⟨_, _, _, _, rfl⟩
  · cases h
theorem nL_is : ∀ w ∈ nL, isN w = true := by decide +kernel
theorem nL_tab : ∀ w ∈ nL, w.onTables = true := by decide +kernel
def sL : List (String × Nat × String) := [("TrapHart", 48, "ticks below 0"), ("TrapHart", 155, "the address is not divisible by 4"), ("TrapHart", 157, "no word at the address"), ("TrapHart", 76, "the word is fixed"), ("TrapHart", 165, "no such register"), ("TrapHart", 116, "the privilege is too low"), ("TrapHart", 112, "no such exception"), ("TrapHart", 145, "no such source")]
def cL : List (String × String) := [("java/lang/IllegalArgumentException", "java/lang/IllegalArgumentException"), ("java/lang/IndexOutOfBoundsException", "java/lang/IndexOutOfBoundsException"), ("java/lang/UnsupportedOperationException", "java/lang/UnsupportedOperationException"), ("java/util/NoSuchElementException", "java/util/NoSuchElementException"), ("java/lang/IllegalStateException", "java/lang/IllegalStateException")]
def pN : List (String × String) := [("java/lang/IndexOutOfBoundsException", "java/lang/IllegalArgumentException"), ("java/lang/UnsupportedOperationException", "java/lang/IllegalArgumentException"), ("java/lang/UnsupportedOperationException", "java/lang/IndexOutOfBoundsException"), ("java/lang/IllegalStateException", "java/util/NoSuchElementException")]
def dL : List MethodName := [Bundle.initS "java/lang/RuntimeException", Bundle.initS "java/lang/Exception", Bundle.initS "java/lang/Throwable"]
def NE (U : State) : Prop := (∀ w ∈ nL, va_Nw w U) ∧ (∀ q ∈ sL, ∃ a, vk_R q.1 q.2.1 q.2.2 a U) ∧ (∀ q ∈ cL, va_Nw (.castable q.1 q.2) U) ∧ (∀ q ∈ pN, va_Nc q.1 q.2 U) ∧ ∀ x ∈ dL, va_Nw (.declares x) U
theorem NE.same {u U : State} (h : u.vm = U.vm) (hN : NE u) : NE U := ⟨fun w hw => va_Nw.same (nL_tab w hw) h (hN.1 w hw), fun q hq => by obtain ⟨a, ha⟩ := hN.2.1 q hq; exact ⟨a, vk_R.same h.symm ha⟩, fun q hq => va_Nw.same rfl h (hN.2.2.1 q hq), fun q hq => va_Nc.moved (by rw [h]; exact Vm.Alike.refl _) (hN.2.2.2.1 q hq), fun x hx => va_Nw.same rfl h (hN.2.2.2.2 x hx)⟩
theorem NE.warm {s U : State} (hW : s.WarmedH U.vm) (hN : NE s) : NE U := by
  refine ⟨fun w hw => ?_, fun q hq => ?_, fun q hq => ?_, fun q hq => va_Nc.moved hW.alike (hN.2.2.2.1 q hq), fun x hx => va_Nw.warmD hW (hN.2.2.2.2 x hx)⟩
  · rcases isN_spec w (nL_is w hw) with ⟨a, i, b, n, d, t, rfl⟩ | ⟨a, i, x, t, rfl⟩
    · exact va_Nw.warmF hW (hN.1 _ hw)
    · exact va_Nw.warmM hW (hN.1 _ hw)
  · obtain ⟨a, ha⟩ := hN.2.1 q hq
    exact ⟨a, vk_R.warm hW ha⟩
  · have h1 := hN.2.2.1 q hq
    have h2 := Cond.castable_setVm (args := #[]) hW.alike q.1 q.2
    exact va_tabs rfl (rfl : (s.setVm U.vm).vm = U.vm) (h2.trans h1)
theorem NE.use {s : State} (hN : NE s) {args : Array Value} {w : Cond} (hw : w ∈ nL) : w.before args s = true := va_Nw.use (nL_tab w hw) (hN.1 w hw)
-- ===== what lies outside of all worlds: a static table, two statics of Throwable =====
def od9 : Nat → Int32 := fun j => match j with | 0 => 11 | 1 => 3 | 2 => 7 | 3 => 9 | 4 => 1 | _ => 5
def zS (O n d : String) (A : Nat → Prop) (U : State) (H : Heap) : Prop := ∃ (c : ClassId) (k : Class) (i : Nat) (f : Field) (a : Nat) (cell : Cell) (v : Value), U.vm.findClass O = some c ∧ U.fieldFound? O n d = some (c, k, i, f) ∧ f.isStatic = true ∧ k.statics = some a ∧ H[a]? = some cell ∧ cell.vm.isStatics = true ∧ cell.cls = c ∧ f.slot < cell.slots.size ∧ k.staticTypes[f.slot]? = some f.type ∧ cell.slots[f.slot]? = some v ∧ v.isRef = true ∧ ¬ A a
theorem zS.go {O n d : String} {A B : Nat → Prop} {u U : State} {H H1 : Heap} (h : zS O n d A u H) (hvm : u.vm.Alike U.vm) (hk : ∀ a : Nat, a < H.size → ¬ A a → H1[a]? = H[a]?) (hAB : ∀ q, B q → A q) : zS O n d B U H1 := by
  obtain ⟨c, k, i, f, a, cell, v, h0, h1, h2, h3, h4, h5, h6, h7, h8, h9, h10, h11⟩ := h
  obtain ⟨k', hi', he⟩ := State.fieldFound?_setVm hvm h1
  exact ⟨c, k', i, f, a, cell, v, by rw [hvm.findClass]; exact h0, hi', h2, by rw [he]; exact h3, by rw [hk a (Array.getElem?_eq_some_iff.mp h4).1 h11]; exact h4, h5, h6, h7, by rw [he]; exact h8, h9, h10, fun z => h11 (hAB a z)⟩
theorem zS.lays {O n d : String} {A : Nat → Prop} {s : State} {args : Array Value} (h : zS O n d A s s.heap) : (Cond.laysStatic O n d).before args s = true := by
  obtain ⟨c, k, i, f, a, cell, v, h0, h1, h2, h3, h4, h5, h6, h7, h8, h9, h10, h11⟩ := h
  simp [Cond.before, Cond.holds, Cond.value, h0, h1, h2, h3, h4, h5, h6, h7, h8]
theorem zS.isRef {O n d : String} {A : Nat → Prop} {s : State} {args : Array Value} (h : zS O n d A s s.heap) : (Cond.isRef (.static O n d)).before args s = true := by
  obtain ⟨c, k, i, f, a, cell, v, h0, h1, h2, h3, h4, h5, h6, h7, h8, h9, h10, h11⟩ := h
  have he : (Term.static O n d).eval args s none [] s = some v := by
    simp [Term.eval, State.fieldNamed?, h1, h2, h3, h4, h5, h9]
  simp only [Cond.before, Cond.holds, Cond.value, he]
  cases v <;> simp_all [Value.isRef]
theorem zS.of {O n d : String} {A : Nat → Prop} {s : State} {args : Array Value} (hl : (Cond.laysStatic O n d).before args s = true) (hr : (Cond.isRef (.static O n d)).before args s = true) (hA : ∀ a : Nat, a < s.heap.size → ¬ A a) : zS O n d A s s.heap := by
  obtain ⟨c, k, i, f, a, cell, hc, hi, hst, ha, hcell, hs, hcls, hlt, hty⟩ := Cond.laysStatic_spec hl
  have hv : cell.slots[f.slot]? = some cell.slots[f.slot] := Array.getElem?_eq_getElem hlt
  have he : (Term.static O n d).eval args s none [] s = some cell.slots[f.slot] := by
    simp [Term.eval, State.fieldNamed?, hi, hst, ha, hcell, hs, hv]
  refine ⟨c, k, i, f, a, cell, _, hc, hi, hst, ha, hcell, hs, hcls, hlt, hty, hv, ?_, hA a (Array.getElem?_eq_some_iff.mp hcell).1⟩
  simp only [Cond.before, Cond.holds, Cond.value, he] at hr
  cases hz : cell.slots[f.slot] <;> simp_all [Value.isRef]
def EV (A : Nat → Prop) (U : State) (H : Heap) : Prop := (∃ t, va_Z "TrapHart$Registers" "ORDER" "[I" (.ref t) A U H ∧ va_T .int t 6 (fun j => .int (od9 j)) A U H) ∧ zS Bundle.tN "UNASSIGNED_STACK" Bundle.steD A U H ∧ zS Bundle.tN "SUPPRESSED_SENTINEL" Bundle.listD A U H
theorem EV.go {A B : Nat → Prop} {u U : State} {H H1 : Heap} (h : EV A u H) (hvm : u.vm.Alike U.vm) (hk : ∀ a : Nat, a < H.size → ¬ A a → H1[a]? = H[a]?) (hAB : ∀ q, B q → A q) : EV B U H1 := by
  obtain ⟨⟨t, h1, h2⟩, h3, h4⟩ := h
  exact ⟨⟨t, ((h1.moved hvm).kept hk).narrow hAB, ((h2.moved hvm).kept hk).narrow hAB⟩, h3.go hvm hk hAB, h4.go hvm hk hAB⟩
-- ===== worlds: three kinds of arrays; what a method takes, what it leaves =====
abbrev k3 : Type := ClassId × ClassId × ClassId
abbrev tys (k : k3) : List (ClassId × FieldType) := [(k.1, .int), (k.2.1, .boolean), (k.2.2, .long)]
def pr_ (D : va_G) (k : k3) (sz : Nat) (ws : va_W) (U : State) : Prop := U.heap.size = sz ∧ va_P D cls ws U.heap ∧ va_K D cls (tys k) U ∧ va_D (fun _ => True) ws ∧ NE U ∧ EV (va_A ws sz) U U.heap
def po_ (D : va_G) (k : k3) (A : Nat → Prop) (ws : va_W) (t : State) : Prop := va_P D cls ws t.heap ∧ va_K D cls (tys k) t ∧ va_D A ws
theorem pr_blind {D : va_G} {k : k3} {sz : Nat} {ws : va_W} {av : List Value} : FrameBlind (va_Pc av (pr_ D k sz ws)) := fun a U g mk q => by
  obtain ⟨q0, q1, qP, qK, qD, qN, qV⟩ := q
  exact ⟨q0, q1, qP, va_K.moved (u := U) (U := U.calling g mk a) (Vm.Alike.refl U.vm) qK, qD, NE.same (u := U) (U := U.calling g mk a) rfl qN, EV.go (u := U) (U := U.calling g mk a) qV (Vm.Alike.refl U.vm) (fun _ _ _ => rfl) (fun _ h => h)⟩
section BASE
variable {p : Program} {l : Launch} {e : Env} {R : Room} {s : State} {m : MethodId} {args : Array Value} {below : List Frame} {meth : Method} {c : Code} {H : Heap} {locs : List Loc} {cells slots : Nat} {Q : State → Prop}
variable {D : va_G} {k : k3} {A : Nat → Prop} {ws wc wr w1 : va_W}
variable {y : MethodName} {bytes cc : ByteArray} {maxL nLc mc ms n index : Nat} {ret : Option FieldType} {rm : Room} {Qc : Array Value → State → Outcome → State → Prop} {free : Addr → Prop} {own C host : String} {b : Addr} {As rest : List Value} {g : JFrame}
theorem cut_ (hP : va_P D cls ws H) (hK : va_K D cls (tys k) s) (hD : va_D A ws) (hN : NE s) (hV : EV A s s.heap) (hS : va_S A s.heap H locs) (hA : ∀ q, s.heap.size ≤ q → A q) {isC : List Nat} (hC : isC.map (fun i => ws[i]?) = wc.map some) (hn : va_nd isC = true) {av : List Value} : ∀ U : State, U.heap = H → s.WarmedH U.vm → va_Pc av (pr_ D k H.size wc) av.toArray U := by
  intro U hU hW
  have hC2 : isC.filterMap (fun i => ws[i]?) = wc := by
    have h0 : isC.filterMap (fun i => ws[i]?) = (isC.map (fun i => ws[i]?)).filterMap id := by rw [List.filterMap_map]; rfl
    rw [h0, hC, List.filterMap_map]
    exact List.filterMap_some
  exact ⟨rfl, by rw [hU], by rw [hU]; exact hP.sub isC hC2, va_K.moved hW.alike hK, (hD.sub isC hn hC).weaken (fun _ _ _ _ => trivial), NE.warm hW hN, by rw [hU]; exact hV.go hW.alike hS.2.1 (va_free (wc := wc) hD hS hA isC hC)⟩
theorem rec_ (hP : va_P D cls ws H) (hK : va_K D cls (tys k) s) {isC : List Nat} (hC : isC.map (fun i => ws[i]?) = wc.map some) {ci : Nat} {fs : List Value} (h0 : wc[0]? = some (b, .inr (ci, fs))) {q : vw_C} (hc : cls[ci]? = some q) (hq : q.1 = C) : ∃ cellB : Cell, H[b]? = some cellB ∧ cellB.vm.isStatics = false ∧ s.vm.findClass C = some cellB.cls := by
  subst hq
  have h1 : (isC.map (fun i => ws[i]?))[0]? = some (some (b, .inr (ci, fs))) := by rw [hC, List.getElem?_map, h0]; rfl
  rw [List.getElem?_map] at h1
  cases hi : isC[0]? with
  | none => rw [hi] at h1; cases h1
  | some i => rw [hi] at h1; exact va_recv hK hP hc (Option.some.inj h1)
/-- a virtual call of a method of the same class -/
theorem rn_V (F : CallFix p m c cc nLc s args uW own) (hM : Met l y (Cond.code y bytes maxL ret :: uW) rm (va_Pc (.ref b :: As) (pr_ D k H.size wc)) Qc mc ms free) (hG : GoodIn uW (wsV own index C y (Cond.code y bytes maxL ret :: uW))) (hrc : rm.cells = mc) (hrs : rm.slots = ms)
    (hd : y.cls = C ∧ y.cls ≠ "java/lang/invoke/MethodHandle" ∧ y.cls ≠ "java/lang/invoke/VarHandle" ∧ (parseMethodDescriptor y.desc).map (fun d => d.parameters.length) = some n) (hR : rm.frames + 1 ≤ R.frames ∧ 8 + (maxL + 11) + rm.locals ≤ R.locals)
    (hP : va_P D cls ws H) (hK : va_K D cls (tys k) s) (hD : va_D A ws) (hN : NE s) (hV : EV A s s.heap) (hS : va_S A s.heap H locs) (hA : ∀ q, s.heap.size ≤ q → A q) {isC : List Nat} (hC : isC.map (fun i => ws[i]?) = wc.map some) (hn9 : va_nd isC = true) {ci : Nat} {fs : List Value} (h0 : wc[0]? = some (b, .inr (ci, fs))) {q : vw_C} (hc : cls[ci]? = some q) (hq : q.1 = C)
    (hg : g.method = m) (hn : As.length = n) (hsize : g.locals.size = nLc) (hstack : g.stack = As.reverse ++ .ref b :: rest) (hW : 2 * g.monitorRoom + (rest.map fun v => v.category).sum ≤ 8) (hdg : decode cc g.pc = .ok (.invokevirtual index, 3)) (hf : cells + mc ≤ R.cells ∧ slots + ms ≤ R.slots) :
    va_Run p l e R s m args below meth c H locs cells slots mc ms g rest (Qc (Value.ref b :: As).toArray) free :=
  va_runV F hM (cwV n F.2.2.2.2 hG rfl hrc hrs hd hR) ⟨pr_blind, rec_ hP hK hC h0 hc hq, cut_ hP hK hD hN hV hS hA hC hn9⟩ hg hn hsize hstack hW hdg hf
/-- of a private method of a nest mate -/
theorem rn_VN (F : CallFix p m c cc nLc s args uW own) (hM : Met l y (Cond.code y bytes maxL ret :: uW) rm (va_Pc (.ref b :: As) (pr_ D k H.size wc)) Qc mc ms free) (hlk : Cond.methodLinkNest own index y host ∈ nL) (h1 : Cond.instanceMethod y ∈ uW) (h2 : Cond.selects C y y ∈ uW) (h3 : Cond.initialized y.cls ∈ uW) (h4 : Cond.code y bytes maxL ret ∈ uW) (hrc : rm.cells = mc) (hrs : rm.slots = ms)
    (hd : y.cls ≠ "java/lang/invoke/MethodHandle" ∧ y.cls ≠ "java/lang/invoke/VarHandle" ∧ (parseMethodDescriptor y.desc).map (fun d => d.parameters.length) = some n) (hR : rm.frames + 1 ≤ R.frames ∧ 8 + (maxL + 11) + rm.locals ≤ R.locals)
    (hP : va_P D cls ws H) (hK : va_K D cls (tys k) s) (hD : va_D A ws) (hN : NE s) (hV : EV A s s.heap) (hS : va_S A s.heap H locs) (hA : ∀ q, s.heap.size ≤ q → A q) {isC : List Nat} (hC : isC.map (fun i => ws[i]?) = wc.map some) (hn9 : va_nd isC = true) {ci : Nat} {fs : List Value} (h0 : wc[0]? = some (b, .inr (ci, fs))) {q : vw_C} (hc : cls[ci]? = some q) (hq : q.1 = C)
    (hg : g.method = m) (hn : As.length = n) (hsize : g.locals.size = nLc) (hstack : g.stack = As.reverse ++ .ref b :: rest) (hW : 2 * g.monitorRoom + (rest.map fun v => v.category).sum ≤ 8) (hdg : decode cc g.pc = .ok (.invokevirtual index, 3)) (hf : cells + mc ≤ R.cells ∧ slots + ms ≤ R.slots) :
    va_Run p l e R s m args below meth c H locs cells slots mc ms g rest (Qc (Value.ref b :: As).toArray) free :=
  va_runVN F hM ⟨va_cnB n F.2.2.2.2 (gd_I uW_id h4) rfl hrc hrs (hN.1 _ hlk) (F.2.2.2.2 _ h3) hd hR, F.2.2.2.2 _ h1, F.2.2.2.2 _ h2⟩ ⟨pr_blind, rec_ hP hK hC h0 hc hq, cut_ hP hK hD hN hV hS hA hC hn9⟩ hg hn hsize hstack hW hdg hf
/-- a static method of the same class -/
theorem rn_S (F : CallFix p m c cc nLc s args uW own) (hM : Met l y (Cond.code y bytes maxL ret :: uW) rm (va_Pc As (pr_ D k H.size wc)) Qc mc ms free) (hG : GoodIn uW (wsS own index y (Cond.code y bytes maxL ret :: uW))) (hrc : rm.cells = mc) (hrs : rm.slots = ms)
    (hd : y.cls = own ∧ y.cls ≠ "java/lang/invoke/MethodHandle" ∧ y.cls ≠ "java/lang/invoke/VarHandle" ∧ (parseMethodDescriptor y.desc).map (fun d => d.parameters.length) = some n) (hR : rm.frames + 1 ≤ R.frames ∧ 8 + (maxL + 11) + rm.locals ≤ R.locals)
    (hP : va_P D cls ws H) (hK : va_K D cls (tys k) s) (hD : va_D A ws) (hN : NE s) (hV : EV A s s.heap) (hS : va_S A s.heap H locs) (hA : ∀ q, s.heap.size ≤ q → A q) {isC : List Nat} (hC : isC.map (fun i => ws[i]?) = wc.map some) (hn9 : va_nd isC = true)
    (hg : g.method = m) (hn : As.length = n) (hsize : g.locals.size = nLc) (hstack : g.stack = As.reverse ++ rest) (hW : 2 * g.monitorRoom + (rest.map fun v => v.category).sum ≤ 8) (hdg : decode cc g.pc = .ok (.invokestatic index, 3)) (hf : cells + mc ≤ R.cells ∧ slots + ms ≤ R.slots) :
    va_Run p l e R s m args below meth c H locs cells slots mc ms g rest (Qc As.toArray) free :=
  va_runS F hM (cwS n F.2.2.2.2 hG rfl hrc hrs hd hR) ⟨pr_blind, cut_ hP hK hD hN hV hS hA hC hn9⟩ hg hn hsize hstack hW hdg hf
/-- a private static method of a nest mate -/
theorem rn_SN (F : CallFix p m c cc nLc s args uW own) (hM : Met l y (Cond.code y bytes maxL ret :: uW) rm (va_Pc As (pr_ D k H.size wc)) Qc mc ms free) (hlk : Cond.methodLinkNest own index y host ∈ nL) (h1 : Cond.static y ∈ uW) (h3 : Cond.initialized y.cls ∈ uW) (h4 : Cond.code y bytes maxL ret ∈ uW) (hrc : rm.cells = mc) (hrs : rm.slots = ms)
    (hd : y.cls ≠ "java/lang/invoke/MethodHandle" ∧ y.cls ≠ "java/lang/invoke/VarHandle" ∧ (parseMethodDescriptor y.desc).map (fun d => d.parameters.length) = some n) (hR : rm.frames + 1 ≤ R.frames ∧ 8 + (maxL + 11) + rm.locals ≤ R.locals)
    (hP : va_P D cls ws H) (hK : va_K D cls (tys k) s) (hD : va_D A ws) (hN : NE s) (hV : EV A s s.heap) (hS : va_S A s.heap H locs) (hA : ∀ q, s.heap.size ≤ q → A q) {isC : List Nat} (hC : isC.map (fun i => ws[i]?) = wc.map some) (hn9 : va_nd isC = true)
    (hg : g.method = m) (hn : As.length = n) (hsize : g.locals.size = nLc) (hstack : g.stack = As.reverse ++ rest) (hW : 2 * g.monitorRoom + (rest.map fun v => v.category).sum ≤ 8) (hdg : decode cc g.pc = .ok (.invokestatic index, 3)) (hf : cells + mc ≤ R.cells ∧ slots + ms ≤ R.slots) :
    va_Run p l e R s m args below meth c H locs cells slots mc ms g rest (Qc As.toArray) free :=
  va_runSN F hM ⟨va_cnB n F.2.2.2.2 (gd_I uW_id h4) rfl hrc hrs (hN.1 _ hlk) (F.2.2.2.2 _ h3) hd hR, F.2.2.2.2 _ h1, trivial⟩ ⟨pr_blind, cut_ hP hK hD hN hV hS hA hC hn9⟩ hg hn hsize hstack hW hdg hf
end BASE
section BASE2
variable {p : Program} {l : Launch} {e : Env} {R : Room} {s : State} {m : MethodId} {args : Array Value} {below : List Frame} {meth : Method} {c : Code} {H H0 : Heap} {locs : List Loc} {cells slots : Nat} {Q : State → Prop}
variable {D : va_G} {k : k3} {A : Nat → Prop} {ws wc wr w1 : va_W} {a : Array Value} {pc j nl : Nat} {ls : Array Slot} {st0 rest : List Value} {cc : ByteArray}
/-- behind a call that answers an int and makes nothing -/
theorem fn_i {v : Int32} (hr : va_Run p l e R s m args below meth c H locs cells slots 0 0 (F0 m pc ls st0) rest (va_Qi (fun (r : Int32) (_ : Unit) => r = v) (fun _ t => po_ D k (va_A wc H.size) w1 t) (va_A wc H.size) a) (va_A wc H.size)) (hP : va_P D cls ws H) (hD : va_D A ws) (hS : va_S A H0 H locs) (hA : ∀ q, H0.size ≤ q → A q)
    (isC isR : List Nat) (hC : isC.map (fun i => ws[i]?) = wc.map some) (hR : isR.map (fun i => ws[i]?) = wr.map some) (hn : va_nd isR = true) (hdis : ∀ i ∈ isR, i ∉ isC)
    (kk : ∀ (H1 : Heap) (locs1 : List Loc), va_P D cls (wr ++ w1) H1 → va_D A (wr ++ w1) → va_S A H0 H1 locs1 → W p l e R s m args below meth c H1 locs1 cells slots Q (F0 m (pc + 3) ls (.int v :: rest))) : W p l e R s m args below meth c H locs cells slots Q (F0 m pc ls st0) := by
  have hFc := va_free (wc := wc) hD hS hA isC hC
  refine va_calli hr hS (fun q _ h => hFc q h) hFc (fun r u t H1 locs1 ht hvm hw hB hz1 hk1 hS1 => ?_)
  have hw : r = v := hw
  subst hw
  obtain ⟨hP1, hK1, hD1⟩ := hB
  rw [ht] at hP1
  obtain ⟨hP2, hD2⟩ := va_join hP hD isC isR hC hR hn hdis hk1 hFc hP1 hD1
  exact kk H1 locs1 hP2 hD2 hS1
theorem fn_l {v : Int64} (hr : va_Run p l e R s m args below meth c H locs cells slots 0 0 (F0 m pc ls st0) rest (va_Ql (fun (r : Int64) (_ : Unit) => r = v) (fun _ t => po_ D k (va_A wc H.size) w1 t) (va_A wc H.size) a) (va_A wc H.size)) (hP : va_P D cls ws H) (hD : va_D A ws) (hS : va_S A H0 H locs) (hA : ∀ q, H0.size ≤ q → A q)
    (isC isR : List Nat) (hC : isC.map (fun i => ws[i]?) = wc.map some) (hR : isR.map (fun i => ws[i]?) = wr.map some) (hn : va_nd isR = true) (hdis : ∀ i ∈ isR, i ∉ isC)
    (kk : ∀ (H1 : Heap) (locs1 : List Loc), va_P D cls (wr ++ w1) H1 → va_D A (wr ++ w1) → va_S A H0 H1 locs1 → W p l e R s m args below meth c H1 locs1 cells slots Q (F0 m (pc + 3) ls (.long v :: rest))) : W p l e R s m args below meth c H locs cells slots Q (F0 m pc ls st0) := by
  have hFc := va_free (wc := wc) hD hS hA isC hC
  refine va_calll hr hS (fun q _ h => hFc q h) hFc (fun r u t H1 locs1 ht hvm hw hB hz1 hk1 hS1 => ?_)
  have hw : r = v := hw
  subst hw
  obtain ⟨hP1, hK1, hD1⟩ := hB
  rw [ht] at hP1
  obtain ⟨hP2, hD2⟩ := va_join hP hD isC isR hC hR hn hdis hk1 hFc hP1 hD1
  exact kk H1 locs1 hP2 hD2 hS1
theorem fn_v (hr : va_Run p l e R s m args below meth c H locs cells slots 0 0 (F0 m pc ls st0) rest (va_Qv (fun (_ : Unit) => True) (fun _ t => po_ D k (va_A wc H.size) w1 t) (va_A wc H.size) a) (va_A wc H.size)) (hP : va_P D cls ws H) (hD : va_D A ws) (hS : va_S A H0 H locs) (hA : ∀ q, H0.size ≤ q → A q)
    (isC isR : List Nat) (hC : isC.map (fun i => ws[i]?) = wc.map some) (hR : isR.map (fun i => ws[i]?) = wr.map some) (hn : va_nd isR = true) (hdis : ∀ i ∈ isR, i ∉ isC)
    (kk : ∀ (H1 : Heap) (locs1 : List Loc), va_P D cls (wr ++ w1) H1 → va_D A (wr ++ w1) → va_S A H0 H1 locs1 → W p l e R s m args below meth c H1 locs1 cells slots Q (F0 m (pc + 3) ls rest)) : W p l e R s m args below meth c H locs cells slots Q (F0 m pc ls st0) := by
  have hFc := va_free (wc := wc) hD hS hA isC hC
  refine va_callv hr hS (fun q _ h => hFc q h) hFc (fun u t H1 locs1 ht hvm hw hB hz1 hk1 hS1 => ?_)
  obtain ⟨hP1, hK1, hD1⟩ := hB
  rw [ht] at hP1
  obtain ⟨hP2, hD2⟩ := va_join hP hD isC isR hC hR hn hdis hk1 hFc hP1 hD1
  exact kk H1 locs1 hP2 hD2 hS1
/-- a method's beginning -/
theorem en_ {y : MethodName} {bytes : ByteArray} {maxL : Nat} {ret : Option FieldType} {rm : Room} {av : List Value} {Qc : Array Value → State → Outcome → State → Prop} {mc ms sz : Nat} {free : Addr → Prop} (hy : plainName y.cls = true)
    (body : ∀ (p : Program) (e : Env) (s : State) (m : MethodId) (below : List Frame) (meth : Method) (c : Code), s.heap.size = sz → p.tables.exec = Jvm.exec → c.code = bytes → meth.sig.returnType = ret → c.maxLocals = maxL → s.vm.findClass y.cls = some m.cls → (∀ w ∈ uW, w.before av.toArray s = true) → meth.locks = false → meth.name = y.name →
      va_P D cls ws s.heap → va_K D cls (tys k) s → va_D (va_A ws s.heap.size) ws → NE s → EV (va_A ws s.heap.size) s s.heap → W p l e rm s m av.toArray below meth c s.heap [] 0 0 (MQ below Qc av.toArray s mc ms free) (entryFrame m av.toArray maxL)) :
    Met l y (Cond.code y bytes maxL ret :: uW) rm (va_Pc av (pr_ D k sz ws)) Qc mc ms free := by
  refine Met.ofW (cc := bytes) (maxL := maxL) (ret := ret) hy rfl ?_
  intro p e s m args below meth c s₁ B hml hv
  obtain ⟨rfl, hsz, hP, hK, hD0, hN, hV⟩ := hv
  have hts := atoms_spec (ws := Cond.code y bytes maxL ret :: uW) B.pre
  exact body p e s m below meth c hsz B.exec B.bytes B.returns hml (findClass_of_methodNamed B.named) (fun w h => hts w (List.mem_cons_of_mem _ h)) B.notSynchronized (name_of_methodNamed B.named B.method).1 hP hK hD0.self hN (by rw [hsz]; exact hV)
/-- ends -/
theorem rt_i {v r : Int32} {w' : va_W} (hx : p.tables.exec = Jvm.exec) (hb : c.code = cc) (hr : meth.sig.returnType = some .int) (hlocks : meth.locks = false) (hP : va_P D cls ws H) (hD : va_D A ws) (hK : va_K D cls (tys k) s) (hS : va_S A s.heap H locs) (is : List Nat) (h1 : is.filterMap (fun i => ws[i]?) = w') (h2 : va_nd is = true) (h3 : is.map (fun i => ws[i]?) = w'.map some) (er : v = r) (hdg : decode cc pc = .ok (.ireturn, 1)) :
    W p l e R s m args below meth c H locs cells slots (MQ below (va_Qi (fun (x : Int32) (_ : Unit) => x = r) (fun _ t => po_ D k A w' t) A) args s cells slots A) (F0 m pc ls [.int v]) :=
  W.iret (v := v) hx hb hr (fun t ht hW => ⟨⟨v, (), rfl, er, by rw [ht]; exact hP.sub is h1, va_K.moved hW.alike hK, hD.sub is h2 h3⟩, hS.F ht⟩) hS.2.2 hdg hlocks
theorem rt_z {v r : Int32} {w' : va_W} (hx : p.tables.exec = Jvm.exec) (hb : c.code = cc) (hr : meth.sig.returnType = some .boolean) (hlocks : meth.locks = false) (hP : va_P D cls ws H) (hD : va_D A ws) (hK : va_K D cls (tys k) s) (hS : va_S A s.heap H locs) (is : List Nat) (h1 : is.filterMap (fun i => ws[i]?) = w') (h2 : va_nd is = true) (h3 : is.map (fun i => ws[i]?) = w'.map some) (er : v = r) (hz : narrow .boolean (.int v) = .int v) (hdg : decode cc pc = .ok (.ireturn, 1)) :
    W p l e R s m args below meth c H locs cells slots (MQ below (va_Qi (fun (x : Int32) (_ : Unit) => x = r) (fun _ t => po_ D k A w' t) A) args s cells slots A) (F0 m pc ls [.int v]) :=
  W.zret (v := v) (ty := .boolean) hx hb hr hz (fun t ht hW => ⟨⟨v, (), rfl, er, by rw [ht]; exact hP.sub is h1, va_K.moved hW.alike hK, hD.sub is h2 h3⟩, hS.F ht⟩) hS.2.2 hdg hlocks
theorem rt_l {v r : Int64} {w' : va_W} (hx : p.tables.exec = Jvm.exec) (hb : c.code = cc) (hr : meth.sig.returnType = some .long) (hlocks : meth.locks = false) (hP : va_P D cls ws H) (hD : va_D A ws) (hK : va_K D cls (tys k) s) (hS : va_S A s.heap H locs) (is : List Nat) (h1 : is.filterMap (fun i => ws[i]?) = w') (h2 : va_nd is = true) (h3 : is.map (fun i => ws[i]?) = w'.map some) (er : v = r) (hdg : decode cc pc = .ok (.lreturn, 1)) :
    W p l e R s m args below meth c H locs cells slots (MQ below (va_Ql (fun (x : Int64) (_ : Unit) => x = r) (fun _ t => po_ D k A w' t) A) args s cells slots A) (F0 m pc ls [.long v]) :=
  W.lret (v := v) hx hb hr (fun t ht hW => ⟨⟨v, (), rfl, er, by rw [ht]; exact hP.sub is h1, va_K.moved hW.alike hK, hD.sub is h2 h3⟩, hS.F ht⟩) hS.2.2 hdg (hlocks := hlocks)
theorem rt_v {w' : va_W} (hx : p.tables.exec = Jvm.exec) (hb : c.code = cc) (hr : meth.sig.returnType = none) (hlocks : meth.locks = false) (hP : va_P D cls ws H) (hD : va_D A ws) (hK : va_K D cls (tys k) s) (hS : va_S A s.heap H locs) (is : List Nat) (h1 : is.filterMap (fun i => ws[i]?) = w') (h2 : va_nd is = true) (h3 : is.map (fun i => ws[i]?) = w'.map some) (hdg : decode cc pc = .ok (.return_, 1)) :
    W p l e R s m args below meth c H locs cells slots (MQ below (va_Qv (fun (_ : Unit) => True) (fun _ t => po_ D k A w' t) A) args s cells slots A) (F0 m pc ls []) :=
  W.vret hx hb hr (fun t ht hW => ⟨⟨(), rfl, trivial, by rw [ht]; exact hP.sub is h1, va_K.moved hW.alike hK, hD.sub is h2 h3⟩, hS.F ht⟩) hS.2.2 hdg (hlocks := hlocks)
/-- where roads meet -/
theorem jn_ {X : Type} (WS : X → va_W) (ST : X → List Value) (LV : X → List (Nat × Value)) (P : X → Prop) (j nl : Nat)
    (step : (∀ (x : X) (H1 : Heap) (locs1 : List Loc) (ls1 : Array Slot), P x → va_P D cls (WS x) H1 → va_D A (WS x) → va_S A H0 H1 locs1 → lv_has ls1 nl (LV x) → W p l e R s m args below meth c H1 locs1 cells slots Q (F0 m j ls1 (ST x))) → W p l e R s m args below meth c H locs cells slots Q (F0 m pc ls st0))
    (J : ∀ (x : X) (H1 : Heap) (locs1 : List Loc) (ls1 : Array Slot), P x → va_P D cls (WS x) H1 → va_D A (WS x) → va_S A H0 H1 locs1 → lv_has ls1 nl (LV x) → W p l e R s m args below meth c H1 locs1 cells slots Q (F0 m j ls1 (ST x))) :
    W p l e R s m args below meth c H locs cells slots Q (F0 m pc ls st0) := step J
/-- a loop that goes round n times more; i is the count of its rounds, or what is said of it -/
theorem lp_ {X : Type} (WS : X → va_W) (LV : Nat → Nat → X → List (Nat × Value)) (P : Nat → Nat → X → Prop) (j nl B : Nat)
    (hz : ∀ (i : Nat) (x : X) (H1 : Heap) (locs1 : List Loc) (ls1 : Array Slot), i = B → P 0 i x → va_P D cls (WS x) H1 → va_D A (WS x) → va_S A H0 H1 locs1 → lv_has ls1 nl (LV 0 i x) → W p l e R s m args below meth c H1 locs1 cells slots Q (F0 m j ls1 []))
    (hs : ∀ (n i : Nat) (x : X) (H1 : Heap) (locs1 : List Loc) (ls1 : Array Slot), i + (n + 1) = B → P (n + 1) i x → va_P D cls (WS x) H1 → va_D A (WS x) → va_S A H0 H1 locs1 → lv_has ls1 nl (LV (n + 1) i x) →
      (∀ (x' : X) (H2 : Heap) (locs2 : List Loc) (ls2 : Array Slot), P n (i + 1) x' → va_P D cls (WS x') H2 → va_D A (WS x') → va_S A H0 H2 locs2 → lv_has ls2 nl (LV n (i + 1) x') → W p l e R s m args below meth c H2 locs2 cells slots Q (F0 m j ls2 [])) →
      W p l e R s m args below meth c H1 locs1 cells slots Q (F0 m j ls1 [])) :
    ∀ (n i : Nat) (x : X) (H1 : Heap) (locs1 : List Loc) (ls1 : Array Slot), i + n = B → P n i x → va_P D cls (WS x) H1 → va_D A (WS x) → va_S A H0 H1 locs1 → lv_has ls1 nl (LV n i x) → W p l e R s m args below meth c H1 locs1 cells slots Q (F0 m j ls1 []) := by
  intro n
  induction n with
  | zero => intro i x H1 locs1 ls1 h; exact hz i x H1 locs1 ls1 h
  | succ n ih => intro i x H1 locs1 ls1 h hp a1 a2 a3 a4; exact hs n i x H1 locs1 ls1 h hp a1 a2 a3 a4 (fun x' H2 locs2 ls2 => ih (i + 1) x' H2 locs2 ls2 (by omega))
end BASE2
theorem wH_ {p : Program} {l : Launch} {e : Env} {R : Room} {s : State} {m : MethodId} {args : Array Value} {below : List Frame} {meth : Method} {c : Code} {H : Heap} {locs : List Loc} {cells slots : Nat} {Q : State → Prop} {g : JFrame} (h : H = s.heap) (k9 : W p l e R s m args below meth c H locs cells slots Q g) : W p l e R s m args below meth c s.heap locs cells slots Q g := h ▸ k9
theorem nz_ {c : Prop} [Decidable c] {a b : Int32} (ha : narrow .boolean (.int a) = .int a) (hb : narrow .boolean (.int b) = .int b) : narrow .boolean (.int (if c then a else b)) = .int (if c then a else b) := by
  split
  · exact ha
  · exact hb
end
section
-- ===== methods that throw: the words of 'throw new X("..")', X a child of RuntimeException =====
def rtN : String := "java/lang/RuntimeException"
def exN : String := "java/lang/Exception"
def xt (own : String) (ic : Nat) (X : String) : List Cond :=
  [.methodLink own ic (Bundle.initS X), .instantiable X 6, .castable X X, .selects X Bundle.tFill0 Bundle.tFill0, .selects X Bundle.tFill Bundle.tFill,
   .lays X Bundle.tN "cause" "Ljava/lang/Throwable;", .lays X Bundle.tN "stackTrace" Bundle.steD, .lays X Bundle.tN "suppressedExceptions" Bundle.listD, .lays X Bundle.tN "detailMessage" "Ljava/lang/String;",
   .isRef (.static Bundle.tN "UNASSIGNED_STACK" Bundle.steD), .isRef (.static Bundle.tN "SUPPRESSED_SENTINEL" Bundle.listD),
   .fieldLink Bundle.tN 198 Bundle.tN "backtrace" "Ljava/lang/Object;", .lays Bundle.tN Bundle.tN "backtrace" "Ljava/lang/Object;", .lays X Bundle.tN "backtrace" "Ljava/lang/Object;"]
def xw (own : String) (ic : Nat) (X : String) (i1 : Nat) (b1 : ByteArray) : List Cond :=
  Bundle.throwableAtoms ++ (Bundle.throwableSAtoms ++ (Bundle.passSAtoms X rtN i1 b1 ++ (Bundle.chainSAtoms rtN [exN] ++ xt own ic X)))
section XCT
variable {p : Program} {l : Launch} {e : Env} {R : Room} {s : State} {m : MethodId} {args : Array Value} {below : List Frame} {meth : Method} {c : Code} {V : State} {locs : List Loc} {cells slots : Nat}
set_option maxHeartbeats 4000000 in
/-- the constructor's chain and the throw: the object lies at a, all else is as it was -/
theorem x_ctor (X : Stand p l e R s m args below meth c V locs cells slots) (hexec : p.tables.exec = Jvm.exec) (htr : e.platform.stackTraces = false) {own cls : String} {ic i1 : Nat} {b1 : ByteArray} {A : Nat → Prop}
    (hown : s.vm.findClass own = some m.cls) (hcls : Bundle.fit cls = true)
    (q0 : decode b1 0 = .ok (.aload_n 0, 1)) (q1 : decode b1 1 = .ok (.aload_n 1, 1)) (q2 : decode b1 2 = .ok (.invokespecial i1, 3)) (q5 : decode b1 5 = .ok (.return_, 1))
    (h : ∀ w ∈ xw own ic cls i1 b1, w.before args s = true)
    (hlA : ∀ x ∈ locs, A x.base) (hz : zS Bundle.tN "UNASSIGNED_STACK" Bundle.steD A s s.heap)
    {a : Addr} {cX : ClassId} {kX : Class} (hfoundX : s.vm.findClass cls = some cX) (hkX : s.vm.classes[cX]? = some kX) (hcell : V.heap[a]? = some (freshCell cX kX)) (hnew : s.heap.size ≤ a)
    {msg : Value} (hmsg : msg.isRef = true)
    {g : JFrame} (hg : g.method = m) (hsize : g.locals.size = c.maxLocals) (hlocked : g.locked = none) (hentered : g.entered = []) {rest : List Value} (hstack : g.stack = msg :: .ref a :: .ref a :: rest)
    (hd6 : decode c.code g.pc = .ok (.invokespecial ic, 3)) (hd9 : decode c.code (g.pc + 3) = .ok (.athrow, 1)) (hout : ∀ x ∈ c.exceptionTable.toList, covers x (g.pc + 3) = false)
    (hRframes : 5 < R.frames) (hRlocals : 2 * g.monitorRoom + ((Value.ref a :: rest).map fun v => v.category).sum + 81 ≤ R.locals) (hlocks : meth.locks = false) :
    ∃ U : State, Steps p.tables e below (V.setTop g) U ∧ U.status = .running ∧ Ended U below (.threw a) ∧ s.WarmedH U.vm ∧ s.sameButNew ({ U with vm := s.vm } : State) locs cells slots ∧
      (∃ ce : Cell, U.heap[a]? = some ce ∧ ce.vm = .none ∧ s.vm.findClass cls = some ce.cls) ∧ U.heap.size = V.heap.size ∧ ∀ q : Nat, q ≠ a → U.heap[q]? = V.heap[q]? := by
  have howns : e.platform.frameOwnsMonitors = true := by rw [X.admits.platform]
  have hfin : e.platform.finalization = false := by rw [X.admits.platform]
  have hpl : e.platform.magicAccessors = ({} : Platform).magicAccessors := by rw [X.admits.platform]
  have w : ∀ x, x ∈ xt own ic cls → x.holds args s none s [] = true := fun x hx => h x (by simp only [xw, List.mem_append]; exact Or.inr (Or.inr (Or.inr (Or.inr hx))))
  obtain ⟨T, Z0, L, -, Y⟩ := ThrowableC.of_atoms (args := args) howns hfin hpl (fun x hx => h x (by simp only [xw, List.mem_append]; exact Or.inl hx))
  obtain ⟨Z, M, LZ, LM, hnZ⟩ := Init0T.ofS_atoms (args := args) hpl L Y (fun x hx => h x (by simp only [xw, List.mem_append]; exact Or.inr (Or.inl hx)))
  have hwp : ∀ x ∈ Bundle.passSAtoms cls rtN i1 b1, x.before args s = true := fun x hx => h x (by simp only [xw, List.mem_append]; exact Or.inr (Or.inr (Or.inl hx)))
  have hwc : ∀ x ∈ Bundle.chainSAtoms rtN [exN], x.before args s = true := fun x hx => h x (by simp only [xw, List.mem_append]; exact Or.inr (Or.inr (Or.inr (Or.inl hx))))
  obtain ⟨P1, L1, hP1m, hP1s⟩ := PassC.ofS_atoms (args := args) hpl (Bundle.fit_spec hcls).1 (by decide) q0 q1 q2 q5 hwp
  obtain ⟨P2, Ps, hlen, L2, hLs, hP2m, hl2, hl3⟩ := Bundle.chainS (args := args) hpl hnZ [exN] rtN (by decide) (by decide) hwc
  have hnext : P1.sup = P2.m := Option.some.inj (hP1s.symm.trans hP2m)
  have hfound : s.vm.findClass cls = some P1.m.cls := findClass_of_methodNamed hP1m
  cases Option.some.inj (hfoundX.symm.trans hfound)
  obtain ⟨c1, kX', hc1, hk, hord, -, -, hn6⟩ := Cond.instantiable_spec (w (.instantiable cls 6) (by simp [xt]))
  cases Option.some.inj (hc1.symm.trans hfound)
  cases Option.some.inj (hkX.symm.trans hk)
  have hsel0 : selectMethod e.platform s.vm P1.m.cls T.fill0 = .method T.fill0 := by
    obtain ⟨c2, r2, m2, z1, z2, z3, z4, -⟩ := Cond.selects_spec (w (.selects cls Bundle.tFill0 Bundle.tFill0) (by simp [xt]))
    cases Option.some.inj (z1.symm.trans hfound)
    cases Option.some.inj (z2.symm.trans (State.methodFound?_of_named Y.fill0 (by decide)))
    cases Option.some.inj (z3.symm.trans Y.fill0)
    rw [Launch.admits_selectMethod X.admits]
    exact z4
  have hselF : selectMethod e.platform s.vm P1.m.cls T.fill = .method T.fill := by
    obtain ⟨c2, r2, m2, z1, z2, z3, z4, -⟩ := Cond.selects_spec (w (.selects cls Bundle.tFill Bundle.tFill) (by simp [xt]))
    cases Option.some.inj (z1.symm.trans hfound)
    cases Option.some.inj (z2.symm.trans (State.methodFound?_of_named Y.fill (by decide)))
    cases Option.some.inj (z3.symm.trans Y.fill)
    rw [Launch.admits_selectMethod X.admits]
    exact z4
  obtain ⟨cellS0, hcS0, hiss⟩ := Y.statics
  obtain ⟨u0, hu0⟩ := Cond.staticRefV Y.unassigned L.unassignedStatic L.statics hcS0 hiss (w (.isRef (.static Bundle.tN "UNASSIGNED_STACK" Bundle.steD)) (by simp [xt]))
  obtain ⟨sen, hsen⟩ := Cond.staticRefV Y.sentinel L.sentinelStatic L.statics hcS0 hiss (w (.isRef (.static Bundle.tN "SUPPRESSED_SENTINEL" Bundle.listD)) (by simp [xt]))
  obtain ⟨ci198, i198, fB, hk198, hg198, ha198, hsB, -, hnB, htB, hffB⟩ := Cond.ownField (t := .object "java/lang/Object") Y.found L.cls (by decide +kernel) (w (.fieldLink Bundle.tN 198 Bundle.tN "backtrace" "Ljava/lang/Object;") (by simp [xt])) (w (.lays Bundle.tN Bundle.tN "backtrace" "Ljava/lang/Object;") (by simp [xt])) e.platform hpl
  obtain ⟨cellS, hcS', heS, -, hkeep⟩ := X.same.2.2.2.2.2 T.aS cellS0 hcS0
  have hcellS : V.heap[T.aS]? = some cellS := hcS'
  have hnA : ¬ A T.aS := by
    obtain ⟨cz, kz, iz, fz, az, cellz, vz, -, y1, -, y3, -, -, -, -, -, -, -, y11⟩ := hz
    cases Option.some.inj (Y.unassigned.symm.trans y1)
    cases Option.some.inj (L.statics.symm.trans y3)
    exact y11
  have hout' : ∀ i, (⟨T.aS, i⟩ : Loc) ∉ locs := fun i hmem => hnA (hlA _ hmem)
  have hknownS : cellS.vm ≠ .unknown := by
    rw [heS]
    intro hu
    rw [show cellS0.vm = .unknown from hu] at hiss
    cases hiss
  have hneS : T.aS ≠ a := Nat.ne_of_lt (Nat.lt_of_lt_of_le (Array.getElem?_eq_some_iff.mp hcS0).1 hnew)
  obtain ⟨iM, hffM⟩ := Y.msg
  obtain ⟨tyC, dC, hdC, hdnC⟩ := Cond.laysAt hfound hk Y.cause (w (.lays cls Bundle.tN "cause" "Ljava/lang/Throwable;") (by simp [xt]))
  obtain ⟨tyS, dS, hdS, hdnS⟩ := Cond.laysAt hfound hk Y.stack (w (.lays cls Bundle.tN "stackTrace" Bundle.steD) (by simp [xt]))
  obtain ⟨tyP, dP, hdP, hdnP⟩ := Cond.laysAt hfound hk Y.supp (w (.lays cls Bundle.tN "suppressedExceptions" Bundle.listD) (by simp [xt]))
  obtain ⟨tyM, dM, hdM, hdnM⟩ := Cond.laysAt hfound hk hffM (w (.lays cls Bundle.tN "detailMessage" "Ljava/lang/String;") (by simp [xt]))
  obtain ⟨tyB, dB, hdB, hdnB⟩ := Cond.laysAt hfound hk hffB (w (.lays cls Bundle.tN "backtrace" "Ljava/lang/Object;") (by simp [xt]))
  have bC := Cond.laysApart hdB hdC hdnB hdnC (by rw [hnB, Y.causeName]; decide)
  have bS := Cond.laysApart hdB hdS hdnB hdnS (by rw [hnB, Y.stackName]; decide)
  have bP := Cond.laysApart hdB hdP hdnB hdnP (by rw [hnB, Y.suppName]; decide)
  have hskip : SkipFacts T e.platform s (fun u => u) u0 ((preparedCellV T.toThrowableT (freshCell P1.m.cls kX) a u0 sen).withEntry V.cur) :=
    ⟨{ ci198 := ci198, i198 := i198, fBack := fB }, ⟨hk198, hg198, ha198, hsB⟩, by
      have := fresh_default (c := P1.m.cls) tyB
      rw [htB] at this
      simpa [preparedCellV, Cell.setSlot, Cell.withEntry, Array.getElem?_setIfInBounds, bC, bS, bP, bC.symm, bS.symm, bP.symm, defaultValue] using this, fun _ _ => rfl⟩
  obtain ⟨tm, methC, cdC, kC, vm₁, hnC, -, -, -, -, -, -, -, hW₁, st1⟩ := Steps.initColdS (tb := p.tables) (e := e) (below := below) (s := s) (U := V) X.here hexec X.warmed hpl hown (t := Bundle.initS cls) rfl rfl (Bundle.fit_spec hcls).2
    (w (.methodLink own ic (Bundle.initS cls)) (by simp [xt])) (hwp (.instanceMethod (Bundle.initS cls)) (by simp [Bundle.passSAtoms])) (bytes := b1) (maxL := 2) (hwp (.code (Bundle.initS cls) b1 2 none) (by simp [Bundle.passSAtoms]))
    (f := g) hg (a := a) (msg := msg) (rest := .ref a :: rest) hstack hd6
  cases Option.some.inj (hnC.symm.trans hP1m)
  have X₁ := X.noted hW₁
  obtain ⟨vm₂, X₂, st2⟩ := X₁.ctorMessageOffV hexec (g := { g with stack := .ref a :: rest }) hg hsize T L Z LZ M LM (P1 :: P2 :: Ps)
    (fun P hP => by
      rcases List.mem_cons.mp hP with rfl | hP
      · exact L1
      · rcases List.mem_cons.mp hP with rfl | hP
        · exact L2
        · exact hLs P hP) ⟨hnext, hl2, hl3⟩ (u0 := u0) (sen := sen) (self := a) hmsg (cell := freshCell P1.m.cls kX) (cellS := cellS)
    hcell (fun _ => by simp) (by simp) rfl rfl hsel0 hselF hcellS hneS hknownS (by rw [hkeep _ (hout' _)]; exact hu0) (by rw [hkeep _ (hout' _)]; exact hsen)
    (Takes.of_laid hk hord tyC (by rw [Y.causeType]; rfl)) (Takes.of_laid hk hord tyS (by rw [Y.stackType]; exact fits_refV_array _ u0)) (Takes.of_laid hk hord tyP (by rw [Y.suppType]; exact fits_refV_object _ sen))
    (Takes.of_laid hk hord tyM (by rw [Y.msgType]; exact fits_refV_object _ ⟨msg, hmsg⟩)) Y.objLocals hskip htr [] hd6
    (by simp only [List.length_cons, List.length_nil] at hlen ⊢; omega) (by simp only [List.length_cons, List.length_nil] at hlen ⊢; rw [hlen]; exact hRlocals)
  obtain ⟨hwalk, hrun, hended, hWU, hsame⟩ := X₂.athrowLeaves hexec (g := { g with stack := .ref a :: rest, pc := g.pc + 3 }) hg hlocked hentered hout (a := a) (rest := rest) rfl hd9 hlocks
  have hlt : a < ((V.setVm vm₁).setVm vm₂).heap.size := (Array.getElem?_eq_some_iff.mp hcell).1
  refine ⟨_, st1 _ (fun acts => ?_), hrun, hended, hWU, hsame.weaken (fun y hy hlt' => ?_) (Nat.le_refl _) (Nat.le_refl _), ⟨_, heapAt_setCell_self (s := (V.setVm vm₁).setVm vm₂) (plainBareV T.toThrowableT (freshCell P1.m.cls kX) a u0 sen msg) hlt, rfl, hfound⟩, ?_, fun q hq => heapAt_setCell_ne (s := (V.setVm vm₁).setVm vm₂) (plainBareV T.toThrowableT (freshCell P1.m.cls kX) a u0 sen msg) (Ne.symm hq)⟩
  · rw [doInvoke_state]
    exact st2 _ hwalk
  · rcases List.mem_append.mp hy with h1 | h1
    · exact h1
    · exfalso
      have hb : y.base = a := by
        simp only [List.mem_cons, List.not_mem_nil, or_false] at h1
        rcases h1 with rfl | rfl | rfl | rfl | rfl <;> rfl
      rw [hb] at hlt'
      exact Nat.not_lt.mpr hnew hlt'
  · show (((V.setVm vm₁).setVm vm₂).heap.setIfInBounds a _).size = V.heap.size
    rw [Array.size_setIfInBounds]
    rfl
end XCT
/-- the end of a method that throws an object of the class E: its world as it was -/
def xT (D : va_G) (k : k3) (A : Nat → Prop) (wc : va_W) (E : String) (st t : State) (q : Addr) : Prop :=
  po_ D k A wc t ∧ va_F A st t ∧ (∃ ce : Cell, t.heap[q]? = some ce ∧ ce.vm = .none ∧ st.vm.findClass E = some ce.cls) ∧ st.WarmedH t.vm ∧ ∃ L : List Loc, st.sameButNew ({ t with vm := st.vm } : State) L 1 6 ∧ ∀ z ∈ L, A z.base
/-- a method that throws E -/
def Thr (l : Launch) (y : MethodName) (ws : List Cond) (rm : Room) (av : List Value) (D : va_G) (k : k3) (sz : Nat) (wc : va_W) (E : String) : Prop :=
  MetFree l y (headSpec ws rm) (va_Pc av (pr_ D k sz wc)) (fun _ _ _ _ _ => True) (fun _ st o t => ∃ q, o = .threw q ∧ xT D k (va_A wc sz) wc E st t q)
/-- what its body owes -/
def TQ (below : List Frame) (D : va_G) (k : k3) (A : Nat → Prop) (wc : va_W) (E : String) (s : State) : State → Prop := fun t => t.status = .running ∧ ∃ q, Ended t below (.threw q) ∧ xT D k A wc E s t q
section XEN
variable {l : Launch} {D : va_G} {k : k3} {ws : va_W}
theorem en_T {y : MethodName} {bytes : ByteArray} {maxL : Nat} {ret : Option FieldType} {rm : Room} {av : List Value} {sz : Nat} {E : String} (hy : plainName y.cls = true)
    (body : ∀ (p : Program) (e : Env) (s : State) (m : MethodId) (below : List Frame) (meth : Method) (c : Code), s.heap.size = sz → p.tables.exec = Jvm.exec → c.code = bytes → meth.sig.returnType = ret → c.maxLocals = maxL → s.vm.findClass y.cls = some m.cls → (∀ w ∈ uW, w.before av.toArray s = true) → meth.locks = false → c.exceptionTable.isEmpty = true →
      va_P D cls ws s.heap → va_K D cls (tys k) s → va_D (va_A ws s.heap.size) ws → NE s → EV (va_A ws s.heap.size) s s.heap → W p l e rm s m av.toArray below meth c s.heap [] 0 0 (TQ below D k (va_A ws s.heap.size) ws E s) (entryFrame m av.toArray maxL)) :
    Thr l y (Cond.code y bytes maxL ret :: uW) rm av D k sz ws E := by
  refine MetFree.of_bodyS (code := bytes) (maxLocals := maxL) (ret := ret) hy ?_ ?_
  · intro args s m h hn
    obtain ⟨meth, c, h1, h2, h3, h4, h5, h6, -, -⟩ := Cond.code_spec hn (atoms_spec (ws := Cond.code y bytes maxL ret :: uW) h _ List.mem_cons_self)
    exact ⟨meth, c, h1, h2, h3, h4, h5, h6⟩
  · intro p e s m args below meth c s₁ B hml hv _
    obtain ⟨rfl, hsz, hP, hK, hD0, hN, hV⟩ := hv
    have hts := atoms_spec (ws := Cond.code y bytes maxL ret :: uW) B.pre
    have X0 := Stand.of_body B
    have hex : c.exceptionTable.isEmpty = true := by
      obtain ⟨meth', c', z1, z2, -, -, -, -, z7, -⟩ := Cond.code_spec B.named (hts _ List.mem_cons_self)
      cases Option.some.inj (B.method.symm.trans z1)
      cases Option.some.inj (z2.symm.trans X0.code)
      exact z7
    have hh0 : s₁.heap = s.heap := by rw [B.state]; rfl
    subst hsz
    obtain ⟨t, a1, b1, q, b2, b3⟩ := body p e s m below meth c rfl B.exec B.bytes B.returns hml (findClass_of_methodNamed B.named) (fun w h => hts w (List.mem_cons_of_mem _ h)) B.notSynchronized hex hP hK hD0.self hN hV s₁ hh0 X0
    exact ⟨t, .threw q, a1, b1, b2, q, rfl, b3⟩
end XEN
section XTH
variable {p : Program} {l : Launch} {e : Env} {R : Room} {s : State} {m : MethodId} {args : Array Value} {below : List Frame} {meth : Method} {c : Code} {H : Heap} {locs : List Loc} {cells slots : Nat} {Q : State → Prop}
variable {D : va_G} {k : k3} {A : Nat → Prop} {ws w' : va_W} {pc : Nat} {ls : Array Slot} {rest : List Value} {cc : ByteArray}
theorem x_none {c : Code} (h : c.exceptionTable.isEmpty = true) (q : Nat) : ∀ x ∈ c.exceptionTable.toList, covers x q = false := by
  intro x hx
  have h1 : c.exceptionTable.toList = [] := by
    rw [Array.isEmpty_iff] at h
    rw [h]
  rw [h1] at hx
  exact absurd hx List.not_mem_nil
set_option maxHeartbeats 1000000 in
/-- throw new xc("text") -/
theorem x_throw {own xc text : String} {ik is ic i1 sa : Nat} {b1 : ByteArray} (hx : p.tables.exec = Jvm.exec) (hb : c.code = cc) (hl : l.stackTraces = false) (hown : s.vm.findClass own = some m.cls) (hex : c.exceptionTable.isEmpty = true) (hlocks : meth.locks = false) (hsize : ls.size = c.maxLocals)
    (hk9 : (Cond.classLink own ik xc).before args s = true) (hini : (Cond.initialized xc).before args s = true) (hstr : vk_R own is text sa s) (hw : ∀ w ∈ xw own ic xc i1 b1, w.before args s = true) (hcls : Bundle.fit xc = true)
    (q0 : decode b1 0 = .ok (.aload_n 0, 1)) (q1 : decode b1 1 = .ok (.aload_n 1, 1)) (q2 : decode b1 2 = .ok (.invokespecial i1, 3)) (q5 : decode b1 5 = .ok (.return_, 1))
    (hP : va_P D cls ws H) (hK : va_K D cls (tys k) s) (hD : va_D A ws) (hV : EV A s s.heap) (hS : va_S A s.heap H locs) (js : List Nat) (h1 : js.filterMap (fun i => ws[i]?) = w') (h2 : va_nd js = true) (h3 : js.map (fun i => ws[i]?) = w'.map some)
    (d0 : decode cc pc = .ok (.new ik, 3)) (d3 : decode cc (pc + 3) = .ok (.dup, 1)) (d4 : decode cc (pc + 4) = .ok (.ldc is, 2)) (d6 : decode cc (pc + 6) = .ok (.invokespecial ic, 3)) (d9 : decode cc (pc + 9) = .ok (.athrow, 1))
    (hR1 : 5 < R.frames) (hR2 : (rest.map fun v => v.category).sum + 82 ≤ R.locals) (hR3 : 1 ≤ R.cells) (hR4 : 6 ≤ R.slots) :
    W p l e R s m args below meth c H locs 0 0 (TQ below D k A w' xc s) (F0 m pc ls rest) := by
  have hw6 : (Cond.instantiable xc 6).before args s = true := hw _ (by simp only [xw, List.mem_append]; exact Or.inr (Or.inr (Or.inr (Or.inr (by simp [xt])))))
  refine W.newc (g := F0 m pc ls rest) hx hb hown hk9 hw6 hini rfl d0 (by omega) (by omega) (fun cC kC f1 f2 f3 f4 => ?_)
  refine W.eq (g2 := F0 m (pc + 3) ls (.ref H.size :: rest)) rfl ?_
  refine lv_dup hx hb d3 rfl ?_
  refine va_ldcS hx hb hown hstr d4 ?_
  intro T hT X
  have hTs : T.heap.size = H.size + 1 := by rw [hT]; simp
  have hTo : ∀ q : Nat, q < H.size → T.heap[q]? = H[q]? := fun q hq => by
    rw [hT, Array.getElem?_push, if_neg (Nat.ne_of_lt hq)]
  obtain ⟨U, st, hrun, hend, hW, hsame, hce, hsz, hoth⟩ := x_ctor (A := A) X hx (by rw [X.admits.platform]; exact hl) hown hcls q0 q1 q2 q5 hw (fun x hx => hS.2.2 x hx) hV.2.1 (a := H.size) f1 f2 (by rw [hT]; simp) hS.1 (msg := .ref sa) rfl
    (g := F0 m (pc + 4 + 2) ls (.ref sa :: .ref H.size :: .ref H.size :: rest)) rfl hsize rfl rfl rfl (by rw [hb]; exact d6) (by rw [hb]; exact d9) (x_none hex _) hR1
    (by show 2 * 0 + ((Value.ref H.size :: rest).map fun v => v.category).sum + 81 ≤ R.locals; simp only [List.map_cons, List.sum_cons]; show 2 * 0 + (1 + _) + 81 ≤ _; omega) hlocks
  have hUo : ∀ q : Nat, q < H.size → U.heap[q]? = H[q]? := fun q hq => by rw [hoth q (Nat.ne_of_lt hq), hTo q hq]
  have hPU : va_P D cls ws U.heap := hP.kept (fun k9 q hk => hUo q.1 (hP k9 q hk).lt)
  refine ⟨U, st, hrun, H.size, hend, ⟨hPU.sub js h1, va_K.moved hW.alike hK, hD.sub js h2 h3⟩, ⟨?_, fun q hq hn => ?_⟩, hce, hW, locs, hsame, hS.2.2⟩
  · rw [hsz, hTs]
    exact Nat.le_succ_of_le hS.1
  · rw [hUo q (Nat.lt_of_lt_of_le hq hS.1)]
    exact hS.2.1 q hq hn
end XTH
end
section
section XFR
variable {p : Program} {l : Launch} {e : Env} {R : Room} {s : State} {m : MethodId} {args : Array Value} {below : List Frame} {meth : Method} {c : Code} {U : State} {Ls : List Loc} {c0 s0 : Nat}
variable {D : va_G} {k : k3} {A : Nat → Prop} {ws wc wr : va_W}
/-- a callee that throws comes back over the frame that called it -/
theorem x_free {y : MethodName} {ws9 : List Cond} {bytes : ByteArray} {maxL sz len : Nat} {ret : Option FieldType} {rm : Room} {av : List Value} {E : String} (hM : Thr l y ws9 rm av D k sz wc E)
    (X : Stand p l e R s m args below meth c U Ls c0 s0) {g : JFrame} {ig : Instr} {mk : MethodId} (hg : g.method = m) (hsize : g.locals.size = c.maxLocals) (hdg : decode c.code g.pc = .ok (ig, len)) (hn : U.methodNamed? y = some mk)
    (hrc : rm.cells = 1) (hrs : rm.slots = 6) (hframes : rm.frames + 1 ≤ R.frames) (hlocals : 2 * g.monitorRoom + (g.stack.map fun v => v.category).sum + (maxL + 11) + rm.locals ≤ R.locals)
    (h1 : (headSpec ws9 rm).pre.before av.toArray U = true) (h2 : (Cond.code y bytes maxL ret).before av.toArray U = true) (h3 : (Cond.initialized y.cls).before av.toArray U = true) (h4 : c0 + 1 ≤ R.cells) (h5 : s0 + 6 ≤ R.slots)
    (hp : va_Pc av (pr_ D k sz wc) av.toArray (U.calling g mk av.toArray)) :
    ∃ (q : Addr) (t U' : State) (L : List Loc), U'.heap = t.heap ∧ U'.vm = t.vm ∧ Stand p l e R s m args below meth c U' (Ls ++ L) (c0 + 1) (s0 + 6) ∧ (∀ z ∈ L, va_A wc sz z.base) ∧ po_ D k (va_A wc sz) wc t ∧ va_F (va_A wc sz) (U.calling g mk av.toArray) t ∧ (∃ ce : Cell, t.heap[q]? = some ce ∧ ce.vm = .none ∧ U.vm.findClass E = some ce.cls) ∧
      Steps p.tables e below (doInvoke e (U.setTop g) [] mk av.toArray).1 ((U'.setTop g).pushFrame (.throwing q)) := by
  obtain ⟨methY, cY, hmY, hcY, -, hlY, -, -, -, -⟩ := Cond.code_spec hn h2
  obtain ⟨kY, hkY, -⟩ := className_of_methodNamed hn
  have hinitY : kY.init = .initialized := Cond.initialized_spec (findClass_of_methodNamed hn) hkY h3
  have h : At U g.method c below := by rw [hg]; exact X.here
  have happ : (headSpec ws9 rm).appliesLoose y e.platform (U.calling g mk av.toArray) = true :=
    Spec.appliesLoose_calling (g := g) h hdg hn hkY hinitY (X.room_calling (g := g) (R' := rm) hsize hmY hcY hframes (by rw [hlY]; omega) (by rw [hrc]; exact h4) (by rw [hrs]; exact h5)) h1
  obtain ⟨mid, hmid⟩ := h.above
  have hfr : (U.setTop g).frames = (.java g :: mid) ++ below := by rw [State.frames_setTop' g h.top, hmid]; rfl
  obtain ⟨o, s₂, hsteps, hrun, hend, hq⟩ := Steps.callFree hM p X.admits X.cas X.clock (acts := []) hfr happ hp trivial
  obtain ⟨q, rfl, hpo, hF, hce, hW₂, L, hsb, hL⟩ := hq
  rw [State.frames_setTop' g h.top] at hend
  obtain ⟨e2, q2, q3, q4, q5, q6⟩ := id hsb
  have e3 : s₂ = ({ (U.calling g mk av.toArray).setFrames s₂.frames with heap := s₂.heap, slotsUsed := s₂.slotsUsed } : State).setVm s₂.vm := by
    have h0 : s₂ = ({ s₂ with vm := (U.calling g mk av.toArray).vm } : State).setVm s₂.vm := rfl
    have e2' : ({ s₂ with vm := (U.calling g mk av.toArray).vm } : State) = { (U.calling g mk av.toArray).setFrames s₂.frames with heap := s₂.heap, slotsUsed := s₂.slotsUsed } := e2
    rw [e2'] at h0
    exact h0
  have hf₂ : s₂.frames = .throwing q :: .java g :: U.frames.tail := hend
  have hW' : U.WarmedH s₂.vm := hW₂
  obtain ⟨g₀, hg0⟩ := Option.isSome_iff_exists.mp h.top
  obtain ⟨r, hr⟩ := State.topJava?_eq_some.mp hg0
  have hr' : (({ U with heap := s₂.heap, slotsUsed := s₂.slotsUsed } : State).setVm s₂.vm).frames = .java g₀ :: r := hr
  have hs₂ : s₂ = ((({ U with heap := s₂.heap, slotsUsed := s₂.slotsUsed } : State).setVm s₂.vm).setTop g).pushFrame (.throwing q) := by
    have e4 := e3
    rw [hf₂, State.calling_eq h.top, State.setFrames_setFrames, hr] at e4
    rw [State.setTop_of_frames _ hr', State.pushFrame, State.setFrames_setFrames, State.frames_setFrames _ (State.cur_lt_of_frames hr')]
    exact e4
  have hsame : U.sameButNew ({ U with heap := s₂.heap, slotsUsed := s₂.slotsUsed } : State) L 1 6 := by
    refine ⟨?_, q2, q3, q4, q5, q6⟩
    obtain ⟨t, ht, -⟩ := State.frames_cons hr
    show ({ U with heap := s₂.heap, slotsUsed := s₂.slotsUsed } : State) = { U.setFrames U.frames with heap := s₂.heap, slotsUsed := s₂.slotsUsed }
    rw [State.setFrames_self ht]
  subst hg
  refine ⟨q, s₂, (({ U with heap := s₂.heap, slotsUsed := s₂.slotsUsed } : State).setVm s₂.vm), L, rfl, rfl,
    ⟨X.admits, X.cas, X.clock, X.frames, X.room, X.hears, X.method, X.code, (X.here.setHeapUsed s₂.heap s₂.slotsUsed).setVm hW'.alike, X.tail, State.WarmedH.trans X.warmed hW', X.limits, X.bytes, X.same.trans (hsame.setVm s.vm)⟩, hL, hpo, hF, hce, ?_⟩
  rw [← hs₂]
  exact hsteps
end XFR
section XGO
variable {p : Program} {l : Launch} {e : Env} {R : Room} {s : State} {m : MethodId} {args : Array Value} {below : List Frame} {meth : Method} {c : Code} {H : Heap} {locs : List Loc} {cells slots : Nat} {Q : State → Prop}
variable {D : va_G} {k : k3} {A : Nat → Prop} {ws wc wr w' : va_W}
variable {y : MethodName} {bytes cc : ByteArray} {maxL nLc n index : Nat} {ret : Option FieldType} {rm : Room} {own C E : String} {b : Addr} {As rest : List Value} {g : JFrame}
/-- from the call on: the machine comes to a state where q is thrown over the frame, the world as it was -/
def xGo (p : Program) (l : Launch) (e : Env) (R : Room) (s : State) (m : MethodId) (args : Array Value) (below : List Frame) (meth : Method) (c : Code) (H : Heap) (locs : List Loc) (cells slots : Nat) (D : va_G) (A : Nat → Prop) (w1 : va_W) (E : String) (g : JFrame) (rest : List Value) : Prop :=
  ∀ T : State, T.heap = H → Stand p l e R s m args below meth c T locs cells slots → ∃ (q : Addr) (T' : State) (L : List Loc), Stand p l e R s m args below meth c T' (locs ++ L) (cells + 1) (slots + 6) ∧ va_P D cls w1 T'.heap ∧ va_D A w1 ∧ va_S A s.heap T'.heap (locs ++ L) ∧
    (∃ ce : Cell, T'.heap[q]? = some ce ∧ ce.vm = .none ∧ s.vm.findClass E = some ce.cls) ∧ Steps p.tables e below (T.setTop g) ((T'.setTop { g with stack := rest }).pushFrame (.throwing q))
theorem x_fin {T : State} {vm₁ : Vm} {q : Addr} {t U' : State} {L : List Loc} {g9 : JFrame} {mk : MethodId} {av : List Value} (hT : T.heap = H) (hW1 : s.WarmedH vm₁) (hP : va_P D cls ws H) (hD : va_D A ws) (hS : va_S A s.heap H locs) (hA : ∀ q, s.heap.size ≤ q → A q)
    {isC isR : List Nat} (hC : isC.map (fun i => ws[i]?) = wc.map some) (hR : isR.map (fun i => ws[i]?) = wr.map some) (hnR : va_nd isR = true) (hdis : ∀ i ∈ isR, i ∉ isC) (e1 : U'.heap = t.heap) (hL : ∀ z ∈ L, va_A wc H.size z.base) (hpo : po_ D k (va_A wc H.size) wc t)
    (hF : va_F (va_A wc H.size) ((T.setVm vm₁).calling g9 mk av.toArray) t) (hce : ∃ ce : Cell, t.heap[q]? = some ce ∧ ce.vm = .none ∧ (T.setVm vm₁).vm.findClass E = some ce.cls) :
    va_P D cls (wr ++ wc) U'.heap ∧ va_D A (wr ++ wc) ∧ va_S A s.heap U'.heap (locs ++ L) ∧ ∃ ce : Cell, U'.heap[q]? = some ce ∧ ce.vm = .none ∧ s.vm.findClass E = some ce.cls := by
  have hFc := va_free (wc := wc) hD hS hA isC hC
  obtain ⟨f1, f2⟩ := hF
  have f1 : H.size ≤ t.heap.size := by rw [← hT]; exact f1
  have f2 : ∀ q : Nat, q < H.size → ¬ va_A wc H.size q → t.heap[q]? = H[q]? := fun q h1 h2 => by
    have h3 := f2 q (by show q < T.heap.size; rw [hT]; exact h1) h2
    rw [h3]
    show T.heap[q]? = H[q]?
    rw [hT]
  obtain ⟨hP1, hK1, hD1⟩ := hpo
  obtain ⟨j1, j2⟩ := va_join hP hD isC isR hC hR hnR hdis f2 hFc hP1 hD1
  rw [e1]
  refine ⟨j1, j2, ⟨Nat.le_trans hS.1 f1, fun q h1 h2 => ?_, fun z hz => ?_⟩, ?_⟩
  · rw [f2 q (Nat.lt_of_lt_of_le h1 hS.1) (fun h => h2 (hFc q h))]
    exact hS.2.1 q h1 h2
  · rcases List.mem_append.mp hz with h | h
    · exact hS.2.2 z h
    · exact hFc _ (hL z h)
  · obtain ⟨ce, c1, c2, c3⟩ := hce
    have c3 : vm₁.findClass E = some ce.cls := c3
    rw [hW1.alike.findClass] at c3
    exact ⟨ce, c1, c2, c3⟩
theorem x_goS (F : CallFix p m c cc nLc s args uW own) (hM : Thr l y (Cond.code y bytes maxL ret :: uW) rm As D k H.size wc E) (h0 : Cond.methodLink own index y ∈ uW) (h1 : Cond.static y ∈ uW) (h3 : Cond.initialized y.cls ∈ uW) (h4 : Cond.code y bytes maxL ret ∈ uW) (hrc : rm.cells = 1) (hrs : rm.slots = 6)
    (hd : y.cls ≠ "java/lang/invoke/MethodHandle" ∧ y.cls ≠ "java/lang/invoke/VarHandle" ∧ (parseMethodDescriptor y.desc).map (fun d => d.parameters.length) = some n) (hR : rm.frames + 1 ≤ R.frames ∧ 8 + (maxL + 11) + rm.locals ≤ R.locals)
    (hP : va_P D cls ws H) (hK : va_K D cls (tys k) s) (hD : va_D A ws) (hN : NE s) (hV : EV A s s.heap) (hS : va_S A s.heap H locs) (hA : ∀ q, s.heap.size ≤ q → A q) {isC isR : List Nat} (hC : isC.map (fun i => ws[i]?) = wc.map some) (hn9 : va_nd isC = true) (hRr : isR.map (fun i => ws[i]?) = wr.map some) (hnR : va_nd isR = true) (hdis : ∀ i ∈ isR, i ∉ isC)
    (hg : g.method = m) (hn : As.length = n) (hsize : g.locals.size = nLc) (hstack : g.stack = As.reverse ++ rest) (hW : 2 * g.monitorRoom + (rest.map fun v => v.category).sum ≤ 8) (hdg : decode cc g.pc = .ok (.invokestatic index, 3)) (hf : cells + 1 ≤ R.cells ∧ slots + 6 ≤ R.slots) :
    xGo p l e R s m args below meth c H locs cells slots D A (wr ++ wc) E g rest := by
  intro T hT X
  obtain ⟨hx, hb, hml, ho, hts⟩ := F
  obtain ⟨mk, hnamed⟩ := Cond.code_named (hts _ h4)
  obtain ⟨methM, cM, hmethM, -, -, -, -, -, -, hsigM⟩ := Cond.code_spec hnamed (hts _ h4)
  have hstatic : methM.isStatic = true := Cond.static_spec hnamed hmethM (hts _ h1)
  obtain ⟨kP, hkP, -⟩ := className_of_methodNamed hnamed
  have hinitP : kP.init = .initialized := Cond.initialized_spec (findClass_of_methodNamed hnamed) hkP (hts _ h3)
  have hlen : As.length = methM.sig.parameters.length := by
    have h2 := hd.2.2
    rw [hsigM] at h2
    exact hn.trans (Option.some.inj h2).symm
  obtain ⟨vm₁, X₁, hstep₁⟩ := X.invokestatic hx ho (hts _ h0) hnamed hmethM hstatic hkP hinitP ⟨hd.1, hd.2.1⟩ (g := g) hg (argsL := As) (rest := rest) hlen hstack (by rw [hb]; exact hdg)
  have hgd := gd_I uW_id h4
  obtain ⟨q, t, U', L, e1, e2, X', hL, hpo, hF, hce, hst⟩ := x_free hM X₁ (g := { g with stack := rest }) (ig := .invokestatic index) (mk := mk) (len := 3) (bytes := bytes) (maxL := maxL) (ret := ret) hg (hsize.trans hml.symm) (by rw [hb]; exact hdg) (X₁.named hnamed) hrc hrs hR.1
    (by have h9 : 2 * ({ g with stack := rest } : JFrame).monitorRoom + (rest.map fun v => v.category).sum ≤ 8 := hW; have h8 := hR.2; show 2 * ({ g with stack := rest } : JFrame).monitorRoom + (rest.map fun v => v.category).sum + (maxL + 11) + rm.locals ≤ R.locals; omega)
    (atoms_intro fun w hw => word_at X₁.warmed (hgd w hw).2 (hts w (hgd w hw).1)) (word_at X₁.warmed (uW_good h4) (hts _ h4)) (word_at X₁.warmed (uW_good h3) (hts _ h3)) hf.1 hf.2 (pr_blind _ _ _ _ (cut_ hP hK hD hN hV hS hA hC hn9 (T.setVm vm₁) hT X₁.warmed))
  obtain ⟨r1, r2, r3, r4⟩ := x_fin hT X₁.warmed hP hD hS hA hC hRr hnR hdis e1 hL hpo hF hce
  exact ⟨q, U', L, X', r1, r2, r3, r4, hstep₁ _ fun acts => by rw [doInvoke_state]; exact hst⟩
theorem x_goV (F : CallFix p m c cc nLc s args uW own) (hM : Thr l y (Cond.code y bytes maxL ret :: uW) rm (.ref b :: As) D k H.size wc E) (h0 : Cond.methodLink own index y ∈ uW) (h1 : Cond.instanceMethod y ∈ uW) (h2 : Cond.selects C y y ∈ uW) (h3 : Cond.initialized y.cls ∈ uW) (h4 : Cond.code y bytes maxL ret ∈ uW) (hrc : rm.cells = 1) (hrs : rm.slots = 6)
    (hd : y.cls ≠ "java/lang/invoke/MethodHandle" ∧ y.cls ≠ "java/lang/invoke/VarHandle" ∧ (parseMethodDescriptor y.desc).map (fun d => d.parameters.length) = some n) (hR : rm.frames + 1 ≤ R.frames ∧ 8 + (maxL + 11) + rm.locals ≤ R.locals)
    (hP : va_P D cls ws H) (hK : va_K D cls (tys k) s) (hD : va_D A ws) (hN : NE s) (hV : EV A s s.heap) (hS : va_S A s.heap H locs) (hA : ∀ q, s.heap.size ≤ q → A q) {isC isR : List Nat} (hC : isC.map (fun i => ws[i]?) = wc.map some) (hn9 : va_nd isC = true) (hRr : isR.map (fun i => ws[i]?) = wr.map some) (hnR : va_nd isR = true) (hdis : ∀ i ∈ isR, i ∉ isC)
    {ci : Nat} {fs : List Value} (hw0 : wc[0]? = some (b, .inr (ci, fs))) {q9 : vw_C} (hc : cls[ci]? = some q9) (hq9 : q9.1 = C)
    (hg : g.method = m) (hn : As.length = n) (hsize : g.locals.size = nLc) (hstack : g.stack = As.reverse ++ .ref b :: rest) (hW : 2 * g.monitorRoom + (rest.map fun v => v.category).sum ≤ 8) (hdg : decode cc g.pc = .ok (.invokevirtual index, 3)) (hf : cells + 1 ≤ R.cells ∧ slots + 6 ≤ R.slots) :
    xGo p l e R s m args below meth c H locs cells slots D A (wr ++ wc) E g rest := by
  intro T hT X
  obtain ⟨hx, hb, hml, ho, hts⟩ := F
  obtain ⟨cellB, hcell, hobj, hcls⟩ := rec_ (C := C) hP hK hC hw0 hc hq9
  obtain ⟨mk, methM, hnamed, hmethM, hstM, habM⟩ := Cond.instanceMethod_spec (hts _ h1)
  obtain ⟨methM', cM, hmethM', -, -, -, -, -, -, hsigM⟩ := Cond.code_spec hnamed (hts _ h4)
  cases hmethM.symm.trans hmethM'
  obtain ⟨c2, r2, m2, z1, z2, z3, z4, kP, hkP, hkPi⟩ := Cond.selects_spec (hts _ h2)
  cases hcls.symm.trans z1
  cases (State.methodFound?_of_named hnamed ⟨hd.1, hd.2.1⟩).symm.trans z2
  cases hnamed.symm.trans z3
  have hselP : selectMethod e.platform s.vm cellB.cls mk = .method mk := by rw [Launch.admits_selectMethod X.admits]; exact z4
  have hlen : As.length = methM.sig.parameters.length := by
    have h2 := hd.2.2
    rw [hsigM] at h2
    exact hn.trans (Option.some.inj h2).symm
  obtain ⟨vm₁, X₁, hstep₁⟩ := X.invokevirtual hx ho (hts _ h0) hnamed hmethM hstM hkP hkPi ⟨hd.1, hd.2.1⟩ (a := b) (cell := cellB) (by rw [hT]; exact hcell)
    (fun z h => by rw [h] at hobj; cases hobj) hselP hmethM habM hkP hkPi (g := g) hg (argsL := As) (rest := rest) hlen hstack (by rw [hb]; exact hdg)
  have hgd := gd_I uW_id h4
  obtain ⟨q, t, U', L, e1, e2, X', hL, hpo, hF, hce, hst⟩ := x_free hM X₁ (g := { g with stack := rest }) (ig := .invokevirtual index) (mk := mk) (len := 3) (bytes := bytes) (maxL := maxL) (ret := ret) hg (hsize.trans hml.symm) (by rw [hb]; exact hdg) (X₁.named hnamed) hrc hrs hR.1
    (by have h9 : 2 * ({ g with stack := rest } : JFrame).monitorRoom + (rest.map fun v => v.category).sum ≤ 8 := hW; have h8 := hR.2; show 2 * ({ g with stack := rest } : JFrame).monitorRoom + (rest.map fun v => v.category).sum + (maxL + 11) + rm.locals ≤ R.locals; omega)
    (atoms_intro fun w hw => word_at X₁.warmed (hgd w hw).2 (hts w (hgd w hw).1)) (word_at X₁.warmed (uW_good h4) (hts _ h4)) (word_at X₁.warmed (uW_good h3) (hts _ h3)) hf.1 hf.2 (pr_blind _ _ _ _ (cut_ hP hK hD hN hV hS hA hC hn9 (T.setVm vm₁) hT X₁.warmed))
  obtain ⟨r1, r2, r3, r4⟩ := x_fin hT X₁.warmed hP hD hS hA hC hRr hnR hdis e1 hL hpo hF hce
  exact ⟨q, U', L, X', r1, r2, r3, r4, hstep₁ _ fun acts => by rw [doInvoke_state]; exact hst⟩
/-- not caught here -/
theorem x_prop {pc : Nat} {ls : Array Slot} {st0 : List Value} (hgo : xGo p l e R s m args below meth c H locs 0 0 D A ws E (F0 m pc ls st0) rest) (hK : va_K D cls (tys k) s) (hex : c.exceptionTable.isEmpty = true) (hlocks : meth.locks = false) (js : List Nat) (h1 : js.filterMap (fun i => ws[i]?) = w') (h2 : va_nd js = true) (h3 : js.map (fun i => ws[i]?) = w'.map some) :
    W p l e R s m args below meth c H locs 0 0 (TQ below D k A w' E s) (F0 m pc ls st0) := by
  intro T hT X
  obtain ⟨q, T', L, X', hP', hD', hS', hce, st⟩ := hgo T hT X
  obtain ⟨st1, hrun, hend, hW, hsm⟩ := X'.leaveThrown q (g := { F0 m pc ls st0 with stack := rest }) rfl rfl rfl (x_none hex _) hlocks
  exact ⟨_, st.trans st1, hrun, q, hend, ⟨hP'.sub js h1, va_K.moved hW.alike hK, hD'.sub js h2 h3⟩, ⟨hS'.1, hS'.2.1⟩, hce, hW, locs ++ L, hsm, hS'.2.2⟩
end XGO
end
section
-- ===== a row of a method's own table takes what a callee threw =====
section FH
variable {Q : Handler → Pre} {Ep : CtlPost} {e : Env} {d : Bool} {acts : List Action} {S : State} {f : JFrame} {a : Addr}
theorem fh_hit {x : ExceptionTableEntry} {t : List ExceptionTableEntry} {ct : ClassId} {cell : Cell} (hx : covers x f.pc = true) (h0 : x.catchType ≠ 0) (hl : S.vm.ClassLinks e.platform f.method.cls x.catchType ct) (hcell : S.heap[a]? = some cell) (hobj : ∀ k, cell.vm ≠ .statics k)
    (hk : ∃ k, S.vm.classes[cell.cls]? = some k) (hc : ∃ k, S.vm.classes[ct]? = some k) (hr : S.vm.assignable cell.cls ct = true) :
    wp (findHandler.go f a (x :: t)) Q Ep e d acts S ↔ Q (.found x.handlerPc) d acts (S.setVm (S.vm.noted f.method.cls x.catchType (.cls ct))) := by
  have hal : S.vm.Alike (S.vm.noted f.method.cls x.catchType (.cls ct)) := (Vm.Alike.refl S.vm).noted _ _ _
  obtain ⟨b1, b2⟩ := (resolveClass_links e.toSetting hl).op (op := VmOp.resolveClass f.method.cls x.catchType) rfl
  obtain ⟨k1, hk1⟩ := hk
  obtain ⟨k2, hk2⟩ := hc
  obtain ⟨k3, hk3, -⟩ := hal.2.2 _ _ hk1
  obtain ⟨k4, hk4, -⟩ := hal.2.2 _ _ hk2
  have hr' : (S.vm.noted f.method.cls x.catchType (.cls ct)).assignable cell.cls ct = true := hal.assignable .. ▸ hr
  unfold covers at hx
  simp [findHandler.go, hx, h0, b1, b2, hcell, hobj, hk3, hk4, hr', VmOp.dirties, VmOp.acts]
theorem fh_pass {x : ExceptionTableEntry} {t : List ExceptionTableEntry} {ct : ClassId} {cell : Cell} (hx : covers x f.pc = true) (h0 : x.catchType ≠ 0) (hl : S.vm.ClassLinks e.platform f.method.cls x.catchType ct) (hcell : S.heap[a]? = some cell) (hobj : ∀ k, cell.vm ≠ .statics k)
    (hk : ∃ k, S.vm.classes[cell.cls]? = some k) (hc : ∃ k, S.vm.classes[ct]? = some k) (hr : S.vm.assignable cell.cls ct = false) :
    wp (findHandler.go f a (x :: t)) Q Ep e d acts S ↔ wp (findHandler.go f a t) Q Ep e d acts (S.setVm (S.vm.noted f.method.cls x.catchType (.cls ct))) := by
  have hal : S.vm.Alike (S.vm.noted f.method.cls x.catchType (.cls ct)) := (Vm.Alike.refl S.vm).noted _ _ _
  obtain ⟨b1, b2⟩ := (resolveClass_links e.toSetting hl).op (op := VmOp.resolveClass f.method.cls x.catchType) rfl
  obtain ⟨k1, hk1⟩ := hk
  obtain ⟨k2, hk2⟩ := hc
  obtain ⟨k3, hk3, -⟩ := hal.2.2 _ _ hk1
  obtain ⟨k4, hk4, -⟩ := hal.2.2 _ _ hk2
  have hr' : (S.vm.noted f.method.cls x.catchType (.cls ct)).assignable cell.cls ct = false := hal.assignable .. ▸ hr
  unfold covers at hx
  simp [findHandler.go, hx, h0, b1, b2, hcell, hobj, hk3, hk4, hr', VmOp.dirties, VmOp.acts]
end FH
/-- a row that a thrown object of the class ct passes; one that takes it -/
def rowNo (pl : Platform) (s : State) (d : ClassId) (pc : Nat) (ct : ClassId) (z : ExceptionTableEntry) : Prop := covers z pc = true ∧ z.catchType ≠ 0 ∧ ∃ c, s.vm.ClassLinks pl d z.catchType c ∧ s.vm.assignable ct c = false
def rowYes (pl : Platform) (s : State) (d : ClassId) (pc : Nat) (ct : ClassId) (z : ExceptionTableEntry) : Prop := covers z pc = true ∧ z.catchType ≠ 0 ∧ ∃ c, s.vm.ClassLinks pl d z.catchType c ∧ s.vm.assignable ct c = true
theorem fh_all {e : Env} {s : State} {f : JFrame} {a : Addr} {cell : Cell} (hobj : ∀ k, cell.vm ≠ .statics k) (hk0 : ∃ k, s.vm.classes[cell.cls]? = some k) (x : ExceptionTableEntry) (suf : List ExceptionTableEntry) (hx : rowYes e.platform s f.method.cls f.pc cell.cls x) :
    ∀ (pre : List ExceptionTableEntry) (S : State), s.WarmedH S.vm → S.heap[a]? = some cell → (∀ z ∈ pre, rowNo e.platform s f.method.cls f.pc cell.cls z) →
      ∃ vm', s.WarmedH vm' ∧ ∀ (Q : Handler → Pre) (Ep : CtlPost) (d : Bool) (acts : List Action), wp (findHandler.go f a (pre ++ x :: suf)) Q Ep e d acts S ↔ Q (.found x.handlerPc) d acts (S.setVm vm')
  | [], S, hW, hcell, _ => by
    obtain ⟨k0, hk0⟩ := hk0
    obtain ⟨k1, hk1, -⟩ := hW.alike.2.2 _ _ hk0
    obtain ⟨hcov, h0, ct, hl, hfit⟩ := hx
    obtain ⟨dk, _, _, kt, hd, _, _, _, _, hkt, _, hopen⟩ := hl.here
    obtain ⟨k2, hk2, -⟩ := hW.alike.2.2 _ _ hkt
    exact ⟨_, hW.noted hd hopen (State.rightAt_cls hl), fun Q Ep d acts => fh_hit hcov h0 (hW.classLinks hl) hcell hobj ⟨k1, hk1⟩ ⟨k2, hk2⟩ (by rw [hW.alike.assignable]; exact hfit)⟩
  | z :: pre, S, hW, hcell, hpass => by
    obtain ⟨hcov, h0, ct, hl, hno⟩ := hpass z List.mem_cons_self
    obtain ⟨k0, hk9⟩ := id hk0
    obtain ⟨k1, hk1, -⟩ := hW.alike.2.2 _ _ hk9
    obtain ⟨dk, _, _, kt, hd, _, _, _, _, hkt, _, hopen⟩ := hl.here
    obtain ⟨k2, hk2, -⟩ := hW.alike.2.2 _ _ hkt
    obtain ⟨vm', hW', hq⟩ := fh_all hobj hk0 x suf hx pre (S.setVm (S.vm.noted f.method.cls z.catchType (.cls ct))) (hW.noted hd hopen (State.rightAt_cls hl)) hcell (fun y hy => hpass y (List.mem_cons_of_mem _ hy))
    exact ⟨vm', hW', fun Q Ep d acts => (fh_pass hcov h0 (hW.classLinks hl) hcell hobj ⟨k1, hk1⟩ ⟨k2, hk2⟩ (by rw [hW.alike.assignable]; exact hno)).trans (hq Q Ep d acts)⟩
section XCA
variable {p : Program} {l : Launch} {e : Env} {R : Room} {s : State} {m : MethodId} {args : Array Value} {below : List Frame} {meth : Method} {c : Code} {H : Heap} {locs : List Loc} {cells slots : Nat} {Q : State → Prop}
variable {D : va_G} {A : Nat → Prop} {ws : va_W} {own E nm : String} {rest st0 : List Value} {pc : Nat} {ls : Array Slot}
theorem x_catch (hgo : xGo p l e R s m args below meth c H locs cells slots D A ws E (F0 m pc ls st0) rest) (hown : s.vm.findClass own = some m.cls) (pre : List ExceptionTableEntry) (x : ExceptionTableEntry) (suf : List ExceptionTableEntry) (hsplit : c.exceptionTable.toList = pre ++ x :: suf)
    (hpre : ∀ z ∈ pre, covers z pc = true ∧ z.catchType ≠ 0 ∧ ∃ n2, (Cond.classLink own z.catchType n2).before args s = true ∧ va_Nc E n2 s) (hx : covers x pc = true) (h0 : x.catchType ≠ 0) (hlink : (Cond.classLink own x.catchType nm).before args s = true) (hcast : (Cond.castable E nm).before args s = true)
    (kk : ∀ (q : Addr) (H1 : Heap) (locs1 : List Loc), va_P D cls ws H1 → va_D A ws → va_S A s.heap H1 locs1 → W p l e R s m args below meth c H1 locs1 (cells + 1) (slots + 6) Q (F0 m x.handlerPc ls [.ref q])) : W p l e R s m args below meth c H locs cells slots Q (F0 m pc ls st0) := by
  intro T hT X
  obtain ⟨q, T', L, X', hP', hD', hS', ⟨ce, hce, hcv, hcc⟩, st⟩ := hgo T hT X
  have hpl : e.platform.magicAccessors = ({} : Platform).magicAccessors := by rw [X'.admits.platform]
  obtain ⟨k0, hk0, -⟩ := Vm.findClass_spec hcc
  have yes : rowYes e.platform s m.cls pc ce.cls x := by
    obtain ⟨c3, c4, hc3, hc4, hasg⟩ := Cond.castable_spec hcast
    cases Option.some.inj (hc3.symm.trans hcc)
    obtain ⟨c5, hc5, hl5⟩ := Cond.classLink_spec hown hlink e.platform hpl
    cases Option.some.inj (hc4.symm.trans hc5)
    exact ⟨hx, h0, c4, hl5, hasg⟩
  have no : ∀ z ∈ pre, rowNo e.platform s m.cls pc ce.cls z := fun z hz => by
    obtain ⟨g1, g2, n2, hl1, hn1⟩ := hpre z hz
    obtain ⟨c6, hc6, hl6⟩ := Cond.classLink_spec hown hl1 e.platform hpl
    obtain ⟨a8, b8, y1, y2, y3⟩ := hn1
    cases Option.some.inj (y1.symm.trans hcc)
    cases Option.some.inj (y2.symm.trans hc6)
    exact ⟨g1, g2, _, hl6, y3⟩
  obtain ⟨vm', hW', hq⟩ := fh_all (e := e) (s := s) (f := { F0 m pc ls st0 with stack := rest }) (a := q) (cell := ce) (fun k h => by rw [hcv] at h; cases h) ⟨k0, hk0⟩ x suf yes pre ((T'.setTop { F0 m pc ls st0 with stack := rest }).pushFrame (.throwing q)) X'.warmed hce no
  have X2 : Stand p l e R s m args below meth c (T'.setVm vm') (locs ++ L) (cells + 1) (slots + 6) := X'.noted hW'
  obtain ⟨t2, a1, b1⟩ := kk q T'.heap (locs ++ L) hP' hD' hS' (T'.setVm vm') rfl X2
  refine ⟨t2, st.trans ?_, b1⟩
  have hf : ∀ (Q : Handler → Pre) (Ep : CtlPost) (d : Bool) (acts : List Action), wp (findHandler { F0 m pc ls st0 with stack := rest } q) Q Ep e d acts ((T'.setTop { F0 m pc ls st0 with stack := rest }).pushFrame (.throwing q)) ↔ Q (.found x.handlerPc) d acts (((T'.setTop { F0 m pc ls st0 with stack := rest }).pushFrame (.throwing q)).setVm vm') := fun Q Ep d acts => by
    rw [Jvm.W.findHandler_eq (meth := meth) (code := c) X'.method' X'.code, hsplit]
    exact hq Q Ep d acts
  have hst : (stepThrowing e ((T'.setTop { F0 m pc ls st0 with stack := rest }).pushFrame (.throwing q)) q (.java { F0 m pc ls st0 with stack := rest } :: T'.frames.tail)).Is ((((T'.setTop { F0 m pc ls st0 with stack := rest }).pushFrame (.throwing q)).setVm vm').setFrames (.java { F0 m pc ls st0 with pc := x.handlerPc, stack := [.ref q] } :: T'.frames.tail)) [] := by
    simp only [stepThrowing, searchFrame, vmDo]
    generalize hr : Sem.go _ e false [] _ = res
    obtain ⟨as, rfl, ha⟩ := Sem.eq_ok_of hr (a := Handler.found x.handlerPc) (s' := ((T'.setTop { F0 m pc ls st0 with stack := rest }).pushFrame (.throwing q)).setVm vm') (acts' := []) (by simp [hf _ _ _ _])
    exact ⟨rfl, ha⟩
  have hh : At T' ({ F0 m pc ls st0 with stack := rest } : JFrame).method c below := X'.here
  obtain ⟨hgo2, hw2⟩ := hh.throwing q
  refine Steps.head hgo2 hw2 ?_
  obtain ⟨g₀, hg0⟩ := Option.isSome_iff_exists.mp hh.top
  obtain ⟨r, hr⟩ := State.topJava?_eq_some.mp hg0
  have hr' : (T'.setVm vm').frames = .java g₀ :: r := hr
  rw [stepThread_throwing (frames_entered hh.top _), hst.1]
  rw [State.setTop_of_frames _ hr'] at a1
  have hx9 : ∀ (u : State) (F G : List Frame), ((u.setFrames F).setVm vm').setFrames G = (u.setVm vm').setFrames G := fun u F G => by
    show ((u.setVm vm').setFrames F).setFrames G = _
    rw [State.setFrames_setFrames]
  rw [hr, List.tail_cons, State.pushFrame, State.setTop_of_frames _ hr, hx9, hx9]
  exact a1
end XCA
end
section
def xbad (X : String) (w : Cond) : Bool := decide (w = .castable X X) || (decide (w = .laysStatic Bundle.tN "UNASSIGNED_STACK" Bundle.steD) || (decide (w = .laysStatic Bundle.tN "SUPPRESSED_SENTINEL" Bundle.listD) || (decide (w = .isRef (.static Bundle.tN "UNASSIGNED_STACK" Bundle.steD)) || (decide (w = .isRef (.static Bundle.tN "SUPPRESSED_SENTINEL" Bundle.listD)) || (decide (w = .declares (Bundle.initS "java/lang/RuntimeException")) || (decide (w = .declares (Bundle.initS "java/lang/Exception")) || decide (w = .declares (Bundle.initS "java/lang/Throwable"))))))))
theorem xw_of {own X : String} {ic i1 : Nat} {b1 : ByteArray} {args : Array Value} {s : State} {A : Nat → Prop} (hts : ∀ w ∈ uW, w.before args s = true) (hN : NE s) (hV : EV A s s.heap) (hc : (X, X) ∈ cL) (hg : (xw own ic X i1 b1).all (fun w => xbad X w || decide (w ∈ uW)) = true) : ∀ w ∈ xw own ic X i1 b1, w.before args s = true := by
  intro w hw
  have h := List.all_eq_true.mp hg w hw
  rcases Bool.or_eq_true_iff.mp h with h | h
  · unfold xbad at h
    simp only [Bool.or_eq_true, decide_eq_true_eq] at h
    rcases h with rfl | rfl | rfl | rfl | rfl | rfl | rfl | rfl
    · exact va_Nw.use rfl (hN.2.2.1 _ hc)
    · exact hV.2.1.lays
    · exact hV.2.2.lays
    · exact hV.2.1.isRef
    · exact hV.2.2.isRef
    · exact va_Nw.use rfl (hN.2.2.2.2 _ (by simp [dL]))
    · exact va_Nw.use rfl (hN.2.2.2.2 _ (by simp [dL]))
    · exact va_Nw.use rfl (hN.2.2.2.2 _ (by simp [dL]))
  · exact hts w (of_decide_eq_true h)
theorem xg_IA : (xw "TrapHart" 50 "java/lang/IllegalArgumentException" 7 Bundle.six).all (fun w => xbad "java/lang/IllegalArgumentException" w || decide (w ∈ uW)) = true := by decide +kernel
theorem xg_UO : (xw "TrapHart" 78 "java/lang/UnsupportedOperationException" 7 Bundle.six).all (fun w => xbad "java/lang/UnsupportedOperationException" w || decide (w ∈ uW)) = true := by decide +kernel
theorem xg_IS : (xw "TrapHart" 118 "java/lang/IllegalStateException" 7 Bundle.six).all (fun w => xbad "java/lang/IllegalStateException" w || decide (w ∈ uW)) = true := by decide +kernel
theorem xg_IO : (xw "TrapHart" 147 "java/lang/IndexOutOfBoundsException" 7 Bundle.six).all (fun w => xbad "java/lang/IndexOutOfBoundsException" w || decide (w ∈ uW)) = true := by decide +kernel
theorem xg_NS : (xw "TrapHart" 167 "java/util/NoSuchElementException" 13 prog_19_method_4_code).all (fun w => xbad "java/util/NoSuchElementException" w || decide (w ∈ uW)) = true := by decide +kernel
end
