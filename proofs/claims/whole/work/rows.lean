section
-- ===== PART A: goes FIRST, ahead of the names: the tables' words, and 'selects' of the private methods out of them =====
/-- a private method of a class that the tables say can be made, by its rows of tables_1 -/
def lw_okq (q : MethodName × Nat) : Prop := (q.1.cls ≠ "java/lang/invoke/MethodHandle" ∧ q.1.cls ≠ "java/lang/invoke/VarHandle") ∧ Cond.instantiable q.1.cls q.2 ∈ tables_1 ∧ Cond.privateMethod q.1 ∈ tables_1 ∧ Cond.instanceMethod q.1 ∈ tables_1
theorem lw_p0 : lw_okq (⟨"PageMachine", "checkWordAddress", "(I)V"⟩, 6) := ⟨⟨by decide +kernel, by decide +kernel⟩, List.mem_of_getElem? (i := 21) (by decide +kernel), List.mem_of_getElem? (i := 281) (by decide +kernel), List.mem_of_getElem? (i := 282) (by decide +kernel)⟩
theorem lw_p1 : lw_okq (⟨"java/lang/Throwable", "fillInStackTrace", "(I)Ljava/lang/Throwable;"⟩, 6) := ⟨⟨by decide +kernel, by decide +kernel⟩, List.mem_of_getElem? (i := 322) (by decide +kernel), List.mem_of_getElem? (i := 320) (by decide +kernel), List.mem_of_getElem? (i := 321) (by decide +kernel)⟩
theorem lw_p2 : lw_okq (⟨"PageMachine$Processor", "enter", "(I)V"⟩, 10) := ⟨⟨by decide +kernel, by decide +kernel⟩, List.mem_of_getElem? (i := 150) (by decide +kernel), List.mem_of_getElem? (i := 459) (by decide +kernel), List.mem_of_getElem? (i := 460) (by decide +kernel)⟩
theorem lw_p3 : lw_okq (⟨"PageMachine$SystemRegisters", "noteAddress", "(II)V"⟩, 3) := ⟨⟨by decide +kernel, by decide +kernel⟩, List.mem_of_getElem? (i := 41) (by decide +kernel), List.mem_of_getElem? (i := 481) (by decide +kernel), List.mem_of_getElem? (i := 482) (by decide +kernel)⟩
theorem lw_p4 : lw_okq (⟨"PageMachine$Processor", "fetch", "()I"⟩, 10) := ⟨⟨by decide +kernel, by decide +kernel⟩, List.mem_of_getElem? (i := 150) (by decide +kernel), List.mem_of_getElem? (i := 490) (by decide +kernel), List.mem_of_getElem? (i := 491) (by decide +kernel)⟩
theorem lw_p5 : lw_okq (⟨"PageMachine$AddressSpace", "locateMapped", "(II)J"⟩, 4) := ⟨⟨by decide +kernel, by decide +kernel⟩, List.mem_of_getElem? (i := 80) (by decide +kernel), List.mem_of_getElem? (i := 510) (by decide +kernel), List.mem_of_getElem? (i := 511) (by decide +kernel)⟩
theorem lw_p6 : lw_okq (⟨"PageMachine$Processor", "perform", "(I)I"⟩, 10) := ⟨⟨by decide +kernel, by decide +kernel⟩, List.mem_of_getElem? (i := 150) (by decide +kernel), List.mem_of_getElem? (i := 537) (by decide +kernel), List.mem_of_getElem? (i := 538) (by decide +kernel)⟩
theorem lw_p7 : lw_okq (⟨"PageMachine$Processor", "performOp0", "()I"⟩, 10) := ⟨⟨by decide +kernel, by decide +kernel⟩, List.mem_of_getElem? (i := 150) (by decide +kernel), List.mem_of_getElem? (i := 541) (by decide +kernel), List.mem_of_getElem? (i := 542) (by decide +kernel)⟩
theorem lw_p8 : lw_okq (⟨"PageMachine$Arithmetic", "shift", "(I)I"⟩, 1) := ⟨⟨by decide +kernel, by decide +kernel⟩, List.mem_of_getElem? (i := 156) (by decide +kernel), List.mem_of_getElem? (i := 571) (by decide +kernel), List.mem_of_getElem? (i := 572) (by decide +kernel)⟩
theorem lw_p9 : lw_okq (⟨"PageMachine$Arithmetic", "moveOrCall", "(I)I"⟩, 1) := ⟨⟨by decide +kernel, by decide +kernel⟩, List.mem_of_getElem? (i := 156) (by decide +kernel), List.mem_of_getElem? (i := 586) (by decide +kernel), List.mem_of_getElem? (i := 587) (by decide +kernel)⟩
theorem lw_p10 : lw_okq (⟨"PageMachine$Arithmetic", "moveHiLo", "(I)I"⟩, 1) := ⟨⟨by decide +kernel, by decide +kernel⟩, List.mem_of_getElem? (i := 156) (by decide +kernel), List.mem_of_getElem? (i := 590) (by decide +kernel), List.mem_of_getElem? (i := 591) (by decide +kernel)⟩
theorem lw_p11 : lw_okq (⟨"PageMachine$Arithmetic", "multiplyOrDivide", "(I)I"⟩, 1) := ⟨⟨by decide +kernel, by decide +kernel⟩, List.mem_of_getElem? (i := 156) (by decide +kernel), List.mem_of_getElem? (i := 594) (by decide +kernel), List.mem_of_getElem? (i := 595) (by decide +kernel)⟩
theorem lw_p12 : lw_okq (⟨"PageMachine$Arithmetic", "product", "()J"⟩, 1) := ⟨⟨by decide +kernel, by decide +kernel⟩, List.mem_of_getElem? (i := 156) (by decide +kernel), List.mem_of_getElem? (i := 598) (by decide +kernel), List.mem_of_getElem? (i := 599) (by decide +kernel)⟩
theorem lw_p13 : lw_okq (⟨"PageMachine$Arithmetic", "plainProduct", "()J"⟩, 1) := ⟨⟨by decide +kernel, by decide +kernel⟩, List.mem_of_getElem? (i := 156) (by decide +kernel), List.mem_of_getElem? (i := 606) (by decide +kernel), List.mem_of_getElem? (i := 607) (by decide +kernel)⟩
theorem lw_p14 : lw_okq (⟨"PageMachine$Arithmetic", "divide", "(JJ)I"⟩, 1) := ⟨⟨by decide +kernel, by decide +kernel⟩, List.mem_of_getElem? (i := 156) (by decide +kernel), List.mem_of_getElem? (i := 614) (by decide +kernel), List.mem_of_getElem? (i := 615) (by decide +kernel)⟩
theorem lw_p15 : lw_okq (⟨"PageMachine$Arithmetic", "addOrCombine", "(I)I"⟩, 1) := ⟨⟨by decide +kernel, by decide +kernel⟩, List.mem_of_getElem? (i := 156) (by decide +kernel), List.mem_of_getElem? (i := 618) (by decide +kernel), List.mem_of_getElem? (i := 619) (by decide +kernel)⟩
def lw_privs_1 : List (MethodName × Nat) := [(⟨"PageMachine", "checkWordAddress", "(I)V"⟩, 6), (⟨"java/lang/Throwable", "fillInStackTrace", "(I)Ljava/lang/Throwable;"⟩, 6), (⟨"PageMachine$Processor", "enter", "(I)V"⟩, 10), (⟨"PageMachine$SystemRegisters", "noteAddress", "(II)V"⟩, 3), (⟨"PageMachine$Processor", "fetch", "()I"⟩, 10), (⟨"PageMachine$AddressSpace", "locateMapped", "(II)J"⟩, 4), (⟨"PageMachine$Processor", "perform", "(I)I"⟩, 10), (⟨"PageMachine$Processor", "performOp0", "()I"⟩, 10), (⟨"PageMachine$Arithmetic", "shift", "(I)I"⟩, 1), (⟨"PageMachine$Arithmetic", "moveOrCall", "(I)I"⟩, 1), (⟨"PageMachine$Arithmetic", "moveHiLo", "(I)I"⟩, 1), (⟨"PageMachine$Arithmetic", "multiplyOrDivide", "(I)I"⟩, 1), (⟨"PageMachine$Arithmetic", "product", "()J"⟩, 1), (⟨"PageMachine$Arithmetic", "plainProduct", "()J"⟩, 1), (⟨"PageMachine$Arithmetic", "divide", "(JJ)I"⟩, 1), (⟨"PageMachine$Arithmetic", "addOrCombine", "(I)I"⟩, 1)]
theorem lw_r1 : ∀ q ∈ lw_privs_1, lw_okq q := List.forall_mem_cons.mpr ⟨lw_p0, List.forall_mem_cons.mpr ⟨lw_p1, List.forall_mem_cons.mpr ⟨lw_p2, List.forall_mem_cons.mpr ⟨lw_p3, List.forall_mem_cons.mpr ⟨lw_p4, List.forall_mem_cons.mpr ⟨lw_p5, List.forall_mem_cons.mpr ⟨lw_p6, List.forall_mem_cons.mpr ⟨lw_p7, List.forall_mem_cons.mpr ⟨lw_p8, List.forall_mem_cons.mpr ⟨lw_p9, List.forall_mem_cons.mpr ⟨lw_p10, List.forall_mem_cons.mpr ⟨lw_p11, List.forall_mem_cons.mpr ⟨lw_p12, List.forall_mem_cons.mpr ⟨lw_p13, List.forall_mem_cons.mpr ⟨lw_p14, List.forall_mem_cons.mpr ⟨lw_p15, fun _ h => absurd h List.not_mem_nil⟩⟩⟩⟩⟩⟩⟩⟩⟩⟩⟩⟩⟩⟩⟩⟩
theorem lw_p16 : lw_okq (⟨"PageMachine$Arithmetic", "putChecked", "(IJ)I"⟩, 1) := ⟨⟨by decide +kernel, by decide +kernel⟩, List.mem_of_getElem? (i := 156) (by decide +kernel), List.mem_of_getElem? (i := 622) (by decide +kernel), List.mem_of_getElem? (i := 623) (by decide +kernel)⟩
theorem lw_p17 : lw_okq (⟨"PageMachine$Arithmetic", "compare", "(I)I"⟩, 1) := ⟨⟨by decide +kernel, by decide +kernel⟩, List.mem_of_getElem? (i := 156) (by decide +kernel), List.mem_of_getElem? (i := 626) (by decide +kernel), List.mem_of_getElem? (i := 627) (by decide +kernel)⟩
theorem lw_p18 : lw_okq (⟨"PageMachine$Arithmetic", "trap", "(II)I"⟩, 1) := ⟨⟨by decide +kernel, by decide +kernel⟩, List.mem_of_getElem? (i := 156) (by decide +kernel), List.mem_of_getElem? (i := 634) (by decide +kernel), List.mem_of_getElem? (i := 635) (by decide +kernel)⟩
theorem lw_p19 : lw_okq (⟨"PageMachine$Processor", "performOp1", "()I"⟩, 10) := ⟨⟨by decide +kernel, by decide +kernel⟩, List.mem_of_getElem? (i := 150) (by decide +kernel), List.mem_of_getElem? (i := 641) (by decide +kernel), List.mem_of_getElem? (i := 642) (by decide +kernel)⟩
theorem lw_p20 : lw_okq (⟨"PageMachine$Branches", "branch", "(ZZ)V"⟩, 1) := ⟨⟨by decide +kernel, by decide +kernel⟩, List.mem_of_getElem? (i := 166) (by decide +kernel), List.mem_of_getElem? (i := 654) (by decide +kernel), List.mem_of_getElem? (i := 655) (by decide +kernel)⟩
theorem lw_p21 : lw_okq (⟨"PageMachine$Coprocessor", "command", "(I)I"⟩, 3) := ⟨⟨by decide +kernel, by decide +kernel⟩, List.mem_of_getElem? (i := 192) (by decide +kernel), List.mem_of_getElem? (i := 720) (by decide +kernel), List.mem_of_getElem? (i := 721) (by decide +kernel)⟩
theorem lw_p22 : lw_okq (⟨"PageMachine$Coprocessor", "readEntry", "(I)I"⟩, 3) := ⟨⟨by decide +kernel, by decide +kernel⟩, List.mem_of_getElem? (i := 192) (by decide +kernel), List.mem_of_getElem? (i := 725) (by decide +kernel), List.mem_of_getElem? (i := 726) (by decide +kernel)⟩
theorem lw_p23 : lw_okq (⟨"PageMachine$Coprocessor", "writeEntry", "(I)I"⟩, 3) := ⟨⟨by decide +kernel, by decide +kernel⟩, List.mem_of_getElem? (i := 192) (by decide +kernel), List.mem_of_getElem? (i := 746) (by decide +kernel), List.mem_of_getElem? (i := 747) (by decide +kernel)⟩
theorem lw_p24 : lw_okq (⟨"PageMachine$Coprocessor", "probe", "()I"⟩, 3) := ⟨⟨by decide +kernel, by decide +kernel⟩, List.mem_of_getElem? (i := 192) (by decide +kernel), List.mem_of_getElem? (i := 755) (by decide +kernel), List.mem_of_getElem? (i := 756) (by decide +kernel)⟩
theorem lw_p25 : lw_okq (⟨"PageMachine$Coprocessor", "leaveFault", "()I"⟩, 3) := ⟨⟨by decide +kernel, by decide +kernel⟩, List.mem_of_getElem? (i := 192) (by decide +kernel), List.mem_of_getElem? (i := 764) (by decide +kernel), List.mem_of_getElem? (i := 765) (by decide +kernel)⟩
theorem lw_p26 : lw_okq (⟨"PageMachine$Arithmetic", "hiLo", "()J"⟩, 1) := ⟨⟨by decide +kernel, by decide +kernel⟩, List.mem_of_getElem? (i := 156) (by decide +kernel), List.mem_of_getElem? (i := 783) (by decide +kernel), List.mem_of_getElem? (i := 784) (by decide +kernel)⟩
theorem lw_p27 : lw_okq (⟨"PageMachine$LoadsAndStores", "address", "()I"⟩, 3) := ⟨⟨by decide +kernel, by decide +kernel⟩, List.mem_of_getElem? (i := 176) (by decide +kernel), List.mem_of_getElem? (i := 796) (by decide +kernel), List.mem_of_getElem? (i := 797) (by decide +kernel)⟩
theorem lw_p28 : lw_okq (⟨"PageMachine$LoadsAndStores", "endLink", "()I"⟩, 3) := ⟨⟨by decide +kernel, by decide +kernel⟩, List.mem_of_getElem? (i := 176) (by decide +kernel), List.mem_of_getElem? (i := 826) (by decide +kernel), List.mem_of_getElem? (i := 827) (by decide +kernel)⟩
theorem lw_p29 : lw_okq (⟨"PageMachineModel", "fail", "(I)I"⟩, 25) := ⟨⟨by decide +kernel, by decide +kernel⟩, List.mem_of_getElem? (i := 878) (by decide +kernel), List.mem_of_getElem? (i := 972) (by decide +kernel), List.mem_of_getElem? (i := 973) (by decide +kernel)⟩
theorem lw_p30 : lw_okq (⟨"PageMachineModel", "write", "(II)V"⟩, 25) := ⟨⟨by decide +kernel, by decide +kernel⟩, List.mem_of_getElem? (i := 878) (by decide +kernel), List.mem_of_getElem? (i := 991) (by decide +kernel), List.mem_of_getElem? (i := 992) (by decide +kernel)⟩
theorem lw_p31 : lw_okq (⟨"PageMachineModel", "put", "(II)V"⟩, 25) := ⟨⟨by decide +kernel, by decide +kernel⟩, List.mem_of_getElem? (i := 878) (by decide +kernel), List.mem_of_getElem? (i := 1001) (by decide +kernel), List.mem_of_getElem? (i := 1002) (by decide +kernel)⟩
def lw_privs_2 : List (MethodName × Nat) := [(⟨"PageMachine$Arithmetic", "putChecked", "(IJ)I"⟩, 1), (⟨"PageMachine$Arithmetic", "compare", "(I)I"⟩, 1), (⟨"PageMachine$Arithmetic", "trap", "(II)I"⟩, 1), (⟨"PageMachine$Processor", "performOp1", "()I"⟩, 10), (⟨"PageMachine$Branches", "branch", "(ZZ)V"⟩, 1), (⟨"PageMachine$Coprocessor", "command", "(I)I"⟩, 3), (⟨"PageMachine$Coprocessor", "readEntry", "(I)I"⟩, 3), (⟨"PageMachine$Coprocessor", "writeEntry", "(I)I"⟩, 3), (⟨"PageMachine$Coprocessor", "probe", "()I"⟩, 3), (⟨"PageMachine$Coprocessor", "leaveFault", "()I"⟩, 3), (⟨"PageMachine$Arithmetic", "hiLo", "()J"⟩, 1), (⟨"PageMachine$LoadsAndStores", "address", "()I"⟩, 3), (⟨"PageMachine$LoadsAndStores", "endLink", "()I"⟩, 3), (⟨"PageMachineModel", "fail", "(I)I"⟩, 25), (⟨"PageMachineModel", "write", "(II)V"⟩, 25), (⟨"PageMachineModel", "put", "(II)V"⟩, 25)]
theorem lw_r2 : ∀ q ∈ lw_privs_2, lw_okq q := List.forall_mem_cons.mpr ⟨lw_p16, List.forall_mem_cons.mpr ⟨lw_p17, List.forall_mem_cons.mpr ⟨lw_p18, List.forall_mem_cons.mpr ⟨lw_p19, List.forall_mem_cons.mpr ⟨lw_p20, List.forall_mem_cons.mpr ⟨lw_p21, List.forall_mem_cons.mpr ⟨lw_p22, List.forall_mem_cons.mpr ⟨lw_p23, List.forall_mem_cons.mpr ⟨lw_p24, List.forall_mem_cons.mpr ⟨lw_p25, List.forall_mem_cons.mpr ⟨lw_p26, List.forall_mem_cons.mpr ⟨lw_p27, List.forall_mem_cons.mpr ⟨lw_p28, List.forall_mem_cons.mpr ⟨lw_p29, List.forall_mem_cons.mpr ⟨lw_p30, List.forall_mem_cons.mpr ⟨lw_p31, fun _ h => absurd h List.not_mem_nil⟩⟩⟩⟩⟩⟩⟩⟩⟩⟩⟩⟩⟩⟩⟩⟩
theorem lw_p32 : lw_okq (⟨"PageMachineModel", "read", "(I)I"⟩, 25) := ⟨⟨by decide +kernel, by decide +kernel⟩, List.mem_of_getElem? (i := 878) (by decide +kernel), List.mem_of_getElem? (i := 1009) (by decide +kernel), List.mem_of_getElem? (i := 1010) (by decide +kernel)⟩
theorem lw_p33 : lw_okq (⟨"PageMachineModel", "go", "()Z"⟩, 25) := ⟨⟨by decide +kernel, by decide +kernel⟩, List.mem_of_getElem? (i := 878) (by decide +kernel), List.mem_of_getElem? (i := 1021) (by decide +kernel), List.mem_of_getElem? (i := 1022) (by decide +kernel)⟩
theorem lw_p34 : lw_okq (⟨"PageMachineModel", "isCalled", "()Z"⟩, 25) := ⟨⟨by decide +kernel, by decide +kernel⟩, List.mem_of_getElem? (i := 878) (by decide +kernel), List.mem_of_getElem? (i := 1025) (by decide +kernel), List.mem_of_getElem? (i := 1026) (by decide +kernel)⟩
theorem lw_p35 : lw_okq (⟨"PageMachineModel", "isIn", "(I)Z"⟩, 25) := ⟨⟨by decide +kernel, by decide +kernel⟩, List.mem_of_getElem? (i := 878) (by decide +kernel), List.mem_of_getElem? (i := 1029) (by decide +kernel), List.mem_of_getElem? (i := 1030) (by decide +kernel)⟩
theorem lw_p36 : lw_okq (⟨"PageMachineModel", "enter", "()V"⟩, 25) := ⟨⟨by decide +kernel, by decide +kernel⟩, List.mem_of_getElem? (i := 878) (by decide +kernel), List.mem_of_getElem? (i := 1034) (by decide +kernel), List.mem_of_getElem? (i := 1035) (by decide +kernel)⟩
theorem lw_p37 : lw_okq (⟨"PageMachineModel", "aligned", "(IIZZ)J"⟩, 25) := ⟨⟨by decide +kernel, by decide +kernel⟩, List.mem_of_getElem? (i := 878) (by decide +kernel), List.mem_of_getElem? (i := 1042) (by decide +kernel), List.mem_of_getElem? (i := 1043) (by decide +kernel)⟩
theorem lw_p38 : lw_okq (⟨"PageMachineModel", "wrong", "(II)Z"⟩, 25) := ⟨⟨by decide +kernel, by decide +kernel⟩, List.mem_of_getElem? (i := 878) (by decide +kernel), List.mem_of_getElem? (i := 1046) (by decide +kernel), List.mem_of_getElem? (i := 1047) (by decide +kernel)⟩
theorem lw_p39 : lw_okq (⟨"PageMachineModel", "physical", "(IZZ)J"⟩, 25) := ⟨⟨by decide +kernel, by decide +kernel⟩, List.mem_of_getElem? (i := 878) (by decide +kernel), List.mem_of_getElem? (i := 1051) (by decide +kernel), List.mem_of_getElem? (i := 1052) (by decide +kernel)⟩
theorem lw_p40 : lw_okq (⟨"PageMachineModel", "isUser", "()Z"⟩, 25) := ⟨⟨by decide +kernel, by decide +kernel⟩, List.mem_of_getElem? (i := 878) (by decide +kernel), List.mem_of_getElem? (i := 1056) (by decide +kernel), List.mem_of_getElem? (i := 1057) (by decide +kernel)⟩
theorem lw_p41 : lw_okq (⟨"PageMachineModel", "entryOf", "(I)I"⟩, 25) := ⟨⟨by decide +kernel, by decide +kernel⟩, List.mem_of_getElem? (i := 878) (by decide +kernel), List.mem_of_getElem? (i := 1061) (by decide +kernel), List.mem_of_getElem? (i := 1062) (by decide +kernel)⟩
theorem lw_p42 : lw_okq (⟨"PageMachineModel", "matches", "(II)Z"⟩, 25) := ⟨⟨by decide +kernel, by decide +kernel⟩, List.mem_of_getElem? (i := 878) (by decide +kernel), List.mem_of_getElem? (i := 1065) (by decide +kernel), List.mem_of_getElem? (i := 1066) (by decide +kernel)⟩
theorem lw_p43 : lw_okq (⟨"PageMachineModel", "perform", "(I)V"⟩, 25) := ⟨⟨by decide +kernel, by decide +kernel⟩, List.mem_of_getElem? (i := 878) (by decide +kernel), List.mem_of_getElem? (i := 1072) (by decide +kernel), List.mem_of_getElem? (i := 1073) (by decide +kernel)⟩
theorem lw_p44 : lw_okq (⟨"PageMachineModel", "special", "(III)V"⟩, 25) := ⟨⟨by decide +kernel, by decide +kernel⟩, List.mem_of_getElem? (i := 878) (by decide +kernel), List.mem_of_getElem? (i := 1076) (by decide +kernel), List.mem_of_getElem? (i := 1077) (by decide +kernel)⟩
theorem lw_p45 : lw_okq (⟨"PageMachineModel", "raise", "(I)I"⟩, 25) := ⟨⟨by decide +kernel, by decide +kernel⟩, List.mem_of_getElem? (i := 878) (by decide +kernel), List.mem_of_getElem? (i := 1080) (by decide +kernel), List.mem_of_getElem? (i := 1081) (by decide +kernel)⟩
theorem lw_p46 : lw_okq (⟨"PageMachineModel", "branch", "(ZIZ)V"⟩, 25) := ⟨⟨by decide +kernel, by decide +kernel⟩, List.mem_of_getElem? (i := 878) (by decide +kernel), List.mem_of_getElem? (i := 1084) (by decide +kernel), List.mem_of_getElem? (i := 1085) (by decide +kernel)⟩
theorem lw_p47 : lw_okq (⟨"PageMachineModel", "shift", "(IIII)V"⟩, 25) := ⟨⟨by decide +kernel, by decide +kernel⟩, List.mem_of_getElem? (i := 878) (by decide +kernel), List.mem_of_getElem? (i := 1088) (by decide +kernel), List.mem_of_getElem? (i := 1089) (by decide +kernel)⟩
def lw_privs_3 : List (MethodName × Nat) := [(⟨"PageMachineModel", "read", "(I)I"⟩, 25), (⟨"PageMachineModel", "go", "()Z"⟩, 25), (⟨"PageMachineModel", "isCalled", "()Z"⟩, 25), (⟨"PageMachineModel", "isIn", "(I)Z"⟩, 25), (⟨"PageMachineModel", "enter", "()V"⟩, 25), (⟨"PageMachineModel", "aligned", "(IIZZ)J"⟩, 25), (⟨"PageMachineModel", "wrong", "(II)Z"⟩, 25), (⟨"PageMachineModel", "physical", "(IZZ)J"⟩, 25), (⟨"PageMachineModel", "isUser", "()Z"⟩, 25), (⟨"PageMachineModel", "entryOf", "(I)I"⟩, 25), (⟨"PageMachineModel", "matches", "(II)Z"⟩, 25), (⟨"PageMachineModel", "perform", "(I)V"⟩, 25), (⟨"PageMachineModel", "special", "(III)V"⟩, 25), (⟨"PageMachineModel", "raise", "(I)I"⟩, 25), (⟨"PageMachineModel", "branch", "(ZIZ)V"⟩, 25), (⟨"PageMachineModel", "shift", "(IIII)V"⟩, 25)]
theorem lw_r3 : ∀ q ∈ lw_privs_3, lw_okq q := List.forall_mem_cons.mpr ⟨lw_p32, List.forall_mem_cons.mpr ⟨lw_p33, List.forall_mem_cons.mpr ⟨lw_p34, List.forall_mem_cons.mpr ⟨lw_p35, List.forall_mem_cons.mpr ⟨lw_p36, List.forall_mem_cons.mpr ⟨lw_p37, List.forall_mem_cons.mpr ⟨lw_p38, List.forall_mem_cons.mpr ⟨lw_p39, List.forall_mem_cons.mpr ⟨lw_p40, List.forall_mem_cons.mpr ⟨lw_p41, List.forall_mem_cons.mpr ⟨lw_p42, List.forall_mem_cons.mpr ⟨lw_p43, List.forall_mem_cons.mpr ⟨lw_p44, List.forall_mem_cons.mpr ⟨lw_p45, List.forall_mem_cons.mpr ⟨lw_p46, List.forall_mem_cons.mpr ⟨lw_p47, fun _ h => absurd h List.not_mem_nil⟩⟩⟩⟩⟩⟩⟩⟩⟩⟩⟩⟩⟩⟩⟩⟩
theorem lw_p48 : lw_okq (⟨"PageMachineModel", "moves", "(IIII)V"⟩, 25) := ⟨⟨by decide +kernel, by decide +kernel⟩, List.mem_of_getElem? (i := 878) (by decide +kernel), List.mem_of_getElem? (i := 1092) (by decide +kernel), List.mem_of_getElem? (i := 1093) (by decide +kernel)⟩
theorem lw_p49 : lw_okq (⟨"PageMachineModel", "divides", "(III)V"⟩, 25) := ⟨⟨by decide +kernel, by decide +kernel⟩, List.mem_of_getElem? (i := 878) (by decide +kernel), List.mem_of_getElem? (i := 1096) (by decide +kernel), List.mem_of_getElem? (i := 1097) (by decide +kernel)⟩
theorem lw_p50 : lw_okq (⟨"PageMachineModel", "setBoth", "(J)V"⟩, 25) := ⟨⟨by decide +kernel, by decide +kernel⟩, List.mem_of_getElem? (i := 878) (by decide +kernel), List.mem_of_getElem? (i := 1104) (by decide +kernel), List.mem_of_getElem? (i := 1105) (by decide +kernel)⟩
theorem lw_p51 : lw_okq (⟨"PageMachineModel", "trap", "(III)V"⟩, 25) := ⟨⟨by decide +kernel, by decide +kernel⟩, List.mem_of_getElem? (i := 878) (by decide +kernel), List.mem_of_getElem? (i := 1108) (by decide +kernel), List.mem_of_getElem? (i := 1109) (by decide +kernel)⟩
theorem lw_p52 : lw_okq (⟨"PageMachineModel", "sums", "(IIII)V"⟩, 25) := ⟨⟨by decide +kernel, by decide +kernel⟩, List.mem_of_getElem? (i := 878) (by decide +kernel), List.mem_of_getElem? (i := 1115) (by decide +kernel), List.mem_of_getElem? (i := 1116) (by decide +kernel)⟩
theorem lw_p53 : lw_okq (⟨"PageMachineModel", "byRegister", "(III)V"⟩, 25) := ⟨⟨by decide +kernel, by decide +kernel⟩, List.mem_of_getElem? (i := 878) (by decide +kernel), List.mem_of_getElem? (i := 1119) (by decide +kernel), List.mem_of_getElem? (i := 1120) (by decide +kernel)⟩
theorem lw_p54 : lw_okq (⟨"PageMachineModel", "branches", "(IIIII)V"⟩, 25) := ⟨⟨by decide +kernel, by decide +kernel⟩, List.mem_of_getElem? (i := 878) (by decide +kernel), List.mem_of_getElem? (i := 1123) (by decide +kernel), List.mem_of_getElem? (i := 1124) (by decide +kernel)⟩
theorem lw_p55 : lw_okq (⟨"PageMachineModel", "immediate", "(IIII)V"⟩, 25) := ⟨⟨by decide +kernel, by decide +kernel⟩, List.mem_of_getElem? (i := 878) (by decide +kernel), List.mem_of_getElem? (i := 1128) (by decide +kernel), List.mem_of_getElem? (i := 1129) (by decide +kernel)⟩
theorem lw_p56 : lw_okq (⟨"PageMachineModel", "system", "(IIII)V"⟩, 25) := ⟨⟨by decide +kernel, by decide +kernel⟩, List.mem_of_getElem? (i := 878) (by decide +kernel), List.mem_of_getElem? (i := 1133) (by decide +kernel), List.mem_of_getElem? (i := 1134) (by decide +kernel)⟩
theorem lw_p57 : lw_okq (⟨"PageMachineModel", "tables", "(I)V"⟩, 25) := ⟨⟨by decide +kernel, by decide +kernel⟩, List.mem_of_getElem? (i := 878) (by decide +kernel), List.mem_of_getElem? (i := 1137) (by decide +kernel), List.mem_of_getElem? (i := 1138) (by decide +kernel)⟩
theorem lw_p58 : lw_okq (⟨"PageMachineModel", "setEntry", "(I)V"⟩, 25) := ⟨⟨by decide +kernel, by decide +kernel⟩, List.mem_of_getElem? (i := 878) (by decide +kernel), List.mem_of_getElem? (i := 1141) (by decide +kernel), List.mem_of_getElem? (i := 1142) (by decide +kernel)⟩
theorem lw_p59 : lw_okq (⟨"PageMachineModel", "multiplies", "(III)V"⟩, 25) := ⟨⟨by decide +kernel, by decide +kernel⟩, List.mem_of_getElem? (i := 878) (by decide +kernel), List.mem_of_getElem? (i := 1145) (by decide +kernel), List.mem_of_getElem? (i := 1146) (by decide +kernel)⟩
theorem lw_p60 : lw_okq (⟨"PageMachineModel", "memories", "(III)V"⟩, 25) := ⟨⟨by decide +kernel, by decide +kernel⟩, List.mem_of_getElem? (i := 878) (by decide +kernel), List.mem_of_getElem? (i := 1152) (by decide +kernel), List.mem_of_getElem? (i := 1153) (by decide +kernel)⟩
theorem lw_p61 : lw_okq (⟨"PageMachineModel", "other", "(I)V"⟩, 25) := ⟨⟨by decide +kernel, by decide +kernel⟩, List.mem_of_getElem? (i := 878) (by decide +kernel), List.mem_of_getElem? (i := 1156) (by decide +kernel), List.mem_of_getElem? (i := 1157) (by decide +kernel)⟩
theorem lw_p62 : lw_okq (⟨"PageMachineModel", "partly", "(IIJ)V"⟩, 25) := ⟨⟨by decide +kernel, by decide +kernel⟩, List.mem_of_getElem? (i := 878) (by decide +kernel), List.mem_of_getElem? (i := 1160) (by decide +kernel), List.mem_of_getElem? (i := 1161) (by decide +kernel)⟩
theorem lw_p63 : lw_okq (⟨"PageMachineModel", "store", "(JII)V"⟩, 25) := ⟨⟨by decide +kernel, by decide +kernel⟩, List.mem_of_getElem? (i := 878) (by decide +kernel), List.mem_of_getElem? (i := 1164) (by decide +kernel), List.mem_of_getElem? (i := 1165) (by decide +kernel)⟩
def lw_privs_4 : List (MethodName × Nat) := [(⟨"PageMachineModel", "moves", "(IIII)V"⟩, 25), (⟨"PageMachineModel", "divides", "(III)V"⟩, 25), (⟨"PageMachineModel", "setBoth", "(J)V"⟩, 25), (⟨"PageMachineModel", "trap", "(III)V"⟩, 25), (⟨"PageMachineModel", "sums", "(IIII)V"⟩, 25), (⟨"PageMachineModel", "byRegister", "(III)V"⟩, 25), (⟨"PageMachineModel", "branches", "(IIIII)V"⟩, 25), (⟨"PageMachineModel", "immediate", "(IIII)V"⟩, 25), (⟨"PageMachineModel", "system", "(IIII)V"⟩, 25), (⟨"PageMachineModel", "tables", "(I)V"⟩, 25), (⟨"PageMachineModel", "setEntry", "(I)V"⟩, 25), (⟨"PageMachineModel", "multiplies", "(III)V"⟩, 25), (⟨"PageMachineModel", "memories", "(III)V"⟩, 25), (⟨"PageMachineModel", "other", "(I)V"⟩, 25), (⟨"PageMachineModel", "partly", "(IIJ)V"⟩, 25), (⟨"PageMachineModel", "store", "(JII)V"⟩, 25)]
theorem lw_r4 : ∀ q ∈ lw_privs_4, lw_okq q := List.forall_mem_cons.mpr ⟨lw_p48, List.forall_mem_cons.mpr ⟨lw_p49, List.forall_mem_cons.mpr ⟨lw_p50, List.forall_mem_cons.mpr ⟨lw_p51, List.forall_mem_cons.mpr ⟨lw_p52, List.forall_mem_cons.mpr ⟨lw_p53, List.forall_mem_cons.mpr ⟨lw_p54, List.forall_mem_cons.mpr ⟨lw_p55, List.forall_mem_cons.mpr ⟨lw_p56, List.forall_mem_cons.mpr ⟨lw_p57, List.forall_mem_cons.mpr ⟨lw_p58, List.forall_mem_cons.mpr ⟨lw_p59, List.forall_mem_cons.mpr ⟨lw_p60, List.forall_mem_cons.mpr ⟨lw_p61, List.forall_mem_cons.mpr ⟨lw_p62, List.forall_mem_cons.mpr ⟨lw_p63, fun _ h => absurd h List.not_mem_nil⟩⟩⟩⟩⟩⟩⟩⟩⟩⟩⟩⟩⟩⟩⟩⟩
theorem lw_p64 : lw_okq (⟨"PageMachineModel", "bytesAt", "(JI)I"⟩, 25) := ⟨⟨by decide +kernel, by decide +kernel⟩, List.mem_of_getElem? (i := 878) (by decide +kernel), List.mem_of_getElem? (i := 1168) (by decide +kernel), List.mem_of_getElem? (i := 1169) (by decide +kernel)⟩
theorem lw_p65 : lw_okq (⟨"PageMachineModel", "keep", "(IIIJ)V"⟩, 25) := ⟨⟨by decide +kernel, by decide +kernel⟩, List.mem_of_getElem? (i := 878) (by decide +kernel), List.mem_of_getElem? (i := 1172) (by decide +kernel), List.mem_of_getElem? (i := 1173) (by decide +kernel)⟩
theorem lw_p66 : lw_okq (⟨"PageMachineModel", "load", "(IIIJ)V"⟩, 25) := ⟨⟨by decide +kernel, by decide +kernel⟩, List.mem_of_getElem? (i := 878) (by decide +kernel), List.mem_of_getElem? (i := 1176) (by decide +kernel), List.mem_of_getElem? (i := 1177) (by decide +kernel)⟩
def lw_privs_5 : List (MethodName × Nat) := [(⟨"PageMachineModel", "bytesAt", "(JI)I"⟩, 25), (⟨"PageMachineModel", "keep", "(IIIJ)V"⟩, 25), (⟨"PageMachineModel", "load", "(IIIJ)V"⟩, 25)]
theorem lw_r5 : ∀ q ∈ lw_privs_5, lw_okq q := List.forall_mem_cons.mpr ⟨lw_p64, List.forall_mem_cons.mpr ⟨lw_p65, List.forall_mem_cons.mpr ⟨lw_p66, fun _ h => absurd h List.not_mem_nil⟩⟩⟩
def lw_privs : List (MethodName × Nat) := lw_privs_1 ++ (lw_privs_2 ++ (lw_privs_3 ++ (lw_privs_4 ++ (lw_privs_5))))
def lw_tbl : List Cond := k2_sels lw_privs ++ tables_1
theorem lw_privs_ok : ∀ q ∈ lw_privs, lw_okq q := by
  show ∀ q ∈ lw_privs_1 ++ (lw_privs_2 ++ (lw_privs_3 ++ (lw_privs_4 ++ (lw_privs_5)))), lw_okq q
  exact List.forall_mem_append.mpr ⟨lw_r1, List.forall_mem_append.mpr ⟨lw_r2, List.forall_mem_append.mpr ⟨lw_r3, List.forall_mem_append.mpr ⟨lw_r4, lw_r5⟩⟩⟩⟩
end
section
/-! the words of all methods: one list for all; a contract over one world picture; rows for it -/
def gt_bl : List Cond := lw_tbl.filter goodWord
theorem gt_in {w : Cond} (h : w ∈ lw_tbl) (g : goodWord w = true) : w ∈ gt_bl := List.mem_filter.mpr ⟨h, g⟩
theorem gt_good {w : Cond} (h : w ∈ gt_bl) : (w.onTables && w.keeps) = true ∨ ∃ ty, w = .arrayClass ty := good_of_word (List.mem_filter.mp h).2
abbrev mws (y : MethodName) (b : ByteArray) (n : Nat) (r : Option FieldType) : List Cond := .code y b n r :: gt_bl
abbrev rmo (f lo : Nat) : Room := { frames := f, cells := 0, slots := 0, locals := lo }
abbrev Ev : Type := va_G × (ClassId × ClassId × ClassId) × (Nat × Nat)
abbrev eT (E : Ev) : List (ClassId × FieldType) := [(E.2.1.1, .int), (E.2.1.2.1, .boolean), (E.2.1.2.2, .long)]
def wbI (j : Nat) : Int32 := ([0x0000001F, 0, 0x03FFFFFF, 0x03FFFFFF, -8388608, 0, 0x0000001F, 0, 0, -1, -7937, -1, 0x1000FF13, 0x00000300, -1] : List Int32).getD j 0
def rhI (j : Nat) : Int32 := ([1075519488, -1887830016, 1083838464, -1887764476, 1083906048, 1107296262, 1107296280] : List Int32).getD j 0
/-- the two static arrays, outside of what may change -/
def eX (E : Ev) (A : Nat → Prop) (U : State) (H : Heap) : Prop :=
  (va_Z "PageMachine$SystemRegisters" "WRITTEN_BITS" "[I" (.ref E.2.2.1) A U H ∧ va_T .int E.2.2.1 32 (fun j => .int (wbI j)) A U H) ∧
  (va_Z "PageMachine" "REFILL_HANDLER" "[I" (.ref E.2.2.2) A U H ∧ va_T .int E.2.2.2 7 (fun j => .int (rhI j)) A U H)
theorem gi_m {y : MethodName} {b : ByteArray} {n : Nat} {r : Option FieldType} (h : Cond.code y b n r ∈ gt_bl) : GoodIn gt_bl (mws y b n r) := by
  intro w hw
  rcases List.mem_cons.mp hw with rfl | h2
  · exact ⟨h, gt_good h⟩
  · exact ⟨h2, gt_good h2⟩
def KV (y : MethodName) (b : ByteArray) (n : Nat) (r : Option FieldType) (np : Nat) : Prop :=
  Cond.code y b n r ∈ gt_bl ∧ Cond.instanceMethod y ∈ gt_bl ∧ Cond.selects y.cls y y ∈ gt_bl ∧ Cond.initialized y.cls ∈ gt_bl ∧
  (y.cls ≠ "java/lang/invoke/MethodHandle" ∧ y.cls ≠ "java/lang/invoke/VarHandle" ∧ (parseMethodDescriptor y.desc).map (fun d => d.parameters.length) = some np)
def KS (y : MethodName) (b : ByteArray) (n : Nat) (r : Option FieldType) (np : Nat) : Prop :=
  Cond.code y b n r ∈ gt_bl ∧ Cond.static y ∈ gt_bl ∧ Cond.initialized y.cls ∈ gt_bl ∧
  (y.cls ≠ "java/lang/invoke/MethodHandle" ∧ y.cls ≠ "java/lang/invoke/VarHandle" ∧ (parseMethodDescriptor y.desc).map (fun d => d.parameters.length) = some np)
theorem gi_V {y : MethodName} {b : ByteArray} {n np : Nat} {r : Option FieldType} {own : String} {index : Nat} (k : KV y b n r np) (hl : Cond.methodLink own index y ∈ gt_bl) : GoodIn gt_bl (wsV own index y.cls y (mws y b n r)) := by
  obtain ⟨h, h1, h2, h3, -⟩ := k
  intro w hw
  rcases List.mem_append.mp hw with h4 | h4
  · have h5 : w = Cond.methodLink own index y ∨ w = Cond.instanceMethod y ∨ w = Cond.selects y.cls y y ∨ w = Cond.initialized y.cls := by simpa using h4
    rcases h5 with rfl | rfl | rfl | rfl
    · exact ⟨hl, gt_good hl⟩
    · exact ⟨h1, gt_good h1⟩
    · exact ⟨h2, gt_good h2⟩
    · exact ⟨h3, gt_good h3⟩
  · exact gi_m h w h4
theorem gi_S {y : MethodName} {b : ByteArray} {n np : Nat} {r : Option FieldType} {own : String} {index : Nat} (k : KS y b n r np) (hl : Cond.methodLink own index y ∈ gt_bl) : GoodIn gt_bl (va_wsS own index y (mws y b n r)) := by
  obtain ⟨h, h1, h2, -⟩ := k
  intro w hw
  rcases List.mem_append.mp hw with h4 | h4
  · have h5 : w = Cond.methodLink own index y ∨ w = Cond.static y ∨ w = Cond.initialized y.cls := by simpa using h4
    rcases h5 with rfl | rfl | rfl
    · exact ⟨hl, gt_good hl⟩
    · exact ⟨h1, gt_good h1⟩
    · exact ⟨h2, gt_good h2⟩
  · exact gi_m h w h4
/-- the statics hold on: the heap changed inside A alone, the callee may change less -/
theorem eX.at {E : Ev} {A A' : Nat → Prop} {s U : State} {H : Heap} (h : eX E A s s.heap) (hk : ∀ q : Nat, q < s.heap.size → ¬ A q → H[q]? = s.heap[q]?) (hn : ∀ q, q < s.heap.size → A' q → A q) (hvm : s.vm.Alike U.vm) : eX E A' U H := by
  obtain ⟨⟨h1, h2⟩, h3, h4⟩ := h
  have z : ∀ {C n d : String} {v : Value}, va_Z C n d v A s s.heap → va_Z C n d v A' U H := by
    intro C n d v hz
    have hz2 := hz.moved hvm
    obtain ⟨cf, kf, fi, f, a, cell, g1, g2, g3, g4, g5, g6, g7, g8⟩ := hz2
    have hlt := (Array.getElem?_eq_some_iff.mp g5).1
    exact ⟨cf, kf, fi, f, a, cell, g1, g2, g3, g4, by rw [hk a hlt g8]; exact g5, g6, g7, fun q => g8 (hn a hlt q)⟩
  have t : ∀ {ty : FieldType} {t N : Nat} {f : Nat → Value}, va_T ty t N f A s s.heap → va_T ty t N f A' U H := by
    intro ty t N f hz
    have hz2 := hz.moved hvm
    obtain ⟨cell, g1, g2, g3, g4, g5, g6, g7⟩ := hz2
    have hlt := (Array.getElem?_eq_some_iff.mp g1).1
    exact ⟨cell, by rw [hk t hlt g7]; exact g1, g2, g3, g4, g5, g6, fun q => g7 (hn t hlt q)⟩
  exact ⟨⟨z h1, t h2⟩, z h3, t h4⟩
section RB
variable (cl : List vw_C)
/-- what stands fast while a method runs -/
def Cx (E : Ev) (A : Nat → Prop) (p : Program) (s : State) (m : MethodId) (args : Array Value) (meth : Method) (c : Code) (b : ByteArray) (n : Nat) (r : Option FieldType) (own : String) : Prop :=
  p.tables.exec = Jvm.exec ∧ c.code = b ∧ c.maxLocals = n ∧ meth.sig.returnType = r ∧ meth.locks = false ∧ s.vm.findClass own = some m.cls ∧ (∀ w ∈ gt_bl, w.before args s = true) ∧ va_K E.1 cl (eT E) s ∧ eX E A s s.heap
def Wd (E : Ev) (A : Nat → Prop) (H0 H : Heap) (locs : List Loc) (ws : va_W) : Prop := va_P E.1 cl ws H ∧ va_D A ws ∧ va_S A H0 H locs ∧ ∀ q : Nat, H0.size ≤ q → A q
def rQ {S : Type} (wd : S → va_W) (E : Ev) (A : Nat → Prop) (Z : S × Option Value) : Array Value → State → Outcome → State → Prop := fun _ st oc t =>
  (oc = .returned Z.2 ∧ va_P E.1 cl (wd Z.1) t.heap ∧ va_K E.1 cl (eT E) t ∧ va_D A (wd Z.1)) ∧ va_F A st t
/-- the contract of a method that makes nothing and throws nothing: from the world of σ to that of Z.1, the answer Z.2 -/
def rC {S : Type} (l : Launch) (E : Ev) (wd : S → va_W) (y : MethodName) (b : ByteArray) (n : Nat) (r : Option FieldType) (rm : Room) (av : List Value) (σ : S) (Z : S × Option Value) : Prop :=
  ∀ sz : Nat, Met l y (mws y b n r) rm (va_Pc av (fun U => U.heap.size = sz ∧ va_P E.1 cl (wd σ) U.heap ∧ va_K E.1 cl (eT E) U ∧ va_D (fun _ => True) (wd σ) ∧ eX E (va_A (wd σ) sz) U U.heap)) (rQ cl wd E (va_A (wd σ) sz) Z) 0 0 (va_A (wd σ) sz)
variable {cl}
theorem rC.of {S : Type} {l : Launch} {E : Ev} {wd : S → va_W} {y : MethodName} {b : ByteArray} {n : Nat} {r : Option FieldType} {f lo : Nat} {av : List Value} {σ : S} {Z : S × Option Value} (hy : plainName y.cls = true) (hav : (lg_sl av).length ≤ n)
    (body : ∀ (p : Program) (e : Env) (s : State) (m : MethodId) (below : List Frame) (meth : Method) (c : Code) (A : Nat → Prop) (ls : Array Slot), Cx cl E A p s m av.toArray meth c b n r y.cls → Wd cl E A s.heap s.heap [] (wd σ) → lv_has ls n (lv_args 0 av) →
      W p l e (rmo f lo) s m av.toArray below meth c s.heap [] 0 0 (MQ below (rQ cl wd E A Z) av.toArray s 0 0 A) (F0 m 0 ls [])) : rC cl l E wd y b n r (rmo f lo) av σ Z := by
  intro sz
  refine Met.ofW (cc := b) (maxL := n) (ret := r) hy rfl ?_
  intro p e s m args below meth c s₁ B hml hv
  obtain ⟨rfl, hsz, hP, hK, hD0, hX⟩ := hv
  have hts := atoms_spec (ws := mws y b n r) B.pre
  subst hsz
  have hl := lv_entry av (n := n) hav
  rw [lg_entry_eq]
  generalize (lg_sl av ++ List.replicate (n - (lg_sl av).length) Slot.unset).toArray = ls at hl ⊢
  exact body p e s m below meth c (va_A (wd σ) s.heap.size) ls ⟨B.exec, B.bytes, hml, B.returns, B.notSynchronized, findClass_of_methodNamed B.named, fun w h => hts w (List.mem_cons_of_mem _ h), hK, hX⟩ ⟨hP, hD0.self, va_S.rf, fun q h => Or.inr h⟩ hl
variable {p : Program} {l : Launch} {e : Env} {R : Room} {s : State} {m : MethodId} {args : Array Value} {below : List Frame} {meth : Method} {c : Code} {H : Heap} {locs : List Loc} {cells slots : Nat} {Q : State → Prop}
variable {E : Ev} {A : Nat → Prop} {b : ByteArray} {n : Nat} {r : Option FieldType} {own : String} {pc : Nat} {ls : Array Slot} {rest : List Value} {a : Nat} {ws : va_W}
theorem rt_i {S : Type} {wd : S → va_W} {σ' : S} {Z : S × Option Value} {v : Int32} (hc : Cx cl E A p s m args meth c b n (some .int) own) (w : Wd cl E A s.heap H locs (wd σ')) (hdg : decode b pc = .ok (.ireturn, 1)) (hz : Z = (σ', some (.int v))) :
    W p l e R s m args below meth c H locs 0 0 (MQ below (rQ cl wd E A Z) args s 0 0 A) (F0 m pc ls [.int v]) := by
  subst hz
  exact W.iret hc.1 hc.2.1 hc.2.2.2.1 (fun t ht hW => ⟨⟨rfl, by rw [ht]; exact w.1, va_K.moved hW.alike hc.2.2.2.2.2.2.2.1, w.2.1⟩, w.2.2.1.F ht⟩) w.2.2.1.2.2 hdg hc.2.2.2.2.1
theorem rt_l {S : Type} {wd : S → va_W} {σ' : S} {Z : S × Option Value} {v : Int64} (hc : Cx cl E A p s m args meth c b n (some .long) own) (w : Wd cl E A s.heap H locs (wd σ')) (hdg : decode b pc = .ok (.lreturn, 1)) (hz : Z = (σ', some (.long v))) :
    W p l e R s m args below meth c H locs 0 0 (MQ below (rQ cl wd E A Z) args s 0 0 A) (F0 m pc ls [.long v]) := by
  subst hz
  exact W.lret hc.1 hc.2.1 hc.2.2.2.1 (fun t ht hW => ⟨⟨rfl, by rw [ht]; exact w.1, va_K.moved hW.alike hc.2.2.2.2.2.2.2.1, w.2.1⟩, w.2.2.1.F ht⟩) w.2.2.1.2.2 hdg hc.2.2.2.2.1
theorem rt_v {S : Type} {wd : S → va_W} {σ' : S} {Z : S × Option Value} (hc : Cx cl E A p s m args meth c b n none own) (w : Wd cl E A s.heap H locs (wd σ')) (hdg : decode b pc = .ok (.return_, 1)) (hz : Z = (σ', none)) :
    W p l e R s m args below meth c H locs 0 0 (MQ below (rQ cl wd E A Z) args s 0 0 A) (F0 m pc ls []) := by
  subst hz
  exact W.vret hc.1 hc.2.1 hc.2.2.2.1 (fun t ht hW => ⟨⟨rfl, by rw [ht]; exact w.1, va_K.moved hW.alike hc.2.2.2.2.2.2.2.1, w.2.1⟩, w.2.2.1.F ht⟩) w.2.2.1.2.2 hdg hc.2.2.2.2.1
/-- a Bool as the machine has it -/
def zb (x : Bool) : Int32 := if x then 1 else 0
theorem zb_n (x : Bool) : narrow .boolean (.int (zb x)) = .int (zb x) := by cases x <;> rfl
theorem zb_f (x : Bool) : fits .boolean (.int (zb x)) = true := by cases x <;> rfl
theorem zb_0 {x : Bool} : zb x = 0 ↔ x = false := by cases x <;> decide
theorem rt_z {S : Type} {wd : S → va_W} {σ' : S} {Z : S × Option Value} {v : Bool} {v' : Int32} (hc : Cx cl E A p s m args meth c b n (some .boolean) own) (w : Wd cl E A s.heap H locs (wd σ')) (hdg : decode b pc = .ok (.ireturn, 1)) (hv : v' = zb v) (hz : Z = (σ', some (.int (zb v)))) :
    W p l e R s m args below meth c H locs 0 0 (MQ below (rQ cl wd E A Z) args s 0 0 A) (F0 m pc ls [.int v']) := by
  subst hz
  subst hv
  exact W.zret hc.1 hc.2.1 hc.2.2.2.1 (zb_n v) (fun t ht hW => ⟨⟨rfl, by rw [ht]; exact w.1, va_K.moved hW.alike hc.2.2.2.2.2.2.2.1, w.2.1⟩, w.2.2.1.F ht⟩) w.2.2.1.2.2 hdg hc.2.2.2.2.1
theorem rg {C : String} {T : u_T} {N ci index : Nat} {fs : List Value} {v : Value} (hc : Cx cl E A p s m args meth c b n r own) (w : Wd cl E A s.heap H locs ws) (hin : ∀ x ∈ u_ws C T N, x ∈ gt_bl) (q0 : Nat) (he : ws[q0]? = some (a, .inr (ci, fs))) (hcl : cl[ci]? = some (C, T, N)) (k : Nat) (hk : k < N)
    (hv : fs[k]? = some v) (hl : Cond.fieldLink own index (T k).1 (T k).2.1 (T k).2.2.1 ∈ gt_bl) (hdg : decode b pc = .ok (.getfield index, 3))
    (kk : W p l e R s m args below meth c H locs cells slots Q (F0 m (pc + 3) ls (v :: rest))) : W p l e R s m args below meth c H locs cells slots Q (F0 m pc ls (.ref a :: rest)) :=
  va_get (D := E.1) hc.1 hc.2.1 hc.2.2.2.2.2.2.1 hin hc.2.2.2.2.2.1 hc.2.2.2.2.2.2.2.1 w.1 q0 he hcl k hk (hc.2.2.2.2.2.2.1 _ hl) (fun _ h => h) hv hdg kk
theorem rp {C : String} {T : u_T} {N ci index : Nat} {fs : List Value} {ty : FieldType} {v : Value} (hc : Cx cl E A p s m args meth c b n r own) (w : Wd cl E A s.heap H locs ws) (hin : ∀ x ∈ u_ws C T N, x ∈ gt_bl) (ty0 : Nat → FieldType) (hty : ∀ k, k < N → parseFieldDescriptor (T k).2.2.1 = some (ty0 k)) (hnm : ∀ a, a < N → ∀ b, b < N → a ≠ b → (T a).2.1 ≠ (T b).2.1)
    (q0 : Nat) (he : ws[q0]? = some (a, .inr (ci, fs))) (hcl : cl[ci]? = some (C, T, N)) (k : Nat) (hk : k < N) (hfin : (T k).2.2.2 = false) (hd : parseFieldDescriptor (T k).2.2.1 = some ty) (hn : narrow ty v = v) (hfit : fits ty v = true) (hlen : k < fs.length) {ws' : va_W} (hws : ws.set q0 (a, .inr (ci, fs.set k v)) = ws')
    (hl : Cond.fieldLink own index (T k).1 (T k).2.1 (T k).2.2.1 ∈ gt_bl) (hdg : decode b pc = .ok (.putfield index, 3))
    (kk : ∀ (H1 : Heap) (locs1 : List Loc), Wd cl E A s.heap H1 locs1 ws' → W p l e R s m args below meth c H1 locs1 cells slots Q (F0 m (pc + 3) ls rest)) : W p l e R s m args below meth c H locs cells slots Q (F0 m pc ls (v :: .ref a :: rest)) :=
  va_put (D := E.1) hc.1 hc.2.1 hc.2.2.2.2.2.2.1 hin ty0 hty hnm hc.2.2.2.2.2.1 hc.2.2.2.2.2.2.2.1 w.1 w.2.1 w.2.2.1 q0 he hcl k hk (hc.2.2.2.2.2.2.1 _ hl) (fun _ h => h) hfin hd hn hfit hlen hdg (fun H1 locs1 h1 h2 h3 => kk H1 locs1 ⟨by rw [← hws]; exact h1, by rw [← hws]; exact h2, h3, w.2.2.2⟩)
theorem ra {N : Nat} {f : Nat → Int32} {i : Int32} (hc : Cx cl E A p s m args meth c b n r own) (w : Wd cl E A s.heap H locs ws) (q0 : Nat) (he : ws[q0]? = some (a, .inl (E.2.1.1, N, .inl f))) (hin : vp_in i N) (hdg : decode b pc = .ok (.iaload, 1))
    (kk : W p l e R s m args below meth c H locs cells slots Q (F0 m (pc + 1) ls (.int (f i.toNatClampNeg) :: rest))) : W p l e R s m args below meth c H locs cells slots Q (F0 m pc ls (.int i :: .ref a :: rest)) :=
  va_iald (D := E.1) hc.1 hc.2.1 hc.2.2.2.2.2.2.2.1 w.1 q0 0 he rfl hin hdg kk
theorem rs {N : Nat} {f : Nat → Int32} {i x : Int32} (hc : Cx cl E A p s m args meth c b n r own) (w : Wd cl E A s.heap H locs ws) (q0 : Nat) (he : ws[q0]? = some (a, .inl (E.2.1.1, N, .inl f))) {ws' : va_W} (hws : ws.set q0 (a, .inl (E.2.1.1, N, .inl (upd f i.toNatClampNeg x))) = ws') (hin : vp_in i N) (hdg : decode b pc = .ok (.iastore, 1))
    (kk : ∀ (H1 : Heap) (locs1 : List Loc), Wd cl E A s.heap H1 locs1 ws' → W p l e R s m args below meth c H1 locs1 cells slots Q (F0 m (pc + 1) ls rest)) : W p l e R s m args below meth c H locs cells slots Q (F0 m pc ls (.int x :: .int i :: .ref a :: rest)) :=
  va_iast (D := E.1) hc.1 hc.2.1 hc.2.2.2.2.2.2.2.1 w.1 w.2.1 w.2.2.1 q0 0 he rfl hin hdg (fun H1 locs1 h1 h2 h3 => kk H1 locs1 ⟨by rw [← hws]; exact h1, by rw [← hws]; exact h2, h3, w.2.2.2⟩)
/-- arrays of booleans: the picture holds Bools -/
theorem ra_z {N : Nat} {f : Nat → Bool} {i : Int32} (hc : Cx cl E A p s m args meth c b n r own) (w : Wd cl E A s.heap H locs ws) (q0 : Nat) (he : ws[q0]? = some (a, .inl (E.2.1.2.1, N, .inl (fun j => zb (f j))))) (hin : vp_in i N) (hdg : decode b pc = .ok (.baload, 1))
    (kk : W p l e R s m args below meth c H locs cells slots Q (F0 m (pc + 1) ls (.int (zb (f i.toNatClampNeg)) :: rest))) : W p l e R s m args below meth c H locs cells slots Q (F0 m pc ls (.int i :: .ref a :: rest)) :=
  va_zald (D := E.1) hc.1 hc.2.1 hc.2.2.2.2.2.2.2.1 w.1 q0 1 he rfl hin hdg kk
def updB (f : Nat → Bool) (k : Nat) (x : Bool) : Nat → Bool := fun j => if j = k then x else f j
theorem updB_z (f : Nat → Bool) (k : Nat) (x : Bool) : upd (fun j => zb (f j)) k (vp_nar .boolean (zb x)) = fun j => zb (updB f k x j) := by
  funext j
  have hx : vp_nar .boolean (zb x) = zb x := by cases x <;> rfl
  rw [hx]
  unfold upd updB
  split <;> rfl
theorem rs_z {N : Nat} {f : Nat → Bool} {i : Int32} {x : Bool} (hc : Cx cl E A p s m args meth c b n r own) (w : Wd cl E A s.heap H locs ws) (q0 : Nat) (he : ws[q0]? = some (a, .inl (E.2.1.2.1, N, .inl (fun j => zb (f j))))) {ws' : va_W} (hws : ws.set q0 (a, .inl (E.2.1.2.1, N, .inl (fun j => zb (updB f i.toNatClampNeg x j)))) = ws') (hin : vp_in i N) (hdg : decode b pc = .ok (.bastore, 1))
    (kk : ∀ (H1 : Heap) (locs1 : List Loc), Wd cl E A s.heap H1 locs1 ws' → W p l e R s m args below meth c H1 locs1 cells slots Q (F0 m (pc + 1) ls rest)) : W p l e R s m args below meth c H locs cells slots Q (F0 m pc ls (.int (zb x) :: .int i :: .ref a :: rest)) :=
  va_zast (D := E.1) hc.1 hc.2.1 hc.2.2.2.2.2.2.2.1 w.1 w.2.1 w.2.2.1 q0 1 he rfl hin hdg (fun H1 locs1 h1 h2 h3 => kk H1 locs1 ⟨by rw [← hws, ← updB_z]; exact h1, by rw [← hws, ← updB_z]; exact h2, h3, w.2.2.2⟩)
theorem r_blind {S : Type} {wd : S → va_W} {av : List Value} {σ : S} {sz : Nat} : FrameBlind (va_Pc av (fun U => U.heap.size = sz ∧ va_P E.1 cl (wd σ) U.heap ∧ va_K E.1 cl (eT E) U ∧ va_D (fun _ => True) (wd σ) ∧ eX E (va_A (wd σ) sz) U U.heap)) := by
  intro a U g mk q
  obtain ⟨q0, q1, qP, qK, qD, qX⟩ := q
  exact ⟨q0, q1, qP, va_K.moved (u := U) (U := U.calling g mk a) (Vm.Alike.refl U.vm) qK, qD, qX.at (U := U.calling g mk a) (fun _ _ _ => rfl) (fun _ _ h => h) (Vm.Alike.refl U.vm)⟩
theorem r_pre {S : Type} {wd : S → va_W} {av : List Value} {σ : S} (hc : Cx cl E A p s m args meth c b n r own) (w : Wd cl E A s.heap H locs (wd σ)) : ∀ U : State, U.heap = H → s.WarmedH U.vm → va_Pc av (fun U => U.heap.size = H.size ∧ va_P E.1 cl (wd σ) U.heap ∧ va_K E.1 cl (eT E) U ∧ va_D (fun _ => True) (wd σ) ∧ eX E (va_A (wd σ) H.size) U U.heap) av.toArray U := by
  intro U hU hW
  refine ⟨rfl, by rw [hU], by rw [hU]; exact w.1, va_K.moved hW.alike hc.2.2.2.2.2.2.2.1, w.2.1.weaken (fun _ _ _ _ => trivial), ?_⟩
  rw [hU]
  refine hc.2.2.2.2.2.2.2.2.at w.2.2.1.2.1 (fun q _ h => ?_) hW.alike
  rcases h with ⟨k, e, h⟩ | h
  · exact w.2.1.2 k _ h
  · exact w.2.2.2 q (Nat.le_trans w.2.2.1.1 h)
theorem r_free {S : Type} {wd : S → va_W} {σ : S} (w : Wd cl E A s.heap H locs (wd σ)) : ∀ q, va_A (wd σ) H.size q → A q := by
  intro q h
  rcases h with ⟨k, e, h⟩ | h
  · exact w.2.1.2 k _ h
  · exact w.2.2.2 q (Nat.le_trans w.2.2.1.1 h)
/-- behind a call that keeps its contract -/
theorem r_call {S : Type} {wd : S → va_W} {σ : S} {Z : S × Option Value} {st0 : List Value} {a : Array Value} (w : Wd cl E A s.heap H locs (wd σ))
    (hr : va_Run p l e R s m args below meth c H locs cells slots 0 0 (F0 m pc ls st0) rest (rQ cl wd E (va_A (wd σ) H.size) Z a) (va_A (wd σ) H.size))
    (kk : ∀ (H1 : Heap) (locs1 : List Loc), Wd cl E A s.heap H1 locs1 (wd Z.1) → W p l e R s m args below meth c H1 locs1 cells slots Q (F0 m (pc + 3) ls (Z.2.toList ++ rest))) : W p l e R s m args below meth c H locs cells slots Q (F0 m pc ls st0) := by
  intro T hT X
  have hS := w.2.2.1
  have hF := r_free w
  obtain ⟨v, st₀, t, T', L, h0, X', hL, e1, e2, ⟨⟨hv, hp, hk1, hd⟩, hz, hk⟩, st⟩ := hr T hT X
  cases hv
  rw [h0] at hz hk
  have w1 : Wd cl E A s.heap T'.heap (locs ++ L) (wd Z.1) := by
    refine ⟨by rw [e1]; exact hp, hd.weaken (fun _ _ _ h => hF _ h), ⟨Nat.le_trans hS.1 (by rw [e1]; exact hz), fun q h1 h2 => by rw [e1, hk q (Nat.lt_of_lt_of_le h1 hS.1) (fun z => h2 (hF q z))]; exact hS.2.1 q h1 h2, fun q hq => ?_⟩, w.2.2.2⟩
    rcases List.mem_append.mp hq with h | h
    · exact hS.2.2 q h
    · exact hF _ (hL q h)
  obtain ⟨t2, a1, b1⟩ := kk T'.heap (locs ++ L) w1 T' rfl X'
  exact ⟨t2, st t2 a1, b1⟩
theorem cV {S : Type} {wd : S → va_W} {σ : S} {Z : S × Option Value} {y : MethodName} {b' : ByteArray} {n' f lo ci index : Nat} {r' : Option FieldType} {As st : List Value} {fs : List Value} {T : u_T} {N : Nat} (hc : Cx cl E A p s m args meth c b n r own) (w : Wd cl E A s.heap H locs (wd σ)) (hM : rC cl l E wd y b' n' r' (rmo f lo) (.ref a :: As) σ Z) (kv : KV y b' n' r' As.length)
    (hl : Cond.methodLink own index y ∈ gt_bl) (q0 : Nat) (he : (wd σ)[q0]? = some (a, .inr (ci, fs))) (hcl : cl[ci]? = some (y.cls, T, N)) (hR : f + 1 ≤ R.frames ∧ 8 + (n' + 11) + lo ≤ R.locals) (hsz : ls.size = n) (hst : st = As.reverse ++ .ref a :: rest) (hcat : (rest.map fun v => v.category).sum ≤ 8) (hf : cells ≤ R.cells ∧ slots ≤ R.slots)
    (hdg : decode b pc = .ok (.invokevirtual index, 3))
    (kk : ∀ (H1 : Heap) (locs1 : List Loc), Wd cl E A s.heap H1 locs1 (wd Z.1) → W p l e R s m args below meth c H1 locs1 cells slots Q (F0 m (pc + 3) ls (Z.2.toList ++ rest))) : W p l e R s m args below meth c H locs cells slots Q (F0 m pc ls st) := by
  subst hst
  refine r_call (a := (Value.ref a :: As).toArray) w (va_runV (As := As) (rest := rest) (C := y.cls) ⟨hc.1, hc.2.1, hc.2.2.1, hc.2.2.2.2.2.1, hc.2.2.2.2.2.2.1⟩ (hM H.size) (cwV As.length hc.2.2.2.2.2.2.1 (gi_V kv hl) rfl rfl rfl ⟨rfl, kv.2.2.2.2⟩ hR) ⟨r_blind, va_recv hc.2.2.2.2.2.2.2.1 w.1 hcl he, r_pre hc w⟩ rfl rfl hsz rfl (lv_room hcat) hdg hf) kk
theorem cS {S : Type} {wd : S → va_W} {σ : S} {Z : S × Option Value} {y : MethodName} {b' : ByteArray} {n' f lo index : Nat} {r' : Option FieldType} {As st : List Value} (hc : Cx cl E A p s m args meth c b n r own) (w : Wd cl E A s.heap H locs (wd σ)) (hM : rC cl l E wd y b' n' r' (rmo f lo) As σ Z) (kv : KS y b' n' r' As.length)
    (hl : Cond.methodLink own index y ∈ gt_bl) (hR : f + 1 ≤ R.frames ∧ 8 + (n' + 11) + lo ≤ R.locals) (hsz : ls.size = n) (hst : st = As.reverse ++ rest) (hcat : (rest.map fun v => v.category).sum ≤ 8) (hf : cells ≤ R.cells ∧ slots ≤ R.slots)
    (hdg : decode b pc = .ok (.invokestatic index, 3))
    (kk : ∀ (H1 : Heap) (locs1 : List Loc), Wd cl E A s.heap H1 locs1 (wd Z.1) → W p l e R s m args below meth c H1 locs1 cells slots Q (F0 m (pc + 3) ls (Z.2.toList ++ rest))) : W p l e R s m args below meth c H locs cells slots Q (F0 m pc ls st) := by
  subst hst
  refine r_call (a := As.toArray) w (va_runS (As := As) (rest := rest) ⟨hc.1, hc.2.1, hc.2.2.1, hc.2.2.2.2.2.1, hc.2.2.2.2.2.2.1⟩ (hM H.size) (va_cwS As.length hc.2.2.2.2.2.2.1 (gi_S kv hl) rfl rfl rfl kv.2.2.2 hR) ⟨r_blind, r_pre hc w⟩ rfl rfl hsz rfl (lv_room hcat) hdg hf) kk
end RB
end
section
theorem mw_0 : (Jvm.Cond.initialized "PageMachineLaw") ∈ gt_bl := gt_in (List.mem_of_getElem? (i := 67) (by decide +kernel)) (by decide +kernel)
theorem mw_1 : (Jvm.Cond.initialized "PageMachine") ∈ gt_bl := gt_in (List.mem_of_getElem? (i := 68) (by decide +kernel)) (by decide +kernel)
theorem mw_2 : (Jvm.Cond.initialized "PageMachine$Memory") ∈ gt_bl := gt_in (List.mem_of_getElem? (i := 69) (by decide +kernel)) (by decide +kernel)
theorem mw_3 : (Jvm.Cond.initialized "PageMachine$SystemRegisters") ∈ gt_bl := gt_in (List.mem_of_getElem? (i := 70) (by decide +kernel)) (by decide +kernel)
theorem mw_4 : (Jvm.Cond.initialized "PageMachine$Tlb") ∈ gt_bl := gt_in (List.mem_of_getElem? (i := 71) (by decide +kernel)) (by decide +kernel)
theorem mw_5 : (Jvm.Cond.initialized "PageMachine$AddressSpace") ∈ gt_bl := gt_in (List.mem_of_getElem? (i := 72) (by decide +kernel)) (by decide +kernel)
theorem mw_6 : (Jvm.Cond.initialized "PageMachine$Core") ∈ gt_bl := gt_in (List.mem_of_getElem? (i := 73) (by decide +kernel)) (by decide +kernel)
theorem mw_7 : (Jvm.Cond.initialized "PageMachine$Processor") ∈ gt_bl := gt_in (List.mem_of_getElem? (i := 74) (by decide +kernel)) (by decide +kernel)
theorem mw_8 : (Jvm.Cond.initialized "PageMachine$Arithmetic") ∈ gt_bl := gt_in (List.mem_of_getElem? (i := 75) (by decide +kernel)) (by decide +kernel)
theorem mw_9 : (Jvm.Cond.initialized "PageMachine$Branches") ∈ gt_bl := gt_in (List.mem_of_getElem? (i := 76) (by decide +kernel)) (by decide +kernel)
theorem mw_10 : (Jvm.Cond.initialized "PageMachine$LoadsAndStores") ∈ gt_bl := gt_in (List.mem_of_getElem? (i := 77) (by decide +kernel)) (by decide +kernel)
theorem mw_11 : (Jvm.Cond.initialized "PageMachine$Coprocessor") ∈ gt_bl := gt_in (List.mem_of_getElem? (i := 78) (by decide +kernel)) (by decide +kernel)
theorem mw_12 : (Jvm.Cond.initialized "PageMachineModel") ∈ gt_bl := gt_in (List.mem_of_getElem? (i := 79) (by decide +kernel)) (by decide +kernel)
theorem mw_13 : (Jvm.Cond.initialized "java/lang/Throwable") ∈ gt_bl := gt_in (List.mem_of_getElem? (i := 80) (by decide +kernel)) (by decide +kernel)
theorem mw_14 : (Jvm.Cond.initialized "java/lang/Exception") ∈ gt_bl := gt_in (List.mem_of_getElem? (i := 81) (by decide +kernel)) (by decide +kernel)
theorem mw_15 : (Jvm.Cond.initialized "java/lang/RuntimeException") ∈ gt_bl := gt_in (List.mem_of_getElem? (i := 82) (by decide +kernel)) (by decide +kernel)
theorem mw_16 : (Jvm.Cond.initialized "java/lang/IllegalArgumentException") ∈ gt_bl := gt_in (List.mem_of_getElem? (i := 83) (by decide +kernel)) (by decide +kernel)
theorem mw_17 : (Jvm.Cond.initialized "java/lang/IndexOutOfBoundsException") ∈ gt_bl := gt_in (List.mem_of_getElem? (i := 84) (by decide +kernel)) (by decide +kernel)
theorem mw_18 : (Jvm.Cond.initialized "PageMachine$Fault") ∈ gt_bl := gt_in (List.mem_of_getElem? (i := 85) (by decide +kernel)) (by decide +kernel)
theorem mw_19 : (Jvm.Cond.initialized "java/lang/Integer") ∈ gt_bl := gt_in (List.mem_of_getElem? (i := 86) (by decide +kernel)) (by decide +kernel)
theorem mw_20 : (Jvm.Cond.classLink "PageMachineLaw" (8 : Nat) "PageMachine") ∈ gt_bl := gt_in (List.mem_of_getElem? (i := 87) (by decide +kernel)) (by decide +kernel)
theorem mw_21 : (Jvm.Cond.instantiable "PageMachine" (6 : Nat)) ∈ gt_bl := gt_in (List.mem_of_getElem? (i := 88) (by decide +kernel)) (by decide +kernel)
theorem mw_22 : (Jvm.Cond.methodLink "PageMachineLaw" (45 : Nat) ({ cls := "PageMachine", name := "<init>", desc := "()V" } : Jvm.MethodName)) ∈ gt_bl := gt_in (List.mem_of_getElem? (i := 89) (by decide +kernel)) (by decide +kernel)
theorem mw_23 : (Jvm.Cond.instanceMethod ({ cls := "PageMachine", name := "<init>", desc := "()V" } : Jvm.MethodName)) ∈ gt_bl := gt_in (List.mem_of_getElem? (i := 90) (by decide +kernel)) (by decide +kernel)
theorem mw_25 : (Jvm.Cond.methodLink "PageMachine" (1 : Nat) ({ cls := "java/lang/Object", name := "<init>", desc := "()V" } : Jvm.MethodName)) ∈ gt_bl := gt_in (List.mem_of_getElem? (i := 92) (by decide +kernel)) (by decide +kernel)
theorem mw_26 : (Jvm.Cond.instanceMethod ({ cls := "java/lang/Object", name := "<init>", desc := "()V" } : Jvm.MethodName)) ∈ gt_bl := gt_in (List.mem_of_getElem? (i := 93) (by decide +kernel)) (by decide +kernel)
theorem mw_28 : (Jvm.Cond.classLink "PageMachine" (7 : Nat) "PageMachine$Memory") ∈ gt_bl := gt_in (List.mem_of_getElem? (i := 95) (by decide +kernel)) (by decide +kernel)
theorem mw_29 : (Jvm.Cond.instantiable "PageMachine$Memory" (1 : Nat)) ∈ gt_bl := gt_in (List.mem_of_getElem? (i := 96) (by decide +kernel)) (by decide +kernel)
theorem mw_31 : (Jvm.Cond.instanceMethod ({ cls := "PageMachine$Memory", name := "<init>", desc := "()V" } : Jvm.MethodName)) ∈ gt_bl := gt_in (List.mem_of_getElem? (i := 98) (by decide +kernel)) (by decide +kernel)
theorem mw_33 : (Jvm.Cond.methodLink "PageMachine$Memory" (1 : Nat) ({ cls := "java/lang/Object", name := "<init>", desc := "()V" } : Jvm.MethodName)) ∈ gt_bl := gt_in (List.mem_of_getElem? (i := 100) (by decide +kernel)) (by decide +kernel)
theorem mw_34 : (Jvm.Cond.constant "PageMachine$Memory" (9 : Nat) (65536 : Int32)) ∈ gt_bl := gt_in (List.mem_of_getElem? (i := 101) (by decide +kernel)) (by decide +kernel)
theorem mw_35 : (Jvm.Cond.fieldLink "PageMachine$Memory" (10 : Nat) "PageMachine$Memory" "words" "[I") ∈ gt_bl := gt_in (List.mem_of_getElem? (i := 102) (by decide +kernel)) (by decide +kernel)
theorem mw_36 : (Jvm.Cond.laysFinal "PageMachine$Memory" "PageMachine$Memory" "words" "[I") ∈ gt_bl := gt_in (List.mem_of_getElem? (i := 103) (by decide +kernel)) (by decide +kernel)
theorem mw_39 : (Jvm.Cond.arrayClass Jvm.ClassFile.FieldType.int) ∈ gt_bl := gt_in (List.mem_of_getElem? (i := 106) (by decide +kernel)) (by decide +kernel)
theorem mw_40 : (Jvm.Cond.classLink "PageMachine" (16 : Nat) "PageMachine$SystemRegisters") ∈ gt_bl := gt_in (List.mem_of_getElem? (i := 107) (by decide +kernel)) (by decide +kernel)
theorem mw_41 : (Jvm.Cond.instantiable "PageMachine$SystemRegisters" (3 : Nat)) ∈ gt_bl := gt_in (List.mem_of_getElem? (i := 108) (by decide +kernel)) (by decide +kernel)
theorem mw_42 : (Jvm.Cond.methodLink "PageMachine" (18 : Nat) ({ cls := "PageMachine$SystemRegisters", name := "<init>", desc := "()V" } : Jvm.MethodName)) ∈ gt_bl := gt_in (List.mem_of_getElem? (i := 109) (by decide +kernel)) (by decide +kernel)
theorem mw_43 : (Jvm.Cond.instanceMethod ({ cls := "PageMachine$SystemRegisters", name := "<init>", desc := "()V" } : Jvm.MethodName)) ∈ gt_bl := gt_in (List.mem_of_getElem? (i := 110) (by decide +kernel)) (by decide +kernel)
theorem mw_45 : (Jvm.Cond.methodLink "PageMachine$SystemRegisters" (3 : Nat) ({ cls := "java/lang/Object", name := "<init>", desc := "()V" } : Jvm.MethodName)) ∈ gt_bl := gt_in (List.mem_of_getElem? (i := 112) (by decide +kernel)) (by decide +kernel)
theorem mw_46 : (Jvm.Cond.constant "PageMachine$SystemRegisters" (15 : Nat) (98304 : Int32)) ∈ gt_bl := gt_in (List.mem_of_getElem? (i := 113) (by decide +kernel)) (by decide +kernel)
theorem mw_47 : (Jvm.Cond.fieldLink "PageMachine$SystemRegisters" (11 : Nat) "PageMachine$SystemRegisters" "values" "[I") ∈ gt_bl := gt_in (List.mem_of_getElem? (i := 114) (by decide +kernel)) (by decide +kernel)
theorem mw_48 : (Jvm.Cond.fieldLink "PageMachine$SystemRegisters" (16 : Nat) "PageMachine$SystemRegisters" "lines" "I") ∈ gt_bl := gt_in (List.mem_of_getElem? (i := 115) (by decide +kernel)) (by decide +kernel)
theorem mw_49 : (Jvm.Cond.fieldLink "PageMachine$SystemRegisters" (20 : Nat) "PageMachine$SystemRegisters" "timerIsDue" "Z") ∈ gt_bl := gt_in (List.mem_of_getElem? (i := 116) (by decide +kernel)) (by decide +kernel)
theorem mw_50 : (Jvm.Cond.laysFinal "PageMachine$SystemRegisters" "PageMachine$SystemRegisters" "values" "[I") ∈ gt_bl := gt_in (List.mem_of_getElem? (i := 117) (by decide +kernel)) (by decide +kernel)
theorem mw_52 : (Jvm.Cond.lays "PageMachine$SystemRegisters" "PageMachine$SystemRegisters" "lines" "I") ∈ gt_bl := gt_in (List.mem_of_getElem? (i := 119) (by decide +kernel)) (by decide +kernel)
theorem mw_54 : (Jvm.Cond.lays "PageMachine$SystemRegisters" "PageMachine$SystemRegisters" "timerIsDue" "Z") ∈ gt_bl := gt_in (List.mem_of_getElem? (i := 121) (by decide +kernel)) (by decide +kernel)
theorem mw_57 : (Jvm.Cond.classLink "PageMachine" (23 : Nat) "PageMachine$Tlb") ∈ gt_bl := gt_in (List.mem_of_getElem? (i := 124) (by decide +kernel)) (by decide +kernel)
theorem mw_58 : (Jvm.Cond.instantiable "PageMachine$Tlb" (5 : Nat)) ∈ gt_bl := gt_in (List.mem_of_getElem? (i := 125) (by decide +kernel)) (by decide +kernel)
theorem mw_60 : (Jvm.Cond.instanceMethod ({ cls := "PageMachine$Tlb", name := "<init>", desc := "()V" } : Jvm.MethodName)) ∈ gt_bl := gt_in (List.mem_of_getElem? (i := 127) (by decide +kernel)) (by decide +kernel)
theorem mw_62 : (Jvm.Cond.methodLink "PageMachine$Tlb" (3 : Nat) ({ cls := "java/lang/Object", name := "<init>", desc := "()V" } : Jvm.MethodName)) ∈ gt_bl := gt_in (List.mem_of_getElem? (i := 129) (by decide +kernel)) (by decide +kernel)
theorem mw_63 : (Jvm.Cond.fieldLink "PageMachine$Tlb" (11 : Nat) "PageMachine$Tlb" "pages" "[I") ∈ gt_bl := gt_in (List.mem_of_getElem? (i := 130) (by decide +kernel)) (by decide +kernel)
theorem mw_64 : (Jvm.Cond.fieldLink "PageMachine$Tlb" (15 : Nat) "PageMachine$Tlb" "asids" "[I") ∈ gt_bl := gt_in (List.mem_of_getElem? (i := 131) (by decide +kernel)) (by decide +kernel)
theorem mw_65 : (Jvm.Cond.fieldLink "PageMachine$Tlb" (18 : Nat) "PageMachine$Tlb" "globals" "[I") ∈ gt_bl := gt_in (List.mem_of_getElem? (i := 132) (by decide +kernel)) (by decide +kernel)
theorem mw_66 : (Jvm.Cond.fieldLink "PageMachine$Tlb" (21 : Nat) "PageMachine$Tlb" "evenHalves" "[I") ∈ gt_bl := gt_in (List.mem_of_getElem? (i := 133) (by decide +kernel)) (by decide +kernel)
theorem mw_67 : (Jvm.Cond.fieldLink "PageMachine$Tlb" (24 : Nat) "PageMachine$Tlb" "oddHalves" "[I") ∈ gt_bl := gt_in (List.mem_of_getElem? (i := 134) (by decide +kernel)) (by decide +kernel)
theorem mw_68 : (Jvm.Cond.laysFinal "PageMachine$Tlb" "PageMachine$Tlb" "pages" "[I") ∈ gt_bl := gt_in (List.mem_of_getElem? (i := 135) (by decide +kernel)) (by decide +kernel)
theorem mw_70 : (Jvm.Cond.laysFinal "PageMachine$Tlb" "PageMachine$Tlb" "asids" "[I") ∈ gt_bl := gt_in (List.mem_of_getElem? (i := 137) (by decide +kernel)) (by decide +kernel)
theorem mw_72 : (Jvm.Cond.laysFinal "PageMachine$Tlb" "PageMachine$Tlb" "globals" "[I") ∈ gt_bl := gt_in (List.mem_of_getElem? (i := 139) (by decide +kernel)) (by decide +kernel)
theorem mw_74 : (Jvm.Cond.laysFinal "PageMachine$Tlb" "PageMachine$Tlb" "evenHalves" "[I") ∈ gt_bl := gt_in (List.mem_of_getElem? (i := 141) (by decide +kernel)) (by decide +kernel)
theorem mw_76 : (Jvm.Cond.laysFinal "PageMachine$Tlb" "PageMachine$Tlb" "oddHalves" "[I") ∈ gt_bl := gt_in (List.mem_of_getElem? (i := 143) (by decide +kernel)) (by decide +kernel)
theorem mw_79 : (Jvm.Cond.classLink "PageMachine" (30 : Nat) "PageMachine$AddressSpace") ∈ gt_bl := gt_in (List.mem_of_getElem? (i := 146) (by decide +kernel)) (by decide +kernel)
theorem mw_80 : (Jvm.Cond.instantiable "PageMachine$AddressSpace" (4 : Nat)) ∈ gt_bl := gt_in (List.mem_of_getElem? (i := 147) (by decide +kernel)) (by decide +kernel)
theorem mw_81 : (Jvm.Cond.methodLink "PageMachine" (32 : Nat) ({ cls := "PageMachine$AddressSpace", name := "<init>", desc := "(LPageMachine$Memory;LPageMachine$SystemRegisters;LPageMachine$Tlb;)V" } : Jvm.MethodName)) ∈ gt_bl := gt_in (List.mem_of_getElem? (i := 148) (by decide +kernel)) (by decide +kernel)
theorem mw_82 : (Jvm.Cond.instanceMethod ({ cls := "PageMachine$AddressSpace", name := "<init>", desc := "(LPageMachine$Memory;LPageMachine$SystemRegisters;LPageMachine$Tlb;)V" } : Jvm.MethodName)) ∈ gt_bl := gt_in (List.mem_of_getElem? (i := 149) (by decide +kernel)) (by decide +kernel)
theorem mw_84 : (Jvm.Cond.methodLink "PageMachine$AddressSpace" (3 : Nat) ({ cls := "java/lang/Object", name := "<init>", desc := "()V" } : Jvm.MethodName)) ∈ gt_bl := gt_in (List.mem_of_getElem? (i := 151) (by decide +kernel)) (by decide +kernel)
theorem mw_85 : (Jvm.Cond.fieldLink "PageMachine$AddressSpace" (9 : Nat) "PageMachine$AddressSpace" "memory" "LPageMachine$Memory;") ∈ gt_bl := gt_in (List.mem_of_getElem? (i := 152) (by decide +kernel)) (by decide +kernel)
theorem mw_86 : (Jvm.Cond.fieldLink "PageMachine$AddressSpace" (15 : Nat) "PageMachine$AddressSpace" "system" "LPageMachine$SystemRegisters;") ∈ gt_bl := gt_in (List.mem_of_getElem? (i := 153) (by decide +kernel)) (by decide +kernel)
theorem mw_87 : (Jvm.Cond.fieldLink "PageMachine$AddressSpace" (19 : Nat) "PageMachine$AddressSpace" "tlb" "LPageMachine$Tlb;") ∈ gt_bl := gt_in (List.mem_of_getElem? (i := 154) (by decide +kernel)) (by decide +kernel)
theorem mw_88 : (Jvm.Cond.fieldLink "PageMachine$AddressSpace" (23 : Nat) "PageMachine$AddressSpace" "asked" "I") ∈ gt_bl := gt_in (List.mem_of_getElem? (i := 155) (by decide +kernel)) (by decide +kernel)
theorem mw_89 : (Jvm.Cond.laysFinal "PageMachine$AddressSpace" "PageMachine$AddressSpace" "memory" "LPageMachine$Memory;") ∈ gt_bl := gt_in (List.mem_of_getElem? (i := 156) (by decide +kernel)) (by decide +kernel)
theorem mw_91 : (Jvm.Cond.laysFinal "PageMachine$AddressSpace" "PageMachine$AddressSpace" "system" "LPageMachine$SystemRegisters;") ∈ gt_bl := gt_in (List.mem_of_getElem? (i := 158) (by decide +kernel)) (by decide +kernel)
theorem mw_93 : (Jvm.Cond.laysFinal "PageMachine$AddressSpace" "PageMachine$AddressSpace" "tlb" "LPageMachine$Tlb;") ∈ gt_bl := gt_in (List.mem_of_getElem? (i := 160) (by decide +kernel)) (by decide +kernel)
theorem mw_95 : (Jvm.Cond.lays "PageMachine$AddressSpace" "PageMachine$AddressSpace" "asked" "I") ∈ gt_bl := gt_in (List.mem_of_getElem? (i := 162) (by decide +kernel)) (by decide +kernel)
theorem mw_98 : (Jvm.Cond.classLink "PageMachine" (39 : Nat) "PageMachine$Core") ∈ gt_bl := gt_in (List.mem_of_getElem? (i := 165) (by decide +kernel)) (by decide +kernel)
theorem mw_99 : (Jvm.Cond.instantiable "PageMachine$Core" (10 : Nat)) ∈ gt_bl := gt_in (List.mem_of_getElem? (i := 166) (by decide +kernel)) (by decide +kernel)
theorem mw_101 : (Jvm.Cond.instanceMethod ({ cls := "PageMachine$Core", name := "<init>", desc := "()V" } : Jvm.MethodName)) ∈ gt_bl := gt_in (List.mem_of_getElem? (i := 168) (by decide +kernel)) (by decide +kernel)
theorem mw_103 : (Jvm.Cond.methodLink "PageMachine$Core" (1 : Nat) ({ cls := "java/lang/Object", name := "<init>", desc := "()V" } : Jvm.MethodName)) ∈ gt_bl := gt_in (List.mem_of_getElem? (i := 170) (by decide +kernel)) (by decide +kernel)
theorem mw_104 : (Jvm.Cond.constant "PageMachine$Core" (7 : Nat) (-2147483648 : Int32)) ∈ gt_bl := gt_in (List.mem_of_getElem? (i := 171) (by decide +kernel)) (by decide +kernel)
theorem mw_105 : (Jvm.Cond.fieldLink "PageMachine$Core" (20 : Nat) "PageMachine$Core" "hi" "I") ∈ gt_bl := gt_in (List.mem_of_getElem? (i := 172) (by decide +kernel)) (by decide +kernel)
theorem mw_106 : (Jvm.Cond.fieldLink "PageMachine" (73 : Nat) "PageMachine$Core" "hi" "I") ∈ gt_bl := gt_in (List.mem_of_getElem? (i := 173) (by decide +kernel)) (by decide +kernel)
theorem mw_107 : (Jvm.Cond.fieldLink "PageMachine$Arithmetic" (59 : Nat) "PageMachine$Core" "hi" "I") ∈ gt_bl := gt_in (List.mem_of_getElem? (i := 174) (by decide +kernel)) (by decide +kernel)
theorem mw_108 : (Jvm.Cond.fieldLink "PageMachine$Core" (23 : Nat) "PageMachine$Core" "lo" "I") ∈ gt_bl := gt_in (List.mem_of_getElem? (i := 175) (by decide +kernel)) (by decide +kernel)
theorem mw_109 : (Jvm.Cond.fieldLink "PageMachine" (77 : Nat) "PageMachine$Core" "lo" "I") ∈ gt_bl := gt_in (List.mem_of_getElem? (i := 176) (by decide +kernel)) (by decide +kernel)
theorem mw_110 : (Jvm.Cond.fieldLink "PageMachine$Arithmetic" (63 : Nat) "PageMachine$Core" "lo" "I") ∈ gt_bl := gt_in (List.mem_of_getElem? (i := 177) (by decide +kernel)) (by decide +kernel)
theorem mw_111 : (Jvm.Cond.fieldLink "PageMachine$Core" (8 : Nat) "PageMachine$Core" "pc" "I") ∈ gt_bl := gt_in (List.mem_of_getElem? (i := 178) (by decide +kernel)) (by decide +kernel)
theorem mw_112 : (Jvm.Cond.fieldLink "PageMachine$Branches" (32 : Nat) "PageMachine$Core" "pc" "I") ∈ gt_bl := gt_in (List.mem_of_getElem? (i := 179) (by decide +kernel)) (by decide +kernel)
theorem mw_113 : (Jvm.Cond.fieldLink "PageMachine$Processor" (104 : Nat) "PageMachine$Core" "pc" "I") ∈ gt_bl := gt_in (List.mem_of_getElem? (i := 180) (by decide +kernel)) (by decide +kernel)
theorem mw_114 : (Jvm.Cond.fieldLink "PageMachine" (90 : Nat) "PageMachine$Core" "pc" "I") ∈ gt_bl := gt_in (List.mem_of_getElem? (i := 181) (by decide +kernel)) (by decide +kernel)
theorem mw_115 : (Jvm.Cond.fieldLink "PageMachine$LoadsAndStores" (44 : Nat) "PageMachine$Core" "link" "I") ∈ gt_bl := gt_in (List.mem_of_getElem? (i := 182) (by decide +kernel)) (by decide +kernel)
theorem mw_116 : (Jvm.Cond.fieldLink "PageMachine$Coprocessor" (117 : Nat) "PageMachine$Core" "link" "I") ∈ gt_bl := gt_in (List.mem_of_getElem? (i := 183) (by decide +kernel)) (by decide +kernel)
theorem mw_117 : (Jvm.Cond.fieldLink "PageMachine" (163 : Nat) "PageMachine$Core" "link" "I") ∈ gt_bl := gt_in (List.mem_of_getElem? (i := 184) (by decide +kernel)) (by decide +kernel)
theorem mw_118 : (Jvm.Cond.fieldLink "PageMachine$Branches" (13 : Nat) "PageMachine$Core" "inDelaySlot" "Z") ∈ gt_bl := gt_in (List.mem_of_getElem? (i := 185) (by decide +kernel)) (by decide +kernel)
theorem mw_119 : (Jvm.Cond.fieldLink "PageMachine$Coprocessor" (77 : Nat) "PageMachine$Core" "inDelaySlot" "Z") ∈ gt_bl := gt_in (List.mem_of_getElem? (i := 186) (by decide +kernel)) (by decide +kernel)
theorem mw_120 : (Jvm.Cond.fieldLink "PageMachine$Core" (26 : Nat) "PageMachine$Core" "inDelaySlot" "Z") ∈ gt_bl := gt_in (List.mem_of_getElem? (i := 187) (by decide +kernel)) (by decide +kernel)
theorem mw_121 : (Jvm.Cond.fieldLink "PageMachine$Processor" (107 : Nat) "PageMachine$Core" "inDelaySlot" "Z") ∈ gt_bl := gt_in (List.mem_of_getElem? (i := 188) (by decide +kernel)) (by decide +kernel)
theorem mw_122 : (Jvm.Cond.fieldLink "PageMachine" (159 : Nat) "PageMachine$Core" "inDelaySlot" "Z") ∈ gt_bl := gt_in (List.mem_of_getElem? (i := 189) (by decide +kernel)) (by decide +kernel)
theorem mw_123 : (Jvm.Cond.fieldLink "PageMachine$Core" (14 : Nat) "PageMachine$Core" "registers" "[I") ∈ gt_bl := gt_in (List.mem_of_getElem? (i := 190) (by decide +kernel)) (by decide +kernel)
theorem mw_124 : (Jvm.Cond.fieldLink "PageMachine$Core" (33 : Nat) "PageMachine$Core" "behindSlot" "I") ∈ gt_bl := gt_in (List.mem_of_getElem? (i := 191) (by decide +kernel)) (by decide +kernel)
theorem mw_125 : (Jvm.Cond.fieldLink "PageMachine$Core" (30 : Nat) "PageMachine$Core" "instruction" "I") ∈ gt_bl := gt_in (List.mem_of_getElem? (i := 192) (by decide +kernel)) (by decide +kernel)
theorem mw_126 : (Jvm.Cond.fieldLink "PageMachine$Core" (36 : Nat) "PageMachine$Core" "nextPc" "I") ∈ gt_bl := gt_in (List.mem_of_getElem? (i := 193) (by decide +kernel)) (by decide +kernel)
theorem mw_127 : (Jvm.Cond.fieldLink "PageMachine$Core" (39 : Nat) "PageMachine$Core" "nextInDelaySlot" "Z") ∈ gt_bl := gt_in (List.mem_of_getElem? (i := 194) (by decide +kernel)) (by decide +kernel)
theorem mw_128 : (Jvm.Cond.lays "PageMachine$Core" "PageMachine$Core" "hi" "I") ∈ gt_bl := gt_in (List.mem_of_getElem? (i := 195) (by decide +kernel)) (by decide +kernel)
theorem mw_130 : (Jvm.Cond.lays "PageMachine$Core" "PageMachine$Core" "lo" "I") ∈ gt_bl := gt_in (List.mem_of_getElem? (i := 197) (by decide +kernel)) (by decide +kernel)
theorem mw_132 : (Jvm.Cond.lays "PageMachine$Core" "PageMachine$Core" "pc" "I") ∈ gt_bl := gt_in (List.mem_of_getElem? (i := 199) (by decide +kernel)) (by decide +kernel)
theorem mw_134 : (Jvm.Cond.lays "PageMachine$Core" "PageMachine$Core" "link" "I") ∈ gt_bl := gt_in (List.mem_of_getElem? (i := 201) (by decide +kernel)) (by decide +kernel)
theorem mw_136 : (Jvm.Cond.lays "PageMachine$Core" "PageMachine$Core" "inDelaySlot" "Z") ∈ gt_bl := gt_in (List.mem_of_getElem? (i := 203) (by decide +kernel)) (by decide +kernel)
theorem mw_138 : (Jvm.Cond.laysFinal "PageMachine$Core" "PageMachine$Core" "registers" "[I") ∈ gt_bl := gt_in (List.mem_of_getElem? (i := 205) (by decide +kernel)) (by decide +kernel)
theorem mw_140 : (Jvm.Cond.lays "PageMachine$Core" "PageMachine$Core" "behindSlot" "I") ∈ gt_bl := gt_in (List.mem_of_getElem? (i := 207) (by decide +kernel)) (by decide +kernel)
theorem mw_142 : (Jvm.Cond.lays "PageMachine$Core" "PageMachine$Core" "instruction" "I") ∈ gt_bl := gt_in (List.mem_of_getElem? (i := 209) (by decide +kernel)) (by decide +kernel)
theorem mw_144 : (Jvm.Cond.lays "PageMachine$Core" "PageMachine$Core" "nextPc" "I") ∈ gt_bl := gt_in (List.mem_of_getElem? (i := 211) (by decide +kernel)) (by decide +kernel)
theorem mw_146 : (Jvm.Cond.lays "PageMachine$Core" "PageMachine$Core" "nextInDelaySlot" "Z") ∈ gt_bl := gt_in (List.mem_of_getElem? (i := 213) (by decide +kernel)) (by decide +kernel)
theorem mw_149 : (Jvm.Cond.classLink "PageMachine" (46 : Nat) "PageMachine$Processor") ∈ gt_bl := gt_in (List.mem_of_getElem? (i := 216) (by decide +kernel)) (by decide +kernel)
theorem mw_150 : (Jvm.Cond.instantiable "PageMachine$Processor" (10 : Nat)) ∈ gt_bl := gt_in (List.mem_of_getElem? (i := 217) (by decide +kernel)) (by decide +kernel)
theorem mw_151 : (Jvm.Cond.methodLink "PageMachine" (48 : Nat) ({ cls := "PageMachine$Processor", name := "<init>", desc := "(LPageMachine$Core;LPageMachine$Memory;LPageMachine$SystemRegisters;LPageMachine$Tlb;LPageMachine$AddressSpace;)V" } : Jvm.MethodName)) ∈ gt_bl := gt_in (List.mem_of_getElem? (i := 218) (by decide +kernel)) (by decide +kernel)
theorem mw_152 : (Jvm.Cond.instanceMethod ({ cls := "PageMachine$Processor", name := "<init>", desc := "(LPageMachine$Core;LPageMachine$Memory;LPageMachine$SystemRegisters;LPageMachine$Tlb;LPageMachine$AddressSpace;)V" } : Jvm.MethodName)) ∈ gt_bl := gt_in (List.mem_of_getElem? (i := 219) (by decide +kernel)) (by decide +kernel)
theorem mw_154 : (Jvm.Cond.methodLink "PageMachine$Processor" (1 : Nat) ({ cls := "java/lang/Object", name := "<init>", desc := "()V" } : Jvm.MethodName)) ∈ gt_bl := gt_in (List.mem_of_getElem? (i := 221) (by decide +kernel)) (by decide +kernel)
theorem mw_155 : (Jvm.Cond.classLink "PageMachine$Processor" (31 : Nat) "PageMachine$Arithmetic") ∈ gt_bl := gt_in (List.mem_of_getElem? (i := 222) (by decide +kernel)) (by decide +kernel)
theorem mw_156 : (Jvm.Cond.instantiable "PageMachine$Arithmetic" (1 : Nat)) ∈ gt_bl := gt_in (List.mem_of_getElem? (i := 223) (by decide +kernel)) (by decide +kernel)
theorem mw_157 : (Jvm.Cond.methodLink "PageMachine$Processor" (33 : Nat) ({ cls := "PageMachine$Arithmetic", name := "<init>", desc := "(LPageMachine$Core;)V" } : Jvm.MethodName)) ∈ gt_bl := gt_in (List.mem_of_getElem? (i := 224) (by decide +kernel)) (by decide +kernel)
theorem mw_158 : (Jvm.Cond.instanceMethod ({ cls := "PageMachine$Arithmetic", name := "<init>", desc := "(LPageMachine$Core;)V" } : Jvm.MethodName)) ∈ gt_bl := gt_in (List.mem_of_getElem? (i := 225) (by decide +kernel)) (by decide +kernel)
theorem mw_160 : (Jvm.Cond.methodLink "PageMachine$Arithmetic" (1 : Nat) ({ cls := "java/lang/Object", name := "<init>", desc := "()V" } : Jvm.MethodName)) ∈ gt_bl := gt_in (List.mem_of_getElem? (i := 227) (by decide +kernel)) (by decide +kernel)
theorem mw_161 : (Jvm.Cond.fieldLink "PageMachine$Arithmetic" (7 : Nat) "PageMachine$Arithmetic" "core" "LPageMachine$Core;") ∈ gt_bl := gt_in (List.mem_of_getElem? (i := 228) (by decide +kernel)) (by decide +kernel)
theorem mw_162 : (Jvm.Cond.laysFinal "PageMachine$Arithmetic" "PageMachine$Arithmetic" "core" "LPageMachine$Core;") ∈ gt_bl := gt_in (List.mem_of_getElem? (i := 229) (by decide +kernel)) (by decide +kernel)
theorem mw_165 : (Jvm.Cond.classLink "PageMachine$Processor" (40 : Nat) "PageMachine$Branches") ∈ gt_bl := gt_in (List.mem_of_getElem? (i := 232) (by decide +kernel)) (by decide +kernel)
theorem mw_166 : (Jvm.Cond.instantiable "PageMachine$Branches" (1 : Nat)) ∈ gt_bl := gt_in (List.mem_of_getElem? (i := 233) (by decide +kernel)) (by decide +kernel)
theorem mw_167 : (Jvm.Cond.methodLink "PageMachine$Processor" (42 : Nat) ({ cls := "PageMachine$Branches", name := "<init>", desc := "(LPageMachine$Core;)V" } : Jvm.MethodName)) ∈ gt_bl := gt_in (List.mem_of_getElem? (i := 234) (by decide +kernel)) (by decide +kernel)
theorem mw_168 : (Jvm.Cond.instanceMethod ({ cls := "PageMachine$Branches", name := "<init>", desc := "(LPageMachine$Core;)V" } : Jvm.MethodName)) ∈ gt_bl := gt_in (List.mem_of_getElem? (i := 235) (by decide +kernel)) (by decide +kernel)
theorem mw_170 : (Jvm.Cond.methodLink "PageMachine$Branches" (1 : Nat) ({ cls := "java/lang/Object", name := "<init>", desc := "()V" } : Jvm.MethodName)) ∈ gt_bl := gt_in (List.mem_of_getElem? (i := 237) (by decide +kernel)) (by decide +kernel)
theorem mw_171 : (Jvm.Cond.fieldLink "PageMachine$Branches" (7 : Nat) "PageMachine$Branches" "core" "LPageMachine$Core;") ∈ gt_bl := gt_in (List.mem_of_getElem? (i := 238) (by decide +kernel)) (by decide +kernel)
theorem mw_172 : (Jvm.Cond.laysFinal "PageMachine$Branches" "PageMachine$Branches" "core" "LPageMachine$Core;") ∈ gt_bl := gt_in (List.mem_of_getElem? (i := 239) (by decide +kernel)) (by decide +kernel)
theorem mw_175 : (Jvm.Cond.classLink "PageMachine$Processor" (47 : Nat) "PageMachine$LoadsAndStores") ∈ gt_bl := gt_in (List.mem_of_getElem? (i := 242) (by decide +kernel)) (by decide +kernel)
theorem mw_176 : (Jvm.Cond.instantiable "PageMachine$LoadsAndStores" (3 : Nat)) ∈ gt_bl := gt_in (List.mem_of_getElem? (i := 243) (by decide +kernel)) (by decide +kernel)
theorem mw_177 : (Jvm.Cond.methodLink "PageMachine$Processor" (49 : Nat) ({ cls := "PageMachine$LoadsAndStores", name := "<init>", desc := "(LPageMachine$Core;LPageMachine$Memory;LPageMachine$AddressSpace;)V" } : Jvm.MethodName)) ∈ gt_bl := gt_in (List.mem_of_getElem? (i := 244) (by decide +kernel)) (by decide +kernel)
theorem mw_178 : (Jvm.Cond.instanceMethod ({ cls := "PageMachine$LoadsAndStores", name := "<init>", desc := "(LPageMachine$Core;LPageMachine$Memory;LPageMachine$AddressSpace;)V" } : Jvm.MethodName)) ∈ gt_bl := gt_in (List.mem_of_getElem? (i := 245) (by decide +kernel)) (by decide +kernel)
theorem mw_180 : (Jvm.Cond.methodLink "PageMachine$LoadsAndStores" (1 : Nat) ({ cls := "java/lang/Object", name := "<init>", desc := "()V" } : Jvm.MethodName)) ∈ gt_bl := gt_in (List.mem_of_getElem? (i := 247) (by decide +kernel)) (by decide +kernel)
theorem mw_181 : (Jvm.Cond.fieldLink "PageMachine$LoadsAndStores" (7 : Nat) "PageMachine$LoadsAndStores" "core" "LPageMachine$Core;") ∈ gt_bl := gt_in (List.mem_of_getElem? (i := 248) (by decide +kernel)) (by decide +kernel)
theorem mw_182 : (Jvm.Cond.fieldLink "PageMachine$LoadsAndStores" (13 : Nat) "PageMachine$LoadsAndStores" "memory" "LPageMachine$Memory;") ∈ gt_bl := gt_in (List.mem_of_getElem? (i := 249) (by decide +kernel)) (by decide +kernel)
theorem mw_183 : (Jvm.Cond.fieldLink "PageMachine$LoadsAndStores" (17 : Nat) "PageMachine$LoadsAndStores" "space" "LPageMachine$AddressSpace;") ∈ gt_bl := gt_in (List.mem_of_getElem? (i := 250) (by decide +kernel)) (by decide +kernel)
theorem mw_184 : (Jvm.Cond.laysFinal "PageMachine$LoadsAndStores" "PageMachine$LoadsAndStores" "core" "LPageMachine$Core;") ∈ gt_bl := gt_in (List.mem_of_getElem? (i := 251) (by decide +kernel)) (by decide +kernel)
theorem mw_186 : (Jvm.Cond.laysFinal "PageMachine$LoadsAndStores" "PageMachine$LoadsAndStores" "memory" "LPageMachine$Memory;") ∈ gt_bl := gt_in (List.mem_of_getElem? (i := 253) (by decide +kernel)) (by decide +kernel)
theorem mw_188 : (Jvm.Cond.laysFinal "PageMachine$LoadsAndStores" "PageMachine$LoadsAndStores" "space" "LPageMachine$AddressSpace;") ∈ gt_bl := gt_in (List.mem_of_getElem? (i := 255) (by decide +kernel)) (by decide +kernel)
theorem mw_191 : (Jvm.Cond.classLink "PageMachine$Processor" (56 : Nat) "PageMachine$Coprocessor") ∈ gt_bl := gt_in (List.mem_of_getElem? (i := 258) (by decide +kernel)) (by decide +kernel)
theorem mw_192 : (Jvm.Cond.instantiable "PageMachine$Coprocessor" (3 : Nat)) ∈ gt_bl := gt_in (List.mem_of_getElem? (i := 259) (by decide +kernel)) (by decide +kernel)
theorem mw_193 : (Jvm.Cond.methodLink "PageMachine$Processor" (58 : Nat) ({ cls := "PageMachine$Coprocessor", name := "<init>", desc := "(LPageMachine$Core;LPageMachine$SystemRegisters;LPageMachine$Tlb;)V" } : Jvm.MethodName)) ∈ gt_bl := gt_in (List.mem_of_getElem? (i := 260) (by decide +kernel)) (by decide +kernel)
theorem mw_194 : (Jvm.Cond.instanceMethod ({ cls := "PageMachine$Coprocessor", name := "<init>", desc := "(LPageMachine$Core;LPageMachine$SystemRegisters;LPageMachine$Tlb;)V" } : Jvm.MethodName)) ∈ gt_bl := gt_in (List.mem_of_getElem? (i := 261) (by decide +kernel)) (by decide +kernel)
theorem mw_196 : (Jvm.Cond.methodLink "PageMachine$Coprocessor" (1 : Nat) ({ cls := "java/lang/Object", name := "<init>", desc := "()V" } : Jvm.MethodName)) ∈ gt_bl := gt_in (List.mem_of_getElem? (i := 263) (by decide +kernel)) (by decide +kernel)
theorem mw_197 : (Jvm.Cond.fieldLink "PageMachine$Coprocessor" (7 : Nat) "PageMachine$Coprocessor" "core" "LPageMachine$Core;") ∈ gt_bl := gt_in (List.mem_of_getElem? (i := 264) (by decide +kernel)) (by decide +kernel)
theorem mw_198 : (Jvm.Cond.fieldLink "PageMachine$Coprocessor" (13 : Nat) "PageMachine$Coprocessor" "system" "LPageMachine$SystemRegisters;") ∈ gt_bl := gt_in (List.mem_of_getElem? (i := 265) (by decide +kernel)) (by decide +kernel)
theorem mw_199 : (Jvm.Cond.fieldLink "PageMachine$Coprocessor" (17 : Nat) "PageMachine$Coprocessor" "tlb" "LPageMachine$Tlb;") ∈ gt_bl := gt_in (List.mem_of_getElem? (i := 266) (by decide +kernel)) (by decide +kernel)
theorem mw_200 : (Jvm.Cond.laysFinal "PageMachine$Coprocessor" "PageMachine$Coprocessor" "core" "LPageMachine$Core;") ∈ gt_bl := gt_in (List.mem_of_getElem? (i := 267) (by decide +kernel)) (by decide +kernel)
theorem mw_202 : (Jvm.Cond.laysFinal "PageMachine$Coprocessor" "PageMachine$Coprocessor" "system" "LPageMachine$SystemRegisters;") ∈ gt_bl := gt_in (List.mem_of_getElem? (i := 269) (by decide +kernel)) (by decide +kernel)
theorem mw_204 : (Jvm.Cond.laysFinal "PageMachine$Coprocessor" "PageMachine$Coprocessor" "tlb" "LPageMachine$Tlb;") ∈ gt_bl := gt_in (List.mem_of_getElem? (i := 271) (by decide +kernel)) (by decide +kernel)
theorem mw_207 : (Jvm.Cond.fieldLink "PageMachine$Processor" (15 : Nat) "PageMachine$Processor" "core" "LPageMachine$Core;") ∈ gt_bl := gt_in (List.mem_of_getElem? (i := 274) (by decide +kernel)) (by decide +kernel)
theorem mw_208 : (Jvm.Cond.fieldLink "PageMachine$Processor" (19 : Nat) "PageMachine$Processor" "memory" "LPageMachine$Memory;") ∈ gt_bl := gt_in (List.mem_of_getElem? (i := 275) (by decide +kernel)) (by decide +kernel)
theorem mw_209 : (Jvm.Cond.fieldLink "PageMachine$Processor" (23 : Nat) "PageMachine$Processor" "system" "LPageMachine$SystemRegisters;") ∈ gt_bl := gt_in (List.mem_of_getElem? (i := 276) (by decide +kernel)) (by decide +kernel)
theorem mw_210 : (Jvm.Cond.fieldLink "PageMachine$Processor" (27 : Nat) "PageMachine$Processor" "space" "LPageMachine$AddressSpace;") ∈ gt_bl := gt_in (List.mem_of_getElem? (i := 277) (by decide +kernel)) (by decide +kernel)
theorem mw_211 : (Jvm.Cond.fieldLink "PageMachine$Processor" (36 : Nat) "PageMachine$Processor" "arithmetic" "LPageMachine$Arithmetic;") ∈ gt_bl := gt_in (List.mem_of_getElem? (i := 278) (by decide +kernel)) (by decide +kernel)
theorem mw_212 : (Jvm.Cond.fieldLink "PageMachine$Processor" (43 : Nat) "PageMachine$Processor" "branches" "LPageMachine$Branches;") ∈ gt_bl := gt_in (List.mem_of_getElem? (i := 279) (by decide +kernel)) (by decide +kernel)
theorem mw_213 : (Jvm.Cond.fieldLink "PageMachine$Processor" (52 : Nat) "PageMachine$Processor" "loadsAndStores" "LPageMachine$LoadsAndStores;") ∈ gt_bl := gt_in (List.mem_of_getElem? (i := 280) (by decide +kernel)) (by decide +kernel)
theorem mw_214 : (Jvm.Cond.fieldLink "PageMachine$Processor" (61 : Nat) "PageMachine$Processor" "coprocessor" "LPageMachine$Coprocessor;") ∈ gt_bl := gt_in (List.mem_of_getElem? (i := 281) (by decide +kernel)) (by decide +kernel)
theorem mw_215 : (Jvm.Cond.fieldLink "PageMachine$Processor" (9 : Nat) "PageMachine$Processor" "faultsByCode" "[I") ∈ gt_bl := gt_in (List.mem_of_getElem? (i := 282) (by decide +kernel)) (by decide +kernel)
theorem mw_216 : (Jvm.Cond.fieldLink "PageMachine$Processor" (65 : Nat) "PageMachine$Processor" "stepsDone" "I") ∈ gt_bl := gt_in (List.mem_of_getElem? (i := 283) (by decide +kernel)) (by decide +kernel)
theorem mw_217 : (Jvm.Cond.laysFinal "PageMachine$Processor" "PageMachine$Processor" "core" "LPageMachine$Core;") ∈ gt_bl := gt_in (List.mem_of_getElem? (i := 284) (by decide +kernel)) (by decide +kernel)
theorem mw_219 : (Jvm.Cond.laysFinal "PageMachine$Processor" "PageMachine$Processor" "memory" "LPageMachine$Memory;") ∈ gt_bl := gt_in (List.mem_of_getElem? (i := 286) (by decide +kernel)) (by decide +kernel)
theorem mw_221 : (Jvm.Cond.laysFinal "PageMachine$Processor" "PageMachine$Processor" "system" "LPageMachine$SystemRegisters;") ∈ gt_bl := gt_in (List.mem_of_getElem? (i := 288) (by decide +kernel)) (by decide +kernel)
theorem mw_223 : (Jvm.Cond.laysFinal "PageMachine$Processor" "PageMachine$Processor" "space" "LPageMachine$AddressSpace;") ∈ gt_bl := gt_in (List.mem_of_getElem? (i := 290) (by decide +kernel)) (by decide +kernel)
theorem mw_225 : (Jvm.Cond.laysFinal "PageMachine$Processor" "PageMachine$Processor" "arithmetic" "LPageMachine$Arithmetic;") ∈ gt_bl := gt_in (List.mem_of_getElem? (i := 292) (by decide +kernel)) (by decide +kernel)
theorem mw_227 : (Jvm.Cond.laysFinal "PageMachine$Processor" "PageMachine$Processor" "branches" "LPageMachine$Branches;") ∈ gt_bl := gt_in (List.mem_of_getElem? (i := 294) (by decide +kernel)) (by decide +kernel)
theorem mw_229 : (Jvm.Cond.laysFinal "PageMachine$Processor" "PageMachine$Processor" "loadsAndStores" "LPageMachine$LoadsAndStores;") ∈ gt_bl := gt_in (List.mem_of_getElem? (i := 296) (by decide +kernel)) (by decide +kernel)
theorem mw_231 : (Jvm.Cond.laysFinal "PageMachine$Processor" "PageMachine$Processor" "coprocessor" "LPageMachine$Coprocessor;") ∈ gt_bl := gt_in (List.mem_of_getElem? (i := 298) (by decide +kernel)) (by decide +kernel)
theorem mw_233 : (Jvm.Cond.laysFinal "PageMachine$Processor" "PageMachine$Processor" "faultsByCode" "[I") ∈ gt_bl := gt_in (List.mem_of_getElem? (i := 300) (by decide +kernel)) (by decide +kernel)
theorem mw_235 : (Jvm.Cond.lays "PageMachine$Processor" "PageMachine$Processor" "stepsDone" "I") ∈ gt_bl := gt_in (List.mem_of_getElem? (i := 302) (by decide +kernel)) (by decide +kernel)
theorem mw_238 : (Jvm.Cond.fieldLink "PageMachine" (10 : Nat) "PageMachine" "memory" "LPageMachine$Memory;") ∈ gt_bl := gt_in (List.mem_of_getElem? (i := 305) (by decide +kernel)) (by decide +kernel)
theorem mw_239 : (Jvm.Cond.fieldLink "PageMachine" (19 : Nat) "PageMachine" "system" "LPageMachine$SystemRegisters;") ∈ gt_bl := gt_in (List.mem_of_getElem? (i := 306) (by decide +kernel)) (by decide +kernel)
theorem mw_240 : (Jvm.Cond.fieldLink "PageMachine" (26 : Nat) "PageMachine" "tlb" "LPageMachine$Tlb;") ∈ gt_bl := gt_in (List.mem_of_getElem? (i := 307) (by decide +kernel)) (by decide +kernel)
theorem mw_241 : (Jvm.Cond.fieldLink "PageMachine" (35 : Nat) "PageMachine" "space" "LPageMachine$AddressSpace;") ∈ gt_bl := gt_in (List.mem_of_getElem? (i := 308) (by decide +kernel)) (by decide +kernel)
theorem mw_242 : (Jvm.Cond.fieldLink "PageMachine" (42 : Nat) "PageMachine" "core" "LPageMachine$Core;") ∈ gt_bl := gt_in (List.mem_of_getElem? (i := 309) (by decide +kernel)) (by decide +kernel)
theorem mw_243 : (Jvm.Cond.fieldLink "PageMachine" (51 : Nat) "PageMachine" "processor" "LPageMachine$Processor;") ∈ gt_bl := gt_in (List.mem_of_getElem? (i := 310) (by decide +kernel)) (by decide +kernel)
theorem mw_244 : (Jvm.Cond.laysFinal "PageMachine" "PageMachine" "memory" "LPageMachine$Memory;") ∈ gt_bl := gt_in (List.mem_of_getElem? (i := 311) (by decide +kernel)) (by decide +kernel)
theorem mw_246 : (Jvm.Cond.laysFinal "PageMachine" "PageMachine" "system" "LPageMachine$SystemRegisters;") ∈ gt_bl := gt_in (List.mem_of_getElem? (i := 313) (by decide +kernel)) (by decide +kernel)
theorem mw_248 : (Jvm.Cond.laysFinal "PageMachine" "PageMachine" "tlb" "LPageMachine$Tlb;") ∈ gt_bl := gt_in (List.mem_of_getElem? (i := 315) (by decide +kernel)) (by decide +kernel)
theorem mw_250 : (Jvm.Cond.laysFinal "PageMachine" "PageMachine" "space" "LPageMachine$AddressSpace;") ∈ gt_bl := gt_in (List.mem_of_getElem? (i := 317) (by decide +kernel)) (by decide +kernel)
theorem mw_252 : (Jvm.Cond.laysFinal "PageMachine" "PageMachine" "core" "LPageMachine$Core;") ∈ gt_bl := gt_in (List.mem_of_getElem? (i := 319) (by decide +kernel)) (by decide +kernel)
theorem mw_254 : (Jvm.Cond.laysFinal "PageMachine" "PageMachine" "processor" "LPageMachine$Processor;") ∈ gt_bl := gt_in (List.mem_of_getElem? (i := 321) (by decide +kernel)) (by decide +kernel)
theorem mw_257 : (Jvm.Cond.methodLink "PageMachineLaw" (83 : Nat) ({ cls := "PageMachine", name := "handler", desc := "()I" } : Jvm.MethodName)) ∈ gt_bl := gt_in (List.mem_of_getElem? (i := 324) (by decide +kernel)) (by decide +kernel)
theorem mw_258 : (Jvm.Cond.instanceMethod ({ cls := "PageMachine", name := "handler", desc := "()I" } : Jvm.MethodName)) ∈ gt_bl := gt_in (List.mem_of_getElem? (i := 325) (by decide +kernel)) (by decide +kernel)
theorem mw_259 : (Jvm.Cond.selects "PageMachine" ({ cls := "PageMachine", name := "handler", desc := "()I" } : Jvm.MethodName) ({ cls := "PageMachine", name := "handler", desc := "()I" } : Jvm.MethodName)) ∈ gt_bl := gt_in (List.mem_of_getElem? (i := 326) (by decide +kernel)) (by decide +kernel)
theorem mw_261 : (Jvm.Cond.fieldLink "PageMachine" (149 : Nat) "PageMachine" "REFILL_HANDLER" "[I") ∈ gt_bl := gt_in (List.mem_of_getElem? (i := 328) (by decide +kernel)) (by decide +kernel)
theorem mw_263 : (Jvm.Cond.methodLink "PageMachine" (63 : Nat) ({ cls := "PageMachine$Memory", name := "putWord", desc := "(II)V" } : Jvm.MethodName)) ∈ gt_bl := gt_in (List.mem_of_getElem? (i := 330) (by decide +kernel)) (by decide +kernel)
theorem mw_264 : (Jvm.Cond.instanceMethod ({ cls := "PageMachine$Memory", name := "putWord", desc := "(II)V" } : Jvm.MethodName)) ∈ gt_bl := gt_in (List.mem_of_getElem? (i := 331) (by decide +kernel)) (by decide +kernel)
theorem mw_265 : (Jvm.Cond.selects "PageMachine$Memory" ({ cls := "PageMachine$Memory", name := "putWord", desc := "(II)V" } : Jvm.MethodName) ({ cls := "PageMachine$Memory", name := "putWord", desc := "(II)V" } : Jvm.MethodName)) ∈ gt_bl := gt_in (List.mem_of_getElem? (i := 332) (by decide +kernel)) (by decide +kernel)
theorem mw_267 : (Jvm.Cond.methodLink "PageMachine$Memory" (16 : Nat) ({ cls := "PageMachine$Memory", name := "rowOf", desc := "(I)I" } : Jvm.MethodName)) ∈ gt_bl := gt_in (List.mem_of_getElem? (i := 334) (by decide +kernel)) (by decide +kernel)
theorem mw_268 : (Jvm.Cond.static ({ cls := "PageMachine$Memory", name := "rowOf", desc := "(I)I" } : Jvm.MethodName)) ∈ gt_bl := gt_in (List.mem_of_getElem? (i := 335) (by decide +kernel)) (by decide +kernel)
theorem mw_270 : (Jvm.Cond.constant "PageMachine$Memory" (20 : Nat) (262143 : Int32)) ∈ gt_bl := gt_in (List.mem_of_getElem? (i := 337) (by decide +kernel)) (by decide +kernel)
theorem mw_271 : (Jvm.Cond.methodLink "PageMachineLaw" (49 : Nat) ({ cls := "PageMachineLaw", name := "poke", desc := "(LPageMachine;II[J)I" } : Jvm.MethodName)) ∈ gt_bl := gt_in (List.mem_of_getElem? (i := 338) (by decide +kernel)) (by decide +kernel)
theorem mw_272 : (Jvm.Cond.static ({ cls := "PageMachineLaw", name := "poke", desc := "(LPageMachine;II[J)I" } : Jvm.MethodName)) ∈ gt_bl := gt_in (List.mem_of_getElem? (i := 339) (by decide +kernel)) (by decide +kernel)
theorem mw_274 : (Jvm.Cond.classLink "PageMachineLaw" (13 : Nat) "java/lang/IllegalArgumentException") ∈ gt_bl := gt_in (List.mem_of_getElem? (i := 341) (by decide +kernel)) (by decide +kernel)
theorem mw_275 : (Jvm.Cond.classLink "PageMachineLaw" (15 : Nat) "java/lang/IndexOutOfBoundsException") ∈ gt_bl := gt_in (List.mem_of_getElem? (i := 342) (by decide +kernel)) (by decide +kernel)
theorem mw_276 : (Jvm.Cond.methodLink "PageMachineLaw" (7 : Nat) ({ cls := "PageMachine", name := "poke", desc := "(II)I" } : Jvm.MethodName)) ∈ gt_bl := gt_in (List.mem_of_getElem? (i := 343) (by decide +kernel)) (by decide +kernel)
theorem mw_277 : (Jvm.Cond.instanceMethod ({ cls := "PageMachine", name := "poke", desc := "(II)I" } : Jvm.MethodName)) ∈ gt_bl := gt_in (List.mem_of_getElem? (i := 344) (by decide +kernel)) (by decide +kernel)
theorem mw_278 : (Jvm.Cond.selects "PageMachine" ({ cls := "PageMachine", name := "poke", desc := "(II)I" } : Jvm.MethodName) ({ cls := "PageMachine", name := "poke", desc := "(II)I" } : Jvm.MethodName)) ∈ gt_bl := gt_in (List.mem_of_getElem? (i := 345) (by decide +kernel)) (by decide +kernel)
theorem mw_280 : (Jvm.Cond.methodLink "PageMachine" (55 : Nat) ({ cls := "PageMachine", name := "checkWordAddress", desc := "(I)V" } : Jvm.MethodName)) ∈ gt_bl := gt_in (List.mem_of_getElem? (i := 347) (by decide +kernel)) (by decide +kernel)
theorem mw_282 : (Jvm.Cond.instanceMethod ({ cls := "PageMachine", name := "checkWordAddress", desc := "(I)V" } : Jvm.MethodName)) ∈ gt_bl := gt_in (List.mem_of_getElem? (i := 349) (by decide +kernel)) (by decide +kernel)
theorem mw_284 : (Jvm.Cond.classLink "PageMachine" (107 : Nat) "java/lang/IllegalArgumentException") ∈ gt_bl := gt_in (List.mem_of_getElem? (i := 351) (by decide +kernel)) (by decide +kernel)
theorem mw_285 : (Jvm.Cond.instantiable "java/lang/IllegalArgumentException" (6 : Nat)) ∈ gt_bl := gt_in (List.mem_of_getElem? (i := 352) (by decide +kernel)) (by decide +kernel)
theorem mw_293 : (Jvm.Cond.selects "java/lang/IllegalArgumentException" ({ cls := "java/lang/Throwable", name := "fillInStackTrace", desc := "(I)Ljava/lang/Throwable;" } : Jvm.MethodName) ({ cls := "java/lang/Throwable", name := "fillInStackTrace", desc := "(I)Ljava/lang/Throwable;" } : Jvm.MethodName)) ∈ gt_bl := gt_in (List.mem_of_getElem? (i := 360) (by decide +kernel)) (by decide +kernel)
theorem mw_294 : (Jvm.Cond.selects "java/lang/IllegalArgumentException" ({ cls := "java/lang/Throwable", name := "fillInStackTrace", desc := "()Ljava/lang/Throwable;" } : Jvm.MethodName) ({ cls := "java/lang/Throwable", name := "fillInStackTrace", desc := "()Ljava/lang/Throwable;" } : Jvm.MethodName)) ∈ gt_bl := gt_in (List.mem_of_getElem? (i := 361) (by decide +kernel)) (by decide +kernel)
theorem mw_295 : (Jvm.Cond.lays "java/lang/IllegalArgumentException" "java/lang/Throwable" "cause" "Ljava/lang/Throwable;") ∈ gt_bl := gt_in (List.mem_of_getElem? (i := 362) (by decide +kernel)) (by decide +kernel)
theorem mw_296 : (Jvm.Cond.lays "java/lang/Throwable" "java/lang/Throwable" "cause" "Ljava/lang/Throwable;") ∈ gt_bl := gt_in (List.mem_of_getElem? (i := 363) (by decide +kernel)) (by decide +kernel)
theorem mw_297 : (Jvm.Cond.lays "java/lang/IllegalArgumentException" "java/lang/Throwable" "stackTrace" "[Ljava/lang/StackTraceElement;") ∈ gt_bl := gt_in (List.mem_of_getElem? (i := 364) (by decide +kernel)) (by decide +kernel)
theorem mw_298 : (Jvm.Cond.lays "java/lang/Throwable" "java/lang/Throwable" "stackTrace" "[Ljava/lang/StackTraceElement;") ∈ gt_bl := gt_in (List.mem_of_getElem? (i := 365) (by decide +kernel)) (by decide +kernel)
theorem mw_299 : (Jvm.Cond.lays "java/lang/IllegalArgumentException" "java/lang/Throwable" "suppressedExceptions" "Ljava/util/List;") ∈ gt_bl := gt_in (List.mem_of_getElem? (i := 366) (by decide +kernel)) (by decide +kernel)
theorem mw_300 : (Jvm.Cond.lays "java/lang/Throwable" "java/lang/Throwable" "suppressedExceptions" "Ljava/util/List;") ∈ gt_bl := gt_in (List.mem_of_getElem? (i := 367) (by decide +kernel)) (by decide +kernel)
theorem mw_301 : (Jvm.Cond.lays "java/lang/IllegalArgumentException" "java/lang/Throwable" "detailMessage" "Ljava/lang/String;") ∈ gt_bl := gt_in (List.mem_of_getElem? (i := 368) (by decide +kernel)) (by decide +kernel)
theorem mw_302 : (Jvm.Cond.lays "java/lang/Throwable" "java/lang/Throwable" "detailMessage" "Ljava/lang/String;") ∈ gt_bl := gt_in (List.mem_of_getElem? (i := 369) (by decide +kernel)) (by decide +kernel)
theorem mw_303 : (Jvm.Cond.lays "java/lang/IllegalArgumentException" "java/lang/Throwable" "backtrace" "Ljava/lang/Object;") ∈ gt_bl := gt_in (List.mem_of_getElem? (i := 370) (by decide +kernel)) (by decide +kernel)
theorem mw_304 : (Jvm.Cond.lays "java/lang/Throwable" "java/lang/Throwable" "backtrace" "Ljava/lang/Object;") ∈ gt_bl := gt_in (List.mem_of_getElem? (i := 371) (by decide +kernel)) (by decide +kernel)
theorem mw_305 : (Jvm.Cond.fieldLink "java/lang/Throwable" (198 : Nat) "java/lang/Throwable" "backtrace" "Ljava/lang/Object;") ∈ gt_bl := gt_in (List.mem_of_getElem? (i := 372) (by decide +kernel)) (by decide +kernel)
theorem mw_307 : (Jvm.Cond.instanceMethod ({ cls := "java/lang/Throwable", name := "<init>", desc := "()V" } : Jvm.MethodName)) ∈ gt_bl := gt_in (List.mem_of_getElem? (i := 374) (by decide +kernel)) (by decide +kernel)
theorem mw_309 : (Jvm.Cond.methodLink "java/lang/Throwable" (1 : Nat) ({ cls := "java/lang/Object", name := "<init>", desc := "()V" } : Jvm.MethodName)) ∈ gt_bl := gt_in (List.mem_of_getElem? (i := 376) (by decide +kernel)) (by decide +kernel)
theorem mw_310 : (Jvm.Cond.fieldLink "java/lang/Throwable" (13 : Nat) "java/lang/Throwable" "UNASSIGNED_STACK" "[Ljava/lang/StackTraceElement;") ∈ gt_bl := gt_in (List.mem_of_getElem? (i := 377) (by decide +kernel)) (by decide +kernel)
theorem mw_312 : (Jvm.Cond.fieldLink "java/lang/Throwable" (20 : Nat) "java/lang/Throwable" "SUPPRESSED_SENTINEL" "Ljava/util/List;") ∈ gt_bl := gt_in (List.mem_of_getElem? (i := 379) (by decide +kernel)) (by decide +kernel)
theorem mw_314 : (Jvm.Cond.methodLink "java/lang/Throwable" (27 : Nat) ({ cls := "java/lang/Throwable", name := "fillInStackTrace", desc := "()Ljava/lang/Throwable;" } : Jvm.MethodName)) ∈ gt_bl := gt_in (List.mem_of_getElem? (i := 381) (by decide +kernel)) (by decide +kernel)
theorem mw_315 : (Jvm.Cond.instanceMethod ({ cls := "java/lang/Throwable", name := "fillInStackTrace", desc := "()Ljava/lang/Throwable;" } : Jvm.MethodName)) ∈ gt_bl := gt_in (List.mem_of_getElem? (i := 382) (by decide +kernel)) (by decide +kernel)
theorem mw_317 : (Jvm.Cond.selects "java/lang/IndexOutOfBoundsException" ({ cls := "java/lang/Throwable", name := "fillInStackTrace", desc := "()Ljava/lang/Throwable;" } : Jvm.MethodName) ({ cls := "java/lang/Throwable", name := "fillInStackTrace", desc := "()Ljava/lang/Throwable;" } : Jvm.MethodName)) ∈ gt_bl := gt_in (List.mem_of_getElem? (i := 384) (by decide +kernel)) (by decide +kernel)
theorem mw_319 : (Jvm.Cond.methodLink "java/lang/Throwable" (202 : Nat) ({ cls := "java/lang/Throwable", name := "fillInStackTrace", desc := "(I)Ljava/lang/Throwable;" } : Jvm.MethodName)) ∈ gt_bl := gt_in (List.mem_of_getElem? (i := 386) (by decide +kernel)) (by decide +kernel)
theorem mw_321 : (Jvm.Cond.instanceMethod ({ cls := "java/lang/Throwable", name := "fillInStackTrace", desc := "(I)Ljava/lang/Throwable;" } : Jvm.MethodName)) ∈ gt_bl := gt_in (List.mem_of_getElem? (i := 388) (by decide +kernel)) (by decide +kernel)
theorem mw_322 : (Jvm.Cond.instantiable "java/lang/Throwable" (6 : Nat)) ∈ gt_bl := gt_in (List.mem_of_getElem? (i := 389) (by decide +kernel)) (by decide +kernel)
theorem mw_325 : (Jvm.Cond.methodLink "PageMachine" (111 : Nat) ({ cls := "java/lang/IllegalArgumentException", name := "<init>", desc := "(Ljava/lang/String;)V" } : Jvm.MethodName)) ∈ gt_bl := gt_in (List.mem_of_getElem? (i := 392) (by decide +kernel)) (by decide +kernel)
theorem mw_326 : (Jvm.Cond.instanceMethod ({ cls := "java/lang/IllegalArgumentException", name := "<init>", desc := "(Ljava/lang/String;)V" } : Jvm.MethodName)) ∈ gt_bl := gt_in (List.mem_of_getElem? (i := 393) (by decide +kernel)) (by decide +kernel)
theorem mw_328 : (Jvm.Cond.methodLink "java/lang/IllegalArgumentException" (7 : Nat) ({ cls := "java/lang/RuntimeException", name := "<init>", desc := "(Ljava/lang/String;)V" } : Jvm.MethodName)) ∈ gt_bl := gt_in (List.mem_of_getElem? (i := 395) (by decide +kernel)) (by decide +kernel)
theorem mw_329 : (Jvm.Cond.instanceMethod ({ cls := "java/lang/RuntimeException", name := "<init>", desc := "(Ljava/lang/String;)V" } : Jvm.MethodName)) ∈ gt_bl := gt_in (List.mem_of_getElem? (i := 396) (by decide +kernel)) (by decide +kernel)
theorem mw_331 : (Jvm.Cond.methodLink "java/lang/RuntimeException" (7 : Nat) ({ cls := "java/lang/Exception", name := "<init>", desc := "(Ljava/lang/String;)V" } : Jvm.MethodName)) ∈ gt_bl := gt_in (List.mem_of_getElem? (i := 398) (by decide +kernel)) (by decide +kernel)
theorem mw_332 : (Jvm.Cond.instanceMethod ({ cls := "java/lang/Exception", name := "<init>", desc := "(Ljava/lang/String;)V" } : Jvm.MethodName)) ∈ gt_bl := gt_in (List.mem_of_getElem? (i := 399) (by decide +kernel)) (by decide +kernel)
theorem mw_334 : (Jvm.Cond.methodLink "java/lang/Exception" (7 : Nat) ({ cls := "java/lang/Throwable", name := "<init>", desc := "(Ljava/lang/String;)V" } : Jvm.MethodName)) ∈ gt_bl := gt_in (List.mem_of_getElem? (i := 401) (by decide +kernel)) (by decide +kernel)
theorem mw_335 : (Jvm.Cond.instanceMethod ({ cls := "java/lang/Throwable", name := "<init>", desc := "(Ljava/lang/String;)V" } : Jvm.MethodName)) ∈ gt_bl := gt_in (List.mem_of_getElem? (i := 402) (by decide +kernel)) (by decide +kernel)
theorem mw_337 : (Jvm.Cond.fieldLink "java/lang/Throwable" (198 : Nat) "java/lang/Throwable" "backtrace" "Ljava/lang/Object;") ∈ gt_bl := gt_in (List.mem_of_getElem? (i := 404) (by decide +kernel)) (by decide +kernel)
theorem mw_338 : (Jvm.Cond.fieldLink "java/lang/Throwable" (31 : Nat) "java/lang/Throwable" "detailMessage" "Ljava/lang/String;") ∈ gt_bl := gt_in (List.mem_of_getElem? (i := 405) (by decide +kernel)) (by decide +kernel)
theorem mw_339 : (Jvm.Cond.fieldLink "java/lang/Throwable" (7 : Nat) "java/lang/Throwable" "cause" "Ljava/lang/Throwable;") ∈ gt_bl := gt_in (List.mem_of_getElem? (i := 406) (by decide +kernel)) (by decide +kernel)
theorem mw_340 : (Jvm.Cond.fieldLink "java/lang/Throwable" (17 : Nat) "java/lang/Throwable" "stackTrace" "[Ljava/lang/StackTraceElement;") ∈ gt_bl := gt_in (List.mem_of_getElem? (i := 407) (by decide +kernel)) (by decide +kernel)
theorem mw_341 : (Jvm.Cond.fieldLink "java/lang/Throwable" (24 : Nat) "java/lang/Throwable" "suppressedExceptions" "Ljava/util/List;") ∈ gt_bl := gt_in (List.mem_of_getElem? (i := 408) (by decide +kernel)) (by decide +kernel)
theorem mw_346 : (Jvm.Cond.lays "java/lang/IllegalArgumentException" "java/lang/Throwable" "depth" "I") ∈ gt_bl := gt_in (List.mem_of_getElem? (i := 413) (by decide +kernel)) (by decide +kernel)
theorem mw_350 : (Jvm.Cond.arrayClass Jvm.ClassFile.FieldType.byte) ∈ gt_bl := gt_in (List.mem_of_getElem? (i := 417) (by decide +kernel)) (by decide +kernel)
theorem mw_351 : (Jvm.Cond.methodLink "PageMachine" (171 : Nat) ({ cls := "PageMachine$Memory", name := "has", desc := "(J)Z" } : Jvm.MethodName)) ∈ gt_bl := gt_in (List.mem_of_getElem? (i := 418) (by decide +kernel)) (by decide +kernel)
theorem mw_352 : (Jvm.Cond.instanceMethod ({ cls := "PageMachine$Memory", name := "has", desc := "(J)Z" } : Jvm.MethodName)) ∈ gt_bl := gt_in (List.mem_of_getElem? (i := 419) (by decide +kernel)) (by decide +kernel)
theorem mw_353 : (Jvm.Cond.selects "PageMachine$Memory" ({ cls := "PageMachine$Memory", name := "has", desc := "(J)Z" } : Jvm.MethodName) ({ cls := "PageMachine$Memory", name := "has", desc := "(J)Z" } : Jvm.MethodName)) ∈ gt_bl := gt_in (List.mem_of_getElem? (i := 420) (by decide +kernel)) (by decide +kernel)
theorem mw_355 : (Jvm.Cond.constantLong "PageMachine$Memory" (14 : Nat) (262144 : Int64)) ∈ gt_bl := gt_in (List.mem_of_getElem? (i := 422) (by decide +kernel)) (by decide +kernel)
theorem mw_356 : (Jvm.Cond.classLink "PageMachine" (96 : Nat) "java/lang/IndexOutOfBoundsException") ∈ gt_bl := gt_in (List.mem_of_getElem? (i := 423) (by decide +kernel)) (by decide +kernel)
theorem mw_357 : (Jvm.Cond.instantiable "java/lang/IndexOutOfBoundsException" (6 : Nat)) ∈ gt_bl := gt_in (List.mem_of_getElem? (i := 424) (by decide +kernel)) (by decide +kernel)
theorem mw_359 : (Jvm.Cond.selects "java/lang/IndexOutOfBoundsException" ({ cls := "java/lang/Throwable", name := "fillInStackTrace", desc := "(I)Ljava/lang/Throwable;" } : Jvm.MethodName) ({ cls := "java/lang/Throwable", name := "fillInStackTrace", desc := "(I)Ljava/lang/Throwable;" } : Jvm.MethodName)) ∈ gt_bl := gt_in (List.mem_of_getElem? (i := 426) (by decide +kernel)) (by decide +kernel)
theorem mw_360 : (Jvm.Cond.lays "java/lang/IndexOutOfBoundsException" "java/lang/Throwable" "cause" "Ljava/lang/Throwable;") ∈ gt_bl := gt_in (List.mem_of_getElem? (i := 427) (by decide +kernel)) (by decide +kernel)
theorem mw_361 : (Jvm.Cond.lays "java/lang/IndexOutOfBoundsException" "java/lang/Throwable" "stackTrace" "[Ljava/lang/StackTraceElement;") ∈ gt_bl := gt_in (List.mem_of_getElem? (i := 428) (by decide +kernel)) (by decide +kernel)
theorem mw_362 : (Jvm.Cond.lays "java/lang/IndexOutOfBoundsException" "java/lang/Throwable" "suppressedExceptions" "Ljava/util/List;") ∈ gt_bl := gt_in (List.mem_of_getElem? (i := 429) (by decide +kernel)) (by decide +kernel)
theorem mw_363 : (Jvm.Cond.lays "java/lang/IndexOutOfBoundsException" "java/lang/Throwable" "detailMessage" "Ljava/lang/String;") ∈ gt_bl := gt_in (List.mem_of_getElem? (i := 430) (by decide +kernel)) (by decide +kernel)
theorem mw_364 : (Jvm.Cond.lays "java/lang/IndexOutOfBoundsException" "java/lang/Throwable" "backtrace" "Ljava/lang/Object;") ∈ gt_bl := gt_in (List.mem_of_getElem? (i := 431) (by decide +kernel)) (by decide +kernel)
theorem mw_366 : (Jvm.Cond.methodLink "PageMachine" (100 : Nat) ({ cls := "java/lang/IndexOutOfBoundsException", name := "<init>", desc := "(Ljava/lang/String;)V" } : Jvm.MethodName)) ∈ gt_bl := gt_in (List.mem_of_getElem? (i := 433) (by decide +kernel)) (by decide +kernel)
theorem mw_367 : (Jvm.Cond.instanceMethod ({ cls := "java/lang/IndexOutOfBoundsException", name := "<init>", desc := "(Ljava/lang/String;)V" } : Jvm.MethodName)) ∈ gt_bl := gt_in (List.mem_of_getElem? (i := 434) (by decide +kernel)) (by decide +kernel)
theorem mw_369 : (Jvm.Cond.methodLink "java/lang/IndexOutOfBoundsException" (7 : Nat) ({ cls := "java/lang/RuntimeException", name := "<init>", desc := "(Ljava/lang/String;)V" } : Jvm.MethodName)) ∈ gt_bl := gt_in (List.mem_of_getElem? (i := 436) (by decide +kernel)) (by decide +kernel)
theorem mw_370 : (Jvm.Cond.lays "java/lang/IndexOutOfBoundsException" "java/lang/Throwable" "depth" "I") ∈ gt_bl := gt_in (List.mem_of_getElem? (i := 437) (by decide +kernel)) (by decide +kernel)
theorem mw_372 : (Jvm.Cond.methodLink "PageMachine" (59 : Nat) ({ cls := "PageMachine$Memory", name := "wordAt", desc := "(I)I" } : Jvm.MethodName)) ∈ gt_bl := gt_in (List.mem_of_getElem? (i := 439) (by decide +kernel)) (by decide +kernel)
theorem mw_373 : (Jvm.Cond.instanceMethod ({ cls := "PageMachine$Memory", name := "wordAt", desc := "(I)I" } : Jvm.MethodName)) ∈ gt_bl := gt_in (List.mem_of_getElem? (i := 440) (by decide +kernel)) (by decide +kernel)
theorem mw_374 : (Jvm.Cond.selects "PageMachine$Memory" ({ cls := "PageMachine$Memory", name := "wordAt", desc := "(I)I" } : Jvm.MethodName) ({ cls := "PageMachine$Memory", name := "wordAt", desc := "(I)I" } : Jvm.MethodName)) ∈ gt_bl := gt_in (List.mem_of_getElem? (i := 441) (by decide +kernel)) (by decide +kernel)
theorem mw_376 : (Jvm.Cond.methodLink "PageMachineLaw" (59 : Nat) ({ cls := "PageMachineLaw", name := "peek", desc := "(LPageMachine;I[J)I" } : Jvm.MethodName)) ∈ gt_bl := gt_in (List.mem_of_getElem? (i := 443) (by decide +kernel)) (by decide +kernel)
theorem mw_377 : (Jvm.Cond.static ({ cls := "PageMachineLaw", name := "peek", desc := "(LPageMachine;I[J)I" } : Jvm.MethodName)) ∈ gt_bl := gt_in (List.mem_of_getElem? (i := 444) (by decide +kernel)) (by decide +kernel)
theorem mw_379 : (Jvm.Cond.methodLink "PageMachineLaw" (17 : Nat) ({ cls := "PageMachine", name := "peek", desc := "(I)I" } : Jvm.MethodName)) ∈ gt_bl := gt_in (List.mem_of_getElem? (i := 446) (by decide +kernel)) (by decide +kernel)
theorem mw_380 : (Jvm.Cond.instanceMethod ({ cls := "PageMachine", name := "peek", desc := "(I)I" } : Jvm.MethodName)) ∈ gt_bl := gt_in (List.mem_of_getElem? (i := 447) (by decide +kernel)) (by decide +kernel)
theorem mw_381 : (Jvm.Cond.selects "PageMachine" ({ cls := "PageMachine", name := "peek", desc := "(I)I" } : Jvm.MethodName) ({ cls := "PageMachine", name := "peek", desc := "(I)I" } : Jvm.MethodName)) ∈ gt_bl := gt_in (List.mem_of_getElem? (i := 448) (by decide +kernel)) (by decide +kernel)
theorem mw_383 : (Jvm.Cond.methodLink "PageMachineLaw" (63 : Nat) ({ cls := "PageMachineLaw", name := "set", desc := "(LPageMachine;III)I" } : Jvm.MethodName)) ∈ gt_bl := gt_in (List.mem_of_getElem? (i := 450) (by decide +kernel)) (by decide +kernel)
theorem mw_384 : (Jvm.Cond.static ({ cls := "PageMachineLaw", name := "set", desc := "(LPageMachine;III)I" } : Jvm.MethodName)) ∈ gt_bl := gt_in (List.mem_of_getElem? (i := 451) (by decide +kernel)) (by decide +kernel)
theorem mw_386 : (Jvm.Cond.methodLink "PageMachineLaw" (21 : Nat) ({ cls := "PageMachine", name := "set", desc := "(III)V" } : Jvm.MethodName)) ∈ gt_bl := gt_in (List.mem_of_getElem? (i := 453) (by decide +kernel)) (by decide +kernel)
theorem mw_387 : (Jvm.Cond.instanceMethod ({ cls := "PageMachine", name := "set", desc := "(III)V" } : Jvm.MethodName)) ∈ gt_bl := gt_in (List.mem_of_getElem? (i := 454) (by decide +kernel)) (by decide +kernel)
theorem mw_388 : (Jvm.Cond.selects "PageMachine" ({ cls := "PageMachine", name := "set", desc := "(III)V" } : Jvm.MethodName) ({ cls := "PageMachine", name := "set", desc := "(III)V" } : Jvm.MethodName)) ∈ gt_bl := gt_in (List.mem_of_getElem? (i := 455) (by decide +kernel)) (by decide +kernel)
theorem mw_390 : (Jvm.Cond.methodLink "PageMachine" (67 : Nat) ({ cls := "PageMachine", name := "checkRegister", desc := "(II)V" } : Jvm.MethodName)) ∈ gt_bl := gt_in (List.mem_of_getElem? (i := 457) (by decide +kernel)) (by decide +kernel)
theorem mw_391 : (Jvm.Cond.static ({ cls := "PageMachine", name := "checkRegister", desc := "(II)V" } : Jvm.MethodName)) ∈ gt_bl := gt_in (List.mem_of_getElem? (i := 458) (by decide +kernel)) (by decide +kernel)
theorem mw_394 : (Jvm.Cond.methodLink "PageMachine" (70 : Nat) ({ cls := "PageMachine$SystemRegisters", name := "write", desc := "(II)V" } : Jvm.MethodName)) ∈ gt_bl := gt_in (List.mem_of_getElem? (i := 461) (by decide +kernel)) (by decide +kernel)
theorem mw_395 : (Jvm.Cond.instanceMethod ({ cls := "PageMachine$SystemRegisters", name := "write", desc := "(II)V" } : Jvm.MethodName)) ∈ gt_bl := gt_in (List.mem_of_getElem? (i := 462) (by decide +kernel)) (by decide +kernel)
theorem mw_396 : (Jvm.Cond.selects "PageMachine$SystemRegisters" ({ cls := "PageMachine$SystemRegisters", name := "write", desc := "(II)V" } : Jvm.MethodName) ({ cls := "PageMachine$SystemRegisters", name := "write", desc := "(II)V" } : Jvm.MethodName)) ∈ gt_bl := gt_in (List.mem_of_getElem? (i := 463) (by decide +kernel)) (by decide +kernel)
theorem mw_398 : (Jvm.Cond.fieldLink "PageMachine$SystemRegisters" (25 : Nat) "PageMachine$SystemRegisters" "WRITTEN_BITS" "[I") ∈ gt_bl := gt_in (List.mem_of_getElem? (i := 465) (by decide +kernel)) (by decide +kernel)
theorem mw_400 : (Jvm.Cond.methodLink "PageMachine" (80 : Nat) ({ cls := "PageMachine$Core", name := "restartAt", desc := "(I)V" } : Jvm.MethodName)) ∈ gt_bl := gt_in (List.mem_of_getElem? (i := 467) (by decide +kernel)) (by decide +kernel)
theorem mw_401 : (Jvm.Cond.instanceMethod ({ cls := "PageMachine$Core", name := "restartAt", desc := "(I)V" } : Jvm.MethodName)) ∈ gt_bl := gt_in (List.mem_of_getElem? (i := 468) (by decide +kernel)) (by decide +kernel)
theorem mw_402 : (Jvm.Cond.selects "PageMachine$Core" ({ cls := "PageMachine$Core", name := "restartAt", desc := "(I)V" } : Jvm.MethodName) ({ cls := "PageMachine$Core", name := "restartAt", desc := "(I)V" } : Jvm.MethodName)) ∈ gt_bl := gt_in (List.mem_of_getElem? (i := 469) (by decide +kernel)) (by decide +kernel)
theorem mw_404 : (Jvm.Cond.methodLink "PageMachine" (83 : Nat) ({ cls := "PageMachine$Core", name := "put", desc := "(II)I" } : Jvm.MethodName)) ∈ gt_bl := gt_in (List.mem_of_getElem? (i := 471) (by decide +kernel)) (by decide +kernel)
theorem mw_405 : (Jvm.Cond.instanceMethod ({ cls := "PageMachine$Core", name := "put", desc := "(II)I" } : Jvm.MethodName)) ∈ gt_bl := gt_in (List.mem_of_getElem? (i := 472) (by decide +kernel)) (by decide +kernel)
theorem mw_406 : (Jvm.Cond.selects "PageMachine$Core" ({ cls := "PageMachine$Core", name := "put", desc := "(II)I" } : Jvm.MethodName) ({ cls := "PageMachine$Core", name := "put", desc := "(II)I" } : Jvm.MethodName)) ∈ gt_bl := gt_in (List.mem_of_getElem? (i := 473) (by decide +kernel)) (by decide +kernel)
theorem mw_408 : (Jvm.Cond.methodLink "PageMachineLaw" (67 : Nat) ({ cls := "PageMachineLaw", name := "get", desc := "(LPageMachine;II[J)I" } : Jvm.MethodName)) ∈ gt_bl := gt_in (List.mem_of_getElem? (i := 475) (by decide +kernel)) (by decide +kernel)
theorem mw_409 : (Jvm.Cond.static ({ cls := "PageMachineLaw", name := "get", desc := "(LPageMachine;II[J)I" } : Jvm.MethodName)) ∈ gt_bl := gt_in (List.mem_of_getElem? (i := 476) (by decide +kernel)) (by decide +kernel)
theorem mw_411 : (Jvm.Cond.methodLink "PageMachineLaw" (25 : Nat) ({ cls := "PageMachine", name := "get", desc := "(II)I" } : Jvm.MethodName)) ∈ gt_bl := gt_in (List.mem_of_getElem? (i := 478) (by decide +kernel)) (by decide +kernel)
theorem mw_412 : (Jvm.Cond.instanceMethod ({ cls := "PageMachine", name := "get", desc := "(II)I" } : Jvm.MethodName)) ∈ gt_bl := gt_in (List.mem_of_getElem? (i := 479) (by decide +kernel)) (by decide +kernel)
theorem mw_413 : (Jvm.Cond.selects "PageMachine" ({ cls := "PageMachine", name := "get", desc := "(II)I" } : Jvm.MethodName) ({ cls := "PageMachine", name := "get", desc := "(II)I" } : Jvm.MethodName)) ∈ gt_bl := gt_in (List.mem_of_getElem? (i := 480) (by decide +kernel)) (by decide +kernel)
theorem mw_415 : (Jvm.Cond.methodLink "PageMachine" (87 : Nat) ({ cls := "PageMachine$SystemRegisters", name := "read", desc := "(I)I" } : Jvm.MethodName)) ∈ gt_bl := gt_in (List.mem_of_getElem? (i := 482) (by decide +kernel)) (by decide +kernel)
theorem mw_416 : (Jvm.Cond.instanceMethod ({ cls := "PageMachine$SystemRegisters", name := "read", desc := "(I)I" } : Jvm.MethodName)) ∈ gt_bl := gt_in (List.mem_of_getElem? (i := 483) (by decide +kernel)) (by decide +kernel)
theorem mw_417 : (Jvm.Cond.selects "PageMachine$SystemRegisters" ({ cls := "PageMachine$SystemRegisters", name := "read", desc := "(I)I" } : Jvm.MethodName) ({ cls := "PageMachine$SystemRegisters", name := "read", desc := "(I)I" } : Jvm.MethodName)) ∈ gt_bl := gt_in (List.mem_of_getElem? (i := 484) (by decide +kernel)) (by decide +kernel)
theorem mw_419 : (Jvm.Cond.constant "PageMachine$SystemRegisters" (24 : Nat) (32768 : Int32)) ∈ gt_bl := gt_in (List.mem_of_getElem? (i := 486) (by decide +kernel)) (by decide +kernel)
theorem mw_420 : (Jvm.Cond.methodLink "PageMachine" (93 : Nat) ({ cls := "PageMachine$Core", name := "register", desc := "(I)I" } : Jvm.MethodName)) ∈ gt_bl := gt_in (List.mem_of_getElem? (i := 487) (by decide +kernel)) (by decide +kernel)
theorem mw_421 : (Jvm.Cond.instanceMethod ({ cls := "PageMachine$Core", name := "register", desc := "(I)I" } : Jvm.MethodName)) ∈ gt_bl := gt_in (List.mem_of_getElem? (i := 488) (by decide +kernel)) (by decide +kernel)
theorem mw_422 : (Jvm.Cond.selects "PageMachine$Core" ({ cls := "PageMachine$Core", name := "register", desc := "(I)I" } : Jvm.MethodName) ({ cls := "PageMachine$Core", name := "register", desc := "(I)I" } : Jvm.MethodName)) ∈ gt_bl := gt_in (List.mem_of_getElem? (i := 489) (by decide +kernel)) (by decide +kernel)
theorem mw_424 : (Jvm.Cond.methodLink "PageMachineLaw" (70 : Nat) ({ cls := "PageMachineLaw", name := "line", desc := "(LPageMachine;IZ[J)I" } : Jvm.MethodName)) ∈ gt_bl := gt_in (List.mem_of_getElem? (i := 491) (by decide +kernel)) (by decide +kernel)
theorem mw_425 : (Jvm.Cond.static ({ cls := "PageMachineLaw", name := "line", desc := "(LPageMachine;IZ[J)I" } : Jvm.MethodName)) ∈ gt_bl := gt_in (List.mem_of_getElem? (i := 492) (by decide +kernel)) (by decide +kernel)
theorem mw_427 : (Jvm.Cond.methodLink "PageMachineLaw" (28 : Nat) ({ cls := "PageMachine", name := "line", desc := "(IZ)Z" } : Jvm.MethodName)) ∈ gt_bl := gt_in (List.mem_of_getElem? (i := 494) (by decide +kernel)) (by decide +kernel)
theorem mw_428 : (Jvm.Cond.instanceMethod ({ cls := "PageMachine", name := "line", desc := "(IZ)Z" } : Jvm.MethodName)) ∈ gt_bl := gt_in (List.mem_of_getElem? (i := 495) (by decide +kernel)) (by decide +kernel)
theorem mw_429 : (Jvm.Cond.selects "PageMachine" ({ cls := "PageMachine", name := "line", desc := "(IZ)Z" } : Jvm.MethodName) ({ cls := "PageMachine", name := "line", desc := "(IZ)Z" } : Jvm.MethodName)) ∈ gt_bl := gt_in (List.mem_of_getElem? (i := 496) (by decide +kernel)) (by decide +kernel)
theorem mw_432 : (Jvm.Cond.methodLink "PageMachine" (103 : Nat) ({ cls := "PageMachine$SystemRegisters", name := "switchLine", desc := "(IZ)Z" } : Jvm.MethodName)) ∈ gt_bl := gt_in (List.mem_of_getElem? (i := 499) (by decide +kernel)) (by decide +kernel)
theorem mw_433 : (Jvm.Cond.instanceMethod ({ cls := "PageMachine$SystemRegisters", name := "switchLine", desc := "(IZ)Z" } : Jvm.MethodName)) ∈ gt_bl := gt_in (List.mem_of_getElem? (i := 500) (by decide +kernel)) (by decide +kernel)
theorem mw_434 : (Jvm.Cond.selects "PageMachine$SystemRegisters" ({ cls := "PageMachine$SystemRegisters", name := "switchLine", desc := "(IZ)Z" } : Jvm.MethodName) ({ cls := "PageMachine$SystemRegisters", name := "switchLine", desc := "(IZ)Z" } : Jvm.MethodName)) ∈ gt_bl := gt_in (List.mem_of_getElem? (i := 501) (by decide +kernel)) (by decide +kernel)
theorem mw_436 : (Jvm.Cond.methodLink "PageMachineLaw" (74 : Nat) ({ cls := "PageMachineLaw", name := "step", desc := "(LPageMachine;I[J)I" } : Jvm.MethodName)) ∈ gt_bl := gt_in (List.mem_of_getElem? (i := 503) (by decide +kernel)) (by decide +kernel)
theorem mw_437 : (Jvm.Cond.static ({ cls := "PageMachineLaw", name := "step", desc := "(LPageMachine;I[J)I" } : Jvm.MethodName)) ∈ gt_bl := gt_in (List.mem_of_getElem? (i := 504) (by decide +kernel)) (by decide +kernel)
theorem mw_439 : (Jvm.Cond.methodLink "PageMachineLaw" (32 : Nat) ({ cls := "PageMachine", name := "step", desc := "(I)I" } : Jvm.MethodName)) ∈ gt_bl := gt_in (List.mem_of_getElem? (i := 506) (by decide +kernel)) (by decide +kernel)
theorem mw_440 : (Jvm.Cond.instanceMethod ({ cls := "PageMachine", name := "step", desc := "(I)I" } : Jvm.MethodName)) ∈ gt_bl := gt_in (List.mem_of_getElem? (i := 507) (by decide +kernel)) (by decide +kernel)
theorem mw_441 : (Jvm.Cond.selects "PageMachine" ({ cls := "PageMachine", name := "step", desc := "(I)I" } : Jvm.MethodName) ({ cls := "PageMachine", name := "step", desc := "(I)I" } : Jvm.MethodName)) ∈ gt_bl := gt_in (List.mem_of_getElem? (i := 508) (by decide +kernel)) (by decide +kernel)
theorem mw_444 : (Jvm.Cond.methodLink "PageMachine" (112 : Nat) ({ cls := "PageMachine$Processor", name := "stepWasFault", desc := "()Z" } : Jvm.MethodName)) ∈ gt_bl := gt_in (List.mem_of_getElem? (i := 511) (by decide +kernel)) (by decide +kernel)
theorem mw_445 : (Jvm.Cond.instanceMethod ({ cls := "PageMachine$Processor", name := "stepWasFault", desc := "()Z" } : Jvm.MethodName)) ∈ gt_bl := gt_in (List.mem_of_getElem? (i := 512) (by decide +kernel)) (by decide +kernel)
theorem mw_446 : (Jvm.Cond.selects "PageMachine$Processor" ({ cls := "PageMachine$Processor", name := "stepWasFault", desc := "()Z" } : Jvm.MethodName) ({ cls := "PageMachine$Processor", name := "stepWasFault", desc := "()Z" } : Jvm.MethodName)) ∈ gt_bl := gt_in (List.mem_of_getElem? (i := 513) (by decide +kernel)) (by decide +kernel)
theorem mw_448 : (Jvm.Cond.methodLink "PageMachine$Processor" (69 : Nat) ({ cls := "PageMachine$SystemRegisters", name := "tick", desc := "()V" } : Jvm.MethodName)) ∈ gt_bl := gt_in (List.mem_of_getElem? (i := 515) (by decide +kernel)) (by decide +kernel)
theorem mw_449 : (Jvm.Cond.instanceMethod ({ cls := "PageMachine$SystemRegisters", name := "tick", desc := "()V" } : Jvm.MethodName)) ∈ gt_bl := gt_in (List.mem_of_getElem? (i := 516) (by decide +kernel)) (by decide +kernel)
theorem mw_450 : (Jvm.Cond.selects "PageMachine$SystemRegisters" ({ cls := "PageMachine$SystemRegisters", name := "tick", desc := "()V" } : Jvm.MethodName) ({ cls := "PageMachine$SystemRegisters", name := "tick", desc := "()V" } : Jvm.MethodName)) ∈ gt_bl := gt_in (List.mem_of_getElem? (i := 517) (by decide +kernel)) (by decide +kernel)
theorem mw_452 : (Jvm.Cond.methodLink "PageMachine$Processor" (74 : Nat) ({ cls := "PageMachine$SystemRegisters", name := "interruptIsDue", desc := "()Z" } : Jvm.MethodName)) ∈ gt_bl := gt_in (List.mem_of_getElem? (i := 519) (by decide +kernel)) (by decide +kernel)
theorem mw_453 : (Jvm.Cond.instanceMethod ({ cls := "PageMachine$SystemRegisters", name := "interruptIsDue", desc := "()Z" } : Jvm.MethodName)) ∈ gt_bl := gt_in (List.mem_of_getElem? (i := 520) (by decide +kernel)) (by decide +kernel)
theorem mw_454 : (Jvm.Cond.selects "PageMachine$SystemRegisters" ({ cls := "PageMachine$SystemRegisters", name := "interruptIsDue", desc := "()Z" } : Jvm.MethodName) ({ cls := "PageMachine$SystemRegisters", name := "interruptIsDue", desc := "()Z" } : Jvm.MethodName)) ∈ gt_bl := gt_in (List.mem_of_getElem? (i := 521) (by decide +kernel)) (by decide +kernel)
theorem mw_456 : (Jvm.Cond.methodLink "PageMachine$SystemRegisters" (28 : Nat) ({ cls := "PageMachine$SystemRegisters", name := "read", desc := "(I)I" } : Jvm.MethodName)) ∈ gt_bl := gt_in (List.mem_of_getElem? (i := 523) (by decide +kernel)) (by decide +kernel)
theorem mw_457 : (Jvm.Cond.constant "PageMachine$SystemRegisters" (32 : Nat) (65280 : Int32)) ∈ gt_bl := gt_in (List.mem_of_getElem? (i := 524) (by decide +kernel)) (by decide +kernel)
theorem mw_458 : (Jvm.Cond.methodLink "PageMachine$Processor" (78 : Nat) ({ cls := "PageMachine$Processor", name := "enter", desc := "(I)V" } : Jvm.MethodName)) ∈ gt_bl := gt_in (List.mem_of_getElem? (i := 525) (by decide +kernel)) (by decide +kernel)
theorem mw_460 : (Jvm.Cond.instanceMethod ({ cls := "PageMachine$Processor", name := "enter", desc := "(I)V" } : Jvm.MethodName)) ∈ gt_bl := gt_in (List.mem_of_getElem? (i := 527) (by decide +kernel)) (by decide +kernel)
theorem mw_462 : (Jvm.Cond.methodLink "PageMachine$Processor" (101 : Nat) ({ cls := "PageMachine$Fault", name := "codeOf", desc := "(I)I" } : Jvm.MethodName)) ∈ gt_bl := gt_in (List.mem_of_getElem? (i := 529) (by decide +kernel)) (by decide +kernel)
theorem mw_463 : (Jvm.Cond.static ({ cls := "PageMachine$Fault", name := "codeOf", desc := "(I)I" } : Jvm.MethodName)) ∈ gt_bl := gt_in (List.mem_of_getElem? (i := 530) (by decide +kernel)) (by decide +kernel)
theorem mw_465 : (Jvm.Cond.methodLink "PageMachine$Processor" (111 : Nat) ({ cls := "PageMachine$AddressSpace", name := "lastAsked", desc := "()I" } : Jvm.MethodName)) ∈ gt_bl := gt_in (List.mem_of_getElem? (i := 532) (by decide +kernel)) (by decide +kernel)
theorem mw_466 : (Jvm.Cond.instanceMethod ({ cls := "PageMachine$AddressSpace", name := "lastAsked", desc := "()I" } : Jvm.MethodName)) ∈ gt_bl := gt_in (List.mem_of_getElem? (i := 533) (by decide +kernel)) (by decide +kernel)
theorem mw_467 : (Jvm.Cond.selects "PageMachine$AddressSpace" ({ cls := "PageMachine$AddressSpace", name := "lastAsked", desc := "()I" } : Jvm.MethodName) ({ cls := "PageMachine$AddressSpace", name := "lastAsked", desc := "()I" } : Jvm.MethodName)) ∈ gt_bl := gt_in (List.mem_of_getElem? (i := 534) (by decide +kernel)) (by decide +kernel)
theorem mw_469 : (Jvm.Cond.methodLink "PageMachine$Processor" (116 : Nat) ({ cls := "PageMachine$SystemRegisters", name := "enterFault", desc := "(IIZI)I" } : Jvm.MethodName)) ∈ gt_bl := gt_in (List.mem_of_getElem? (i := 536) (by decide +kernel)) (by decide +kernel)
theorem mw_470 : (Jvm.Cond.instanceMethod ({ cls := "PageMachine$SystemRegisters", name := "enterFault", desc := "(IIZI)I" } : Jvm.MethodName)) ∈ gt_bl := gt_in (List.mem_of_getElem? (i := 537) (by decide +kernel)) (by decide +kernel)
theorem mw_471 : (Jvm.Cond.selects "PageMachine$SystemRegisters" ({ cls := "PageMachine$SystemRegisters", name := "enterFault", desc := "(IIZI)I" } : Jvm.MethodName) ({ cls := "PageMachine$SystemRegisters", name := "enterFault", desc := "(IIZI)I" } : Jvm.MethodName)) ∈ gt_bl := gt_in (List.mem_of_getElem? (i := 538) (by decide +kernel)) (by decide +kernel)
theorem mw_473 : (Jvm.Cond.constant "PageMachine$SystemRegisters" (39 : Nat) (2147483647 : Int32)) ∈ gt_bl := gt_in (List.mem_of_getElem? (i := 540) (by decide +kernel)) (by decide +kernel)
theorem mw_474 : (Jvm.Cond.constant "PageMachine$SystemRegisters" (38 : Nat) (-2147483648 : Int32)) ∈ gt_bl := gt_in (List.mem_of_getElem? (i := 541) (by decide +kernel)) (by decide +kernel)
theorem mw_475 : (Jvm.Cond.methodLink "PageMachine$SystemRegisters" (40 : Nat) ({ cls := "PageMachine$Fault", name := "codeOf", desc := "(I)I" } : Jvm.MethodName)) ∈ gt_bl := gt_in (List.mem_of_getElem? (i := 542) (by decide +kernel)) (by decide +kernel)
theorem mw_476 : (Jvm.Cond.constant "PageMachine$SystemRegisters" (45 : Nat) (-805306493 : Int32)) ∈ gt_bl := gt_in (List.mem_of_getElem? (i := 543) (by decide +kernel)) (by decide +kernel)
theorem mw_477 : (Jvm.Cond.methodLink "PageMachine$SystemRegisters" (46 : Nat) ({ cls := "PageMachine$Fault", name := "coprocessorOf", desc := "(I)I" } : Jvm.MethodName)) ∈ gt_bl := gt_in (List.mem_of_getElem? (i := 544) (by decide +kernel)) (by decide +kernel)
theorem mw_478 : (Jvm.Cond.static ({ cls := "PageMachine$Fault", name := "coprocessorOf", desc := "(I)I" } : Jvm.MethodName)) ∈ gt_bl := gt_in (List.mem_of_getElem? (i := 545) (by decide +kernel)) (by decide +kernel)
theorem mw_480 : (Jvm.Cond.methodLink "PageMachine$SystemRegisters" (49 : Nat) ({ cls := "PageMachine$SystemRegisters", name := "noteAddress", desc := "(II)V" } : Jvm.MethodName)) ∈ gt_bl := gt_in (List.mem_of_getElem? (i := 547) (by decide +kernel)) (by decide +kernel)
theorem mw_482 : (Jvm.Cond.instanceMethod ({ cls := "PageMachine$SystemRegisters", name := "noteAddress", desc := "(II)V" } : Jvm.MethodName)) ∈ gt_bl := gt_in (List.mem_of_getElem? (i := 549) (by decide +kernel)) (by decide +kernel)
theorem mw_484 : (Jvm.Cond.methodLink "PageMachine$SystemRegisters" (53 : Nat) ({ cls := "PageMachine$Fault", name := "isRefill", desc := "(I)Z" } : Jvm.MethodName)) ∈ gt_bl := gt_in (List.mem_of_getElem? (i := 551) (by decide +kernel)) (by decide +kernel)
theorem mw_485 : (Jvm.Cond.static ({ cls := "PageMachine$Fault", name := "isRefill", desc := "(I)Z" } : Jvm.MethodName)) ∈ gt_bl := gt_in (List.mem_of_getElem? (i := 552) (by decide +kernel)) (by decide +kernel)
theorem mw_487 : (Jvm.Cond.constant "PageMachine$SystemRegisters" (57 : Nat) (-2147483264 : Int32)) ∈ gt_bl := gt_in (List.mem_of_getElem? (i := 554) (by decide +kernel)) (by decide +kernel)
theorem mw_488 : (Jvm.Cond.methodLink "PageMachine$Processor" (120 : Nat) ({ cls := "PageMachine$Core", name := "restartAt", desc := "(I)V" } : Jvm.MethodName)) ∈ gt_bl := gt_in (List.mem_of_getElem? (i := 555) (by decide +kernel)) (by decide +kernel)
theorem mw_489 : (Jvm.Cond.methodLink "PageMachine$Processor" (82 : Nat) ({ cls := "PageMachine$Processor", name := "fetch", desc := "()I" } : Jvm.MethodName)) ∈ gt_bl := gt_in (List.mem_of_getElem? (i := 556) (by decide +kernel)) (by decide +kernel)
theorem mw_491 : (Jvm.Cond.instanceMethod ({ cls := "PageMachine$Processor", name := "fetch", desc := "()I" } : Jvm.MethodName)) ∈ gt_bl := gt_in (List.mem_of_getElem? (i := 558) (by decide +kernel)) (by decide +kernel)
theorem mw_493 : (Jvm.Cond.methodLink "PageMachine$Processor" (123 : Nat) ({ cls := "PageMachine$AddressSpace", name := "locateAligned", desc := "(III)J" } : Jvm.MethodName)) ∈ gt_bl := gt_in (List.mem_of_getElem? (i := 560) (by decide +kernel)) (by decide +kernel)
theorem mw_494 : (Jvm.Cond.instanceMethod ({ cls := "PageMachine$AddressSpace", name := "locateAligned", desc := "(III)J" } : Jvm.MethodName)) ∈ gt_bl := gt_in (List.mem_of_getElem? (i := 561) (by decide +kernel)) (by decide +kernel)
theorem mw_495 : (Jvm.Cond.selects "PageMachine$AddressSpace" ({ cls := "PageMachine$AddressSpace", name := "locateAligned", desc := "(III)J" } : Jvm.MethodName) ({ cls := "PageMachine$AddressSpace", name := "locateAligned", desc := "(III)J" } : Jvm.MethodName)) ∈ gt_bl := gt_in (List.mem_of_getElem? (i := 562) (by decide +kernel)) (by decide +kernel)
theorem mw_497 : (Jvm.Cond.methodLink "PageMachine$AddressSpace" (31 : Nat) ({ cls := "PageMachine$AddressSpace", name := "faulty", desc := "(I)J" } : Jvm.MethodName)) ∈ gt_bl := gt_in (List.mem_of_getElem? (i := 564) (by decide +kernel)) (by decide +kernel)
theorem mw_498 : (Jvm.Cond.static ({ cls := "PageMachine$AddressSpace", name := "faulty", desc := "(I)J" } : Jvm.MethodName)) ∈ gt_bl := gt_in (List.mem_of_getElem? (i := 565) (by decide +kernel)) (by decide +kernel)
theorem mw_500 : (Jvm.Cond.methodLink "PageMachine$AddressSpace" (35 : Nat) ({ cls := "PageMachine$AddressSpace", name := "locate", desc := "(II)J" } : Jvm.MethodName)) ∈ gt_bl := gt_in (List.mem_of_getElem? (i := 567) (by decide +kernel)) (by decide +kernel)
theorem mw_501 : (Jvm.Cond.instanceMethod ({ cls := "PageMachine$AddressSpace", name := "locate", desc := "(II)J" } : Jvm.MethodName)) ∈ gt_bl := gt_in (List.mem_of_getElem? (i := 568) (by decide +kernel)) (by decide +kernel)
theorem mw_502 : (Jvm.Cond.selects "PageMachine$AddressSpace" ({ cls := "PageMachine$AddressSpace", name := "locate", desc := "(II)J" } : Jvm.MethodName) ({ cls := "PageMachine$AddressSpace", name := "locate", desc := "(II)J" } : Jvm.MethodName)) ∈ gt_bl := gt_in (List.mem_of_getElem? (i := 569) (by decide +kernel)) (by decide +kernel)
theorem mw_504 : (Jvm.Cond.methodLink "PageMachine$AddressSpace" (39 : Nat) ({ cls := "PageMachine$SystemRegisters", name := "inUserMode", desc := "()Z" } : Jvm.MethodName)) ∈ gt_bl := gt_in (List.mem_of_getElem? (i := 571) (by decide +kernel)) (by decide +kernel)
theorem mw_505 : (Jvm.Cond.instanceMethod ({ cls := "PageMachine$SystemRegisters", name := "inUserMode", desc := "()Z" } : Jvm.MethodName)) ∈ gt_bl := gt_in (List.mem_of_getElem? (i := 572) (by decide +kernel)) (by decide +kernel)
theorem mw_506 : (Jvm.Cond.selects "PageMachine$SystemRegisters" ({ cls := "PageMachine$SystemRegisters", name := "inUserMode", desc := "()Z" } : Jvm.MethodName) ({ cls := "PageMachine$SystemRegisters", name := "inUserMode", desc := "()Z" } : Jvm.MethodName)) ∈ gt_bl := gt_in (List.mem_of_getElem? (i := 573) (by decide +kernel)) (by decide +kernel)
theorem mw_508 : (Jvm.Cond.constant "PageMachine$AddressSpace" (45 : Nat) (536870911 : Int32)) ∈ gt_bl := gt_in (List.mem_of_getElem? (i := 575) (by decide +kernel)) (by decide +kernel)
theorem mw_509 : (Jvm.Cond.methodLink "PageMachine$AddressSpace" (46 : Nat) ({ cls := "PageMachine$AddressSpace", name := "locateMapped", desc := "(II)J" } : Jvm.MethodName)) ∈ gt_bl := gt_in (List.mem_of_getElem? (i := 576) (by decide +kernel)) (by decide +kernel)
theorem mw_511 : (Jvm.Cond.instanceMethod ({ cls := "PageMachine$AddressSpace", name := "locateMapped", desc := "(II)J" } : Jvm.MethodName)) ∈ gt_bl := gt_in (List.mem_of_getElem? (i := 578) (by decide +kernel)) (by decide +kernel)
theorem mw_513 : (Jvm.Cond.methodLink "PageMachine$AddressSpace" (55 : Nat) ({ cls := "PageMachine$SystemRegisters", name := "read", desc := "(I)I" } : Jvm.MethodName)) ∈ gt_bl := gt_in (List.mem_of_getElem? (i := 580) (by decide +kernel)) (by decide +kernel)
theorem mw_514 : (Jvm.Cond.methodLink "PageMachine$AddressSpace" (59 : Nat) ({ cls := "PageMachine$Tlb", name := "match", desc := "(II)I" } : Jvm.MethodName)) ∈ gt_bl := gt_in (List.mem_of_getElem? (i := 581) (by decide +kernel)) (by decide +kernel)
theorem mw_515 : (Jvm.Cond.instanceMethod ({ cls := "PageMachine$Tlb", name := "match", desc := "(II)I" } : Jvm.MethodName)) ∈ gt_bl := gt_in (List.mem_of_getElem? (i := 582) (by decide +kernel)) (by decide +kernel)
theorem mw_516 : (Jvm.Cond.selects "PageMachine$Tlb" ({ cls := "PageMachine$Tlb", name := "match", desc := "(II)I" } : Jvm.MethodName) ({ cls := "PageMachine$Tlb", name := "match", desc := "(II)I" } : Jvm.MethodName)) ∈ gt_bl := gt_in (List.mem_of_getElem? (i := 583) (by decide +kernel)) (by decide +kernel)
theorem mw_518 : (Jvm.Cond.methodLink "PageMachine$AddressSpace" (65 : Nat) ({ cls := "PageMachine$Tlb", name := "halfOf", desc := "(II)I" } : Jvm.MethodName)) ∈ gt_bl := gt_in (List.mem_of_getElem? (i := 585) (by decide +kernel)) (by decide +kernel)
theorem mw_519 : (Jvm.Cond.instanceMethod ({ cls := "PageMachine$Tlb", name := "halfOf", desc := "(II)I" } : Jvm.MethodName)) ∈ gt_bl := gt_in (List.mem_of_getElem? (i := 586) (by decide +kernel)) (by decide +kernel)
theorem mw_520 : (Jvm.Cond.selects "PageMachine$Tlb" ({ cls := "PageMachine$Tlb", name := "halfOf", desc := "(II)I" } : Jvm.MethodName) ({ cls := "PageMachine$Tlb", name := "halfOf", desc := "(II)I" } : Jvm.MethodName)) ∈ gt_bl := gt_in (List.mem_of_getElem? (i := 587) (by decide +kernel)) (by decide +kernel)
theorem mw_522 : (Jvm.Cond.methodLink "PageMachine$AddressSpace" (49 : Nat) ({ cls := "PageMachine$Memory", name := "has", desc := "(J)Z" } : Jvm.MethodName)) ∈ gt_bl := gt_in (List.mem_of_getElem? (i := 589) (by decide +kernel)) (by decide +kernel)
theorem mw_523 : (Jvm.Cond.methodLink "PageMachine$Processor" (127 : Nat) ({ cls := "PageMachine$AddressSpace", name := "faultIn", desc := "(J)I" } : Jvm.MethodName)) ∈ gt_bl := gt_in (List.mem_of_getElem? (i := 590) (by decide +kernel)) (by decide +kernel)
theorem mw_524 : (Jvm.Cond.static ({ cls := "PageMachine$AddressSpace", name := "faultIn", desc := "(J)I" } : Jvm.MethodName)) ∈ gt_bl := gt_in (List.mem_of_getElem? (i := 591) (by decide +kernel)) (by decide +kernel)
theorem mw_526 : (Jvm.Cond.constantLong "PageMachine$AddressSpace" (27 : Nat) (-1 : Int64)) ∈ gt_bl := gt_in (List.mem_of_getElem? (i := 593) (by decide +kernel)) (by decide +kernel)
theorem mw_527 : (Jvm.Cond.methodLink "PageMachine$Processor" (131 : Nat) ({ cls := "PageMachine$Memory", name := "wordAt", desc := "(I)I" } : Jvm.MethodName)) ∈ gt_bl := gt_in (List.mem_of_getElem? (i := 594) (by decide +kernel)) (by decide +kernel)
theorem mw_528 : (Jvm.Cond.methodLink "PageMachine$Processor" (136 : Nat) ({ cls := "PageMachine$Core", name := "begin", desc := "(I)V" } : Jvm.MethodName)) ∈ gt_bl := gt_in (List.mem_of_getElem? (i := 595) (by decide +kernel)) (by decide +kernel)
theorem mw_529 : (Jvm.Cond.instanceMethod ({ cls := "PageMachine$Core", name := "begin", desc := "(I)V" } : Jvm.MethodName)) ∈ gt_bl := gt_in (List.mem_of_getElem? (i := 596) (by decide +kernel)) (by decide +kernel)
theorem mw_530 : (Jvm.Cond.selects "PageMachine$Core" ({ cls := "PageMachine$Core", name := "begin", desc := "(I)V" } : Jvm.MethodName) ({ cls := "PageMachine$Core", name := "begin", desc := "(I)V" } : Jvm.MethodName)) ∈ gt_bl := gt_in (List.mem_of_getElem? (i := 597) (by decide +kernel)) (by decide +kernel)
theorem mw_532 : (Jvm.Cond.methodLink "PageMachine$Processor" (86 : Nat) ({ cls := "PageMachine$Core", name := "op", desc := "()I" } : Jvm.MethodName)) ∈ gt_bl := gt_in (List.mem_of_getElem? (i := 599) (by decide +kernel)) (by decide +kernel)
theorem mw_533 : (Jvm.Cond.instanceMethod ({ cls := "PageMachine$Core", name := "op", desc := "()I" } : Jvm.MethodName)) ∈ gt_bl := gt_in (List.mem_of_getElem? (i := 600) (by decide +kernel)) (by decide +kernel)
theorem mw_534 : (Jvm.Cond.selects "PageMachine$Core" ({ cls := "PageMachine$Core", name := "op", desc := "()I" } : Jvm.MethodName) ({ cls := "PageMachine$Core", name := "op", desc := "()I" } : Jvm.MethodName)) ∈ gt_bl := gt_in (List.mem_of_getElem? (i := 601) (by decide +kernel)) (by decide +kernel)
theorem mw_536 : (Jvm.Cond.methodLink "PageMachine$Processor" (91 : Nat) ({ cls := "PageMachine$Processor", name := "perform", desc := "(I)I" } : Jvm.MethodName)) ∈ gt_bl := gt_in (List.mem_of_getElem? (i := 603) (by decide +kernel)) (by decide +kernel)
theorem mw_538 : (Jvm.Cond.instanceMethod ({ cls := "PageMachine$Processor", name := "perform", desc := "(I)I" } : Jvm.MethodName)) ∈ gt_bl := gt_in (List.mem_of_getElem? (i := 605) (by decide +kernel)) (by decide +kernel)
theorem mw_540 : (Jvm.Cond.methodLink "PageMachine$Processor" (139 : Nat) ({ cls := "PageMachine$Processor", name := "performOp0", desc := "()I" } : Jvm.MethodName)) ∈ gt_bl := gt_in (List.mem_of_getElem? (i := 607) (by decide +kernel)) (by decide +kernel)
theorem mw_542 : (Jvm.Cond.instanceMethod ({ cls := "PageMachine$Processor", name := "performOp0", desc := "()I" } : Jvm.MethodName)) ∈ gt_bl := gt_in (List.mem_of_getElem? (i := 609) (by decide +kernel)) (by decide +kernel)
theorem mw_544 : (Jvm.Cond.methodLink "PageMachine$Processor" (169 : Nat) ({ cls := "PageMachine$Core", name := "fn", desc := "()I" } : Jvm.MethodName)) ∈ gt_bl := gt_in (List.mem_of_getElem? (i := 611) (by decide +kernel)) (by decide +kernel)
theorem mw_545 : (Jvm.Cond.instanceMethod ({ cls := "PageMachine$Core", name := "fn", desc := "()I" } : Jvm.MethodName)) ∈ gt_bl := gt_in (List.mem_of_getElem? (i := 612) (by decide +kernel)) (by decide +kernel)
theorem mw_546 : (Jvm.Cond.selects "PageMachine$Core" ({ cls := "PageMachine$Core", name := "fn", desc := "()I" } : Jvm.MethodName) ({ cls := "PageMachine$Core", name := "fn", desc := "()I" } : Jvm.MethodName)) ∈ gt_bl := gt_in (List.mem_of_getElem? (i := 613) (by decide +kernel)) (by decide +kernel)
theorem mw_548 : (Jvm.Cond.methodLink "PageMachine$Processor" (172 : Nat) ({ cls := "PageMachine$Branches", name := "jumpToRegister", desc := "(Z)I" } : Jvm.MethodName)) ∈ gt_bl := gt_in (List.mem_of_getElem? (i := 615) (by decide +kernel)) (by decide +kernel)
theorem mw_549 : (Jvm.Cond.instanceMethod ({ cls := "PageMachine$Branches", name := "jumpToRegister", desc := "(Z)I" } : Jvm.MethodName)) ∈ gt_bl := gt_in (List.mem_of_getElem? (i := 616) (by decide +kernel)) (by decide +kernel)
theorem mw_550 : (Jvm.Cond.selects "PageMachine$Branches" ({ cls := "PageMachine$Branches", name := "jumpToRegister", desc := "(Z)I" } : Jvm.MethodName) ({ cls := "PageMachine$Branches", name := "jumpToRegister", desc := "(Z)I" } : Jvm.MethodName)) ∈ gt_bl := gt_in (List.mem_of_getElem? (i := 617) (by decide +kernel)) (by decide +kernel)
theorem mw_552 : (Jvm.Cond.methodLink "PageMachine$Branches" (21 : Nat) ({ cls := "PageMachine$Core", name := "s", desc := "()I" } : Jvm.MethodName)) ∈ gt_bl := gt_in (List.mem_of_getElem? (i := 619) (by decide +kernel)) (by decide +kernel)
theorem mw_553 : (Jvm.Cond.instanceMethod ({ cls := "PageMachine$Core", name := "s", desc := "()I" } : Jvm.MethodName)) ∈ gt_bl := gt_in (List.mem_of_getElem? (i := 620) (by decide +kernel)) (by decide +kernel)
theorem mw_554 : (Jvm.Cond.selects "PageMachine$Core" ({ cls := "PageMachine$Core", name := "s", desc := "()I" } : Jvm.MethodName) ({ cls := "PageMachine$Core", name := "s", desc := "()I" } : Jvm.MethodName)) ∈ gt_bl := gt_in (List.mem_of_getElem? (i := 621) (by decide +kernel)) (by decide +kernel)
theorem mw_556 : (Jvm.Cond.methodLink "PageMachine$Branches" (25 : Nat) ({ cls := "PageMachine$Core", name := "goBehindSlotTo", desc := "(I)V" } : Jvm.MethodName)) ∈ gt_bl := gt_in (List.mem_of_getElem? (i := 623) (by decide +kernel)) (by decide +kernel)
theorem mw_557 : (Jvm.Cond.instanceMethod ({ cls := "PageMachine$Core", name := "goBehindSlotTo", desc := "(I)V" } : Jvm.MethodName)) ∈ gt_bl := gt_in (List.mem_of_getElem? (i := 624) (by decide +kernel)) (by decide +kernel)
theorem mw_558 : (Jvm.Cond.selects "PageMachine$Core" ({ cls := "PageMachine$Core", name := "goBehindSlotTo", desc := "(I)V" } : Jvm.MethodName) ({ cls := "PageMachine$Core", name := "goBehindSlotTo", desc := "(I)V" } : Jvm.MethodName)) ∈ gt_bl := gt_in (List.mem_of_getElem? (i := 625) (by decide +kernel)) (by decide +kernel)
theorem mw_560 : (Jvm.Cond.methodLink "PageMachine$Branches" (29 : Nat) ({ cls := "PageMachine$Core", name := "rd", desc := "()I" } : Jvm.MethodName)) ∈ gt_bl := gt_in (List.mem_of_getElem? (i := 627) (by decide +kernel)) (by decide +kernel)
theorem mw_561 : (Jvm.Cond.instanceMethod ({ cls := "PageMachine$Core", name := "rd", desc := "()I" } : Jvm.MethodName)) ∈ gt_bl := gt_in (List.mem_of_getElem? (i := 628) (by decide +kernel)) (by decide +kernel)
theorem mw_562 : (Jvm.Cond.selects "PageMachine$Core" ({ cls := "PageMachine$Core", name := "rd", desc := "()I" } : Jvm.MethodName) ({ cls := "PageMachine$Core", name := "rd", desc := "()I" } : Jvm.MethodName)) ∈ gt_bl := gt_in (List.mem_of_getElem? (i := 629) (by decide +kernel)) (by decide +kernel)
theorem mw_564 : (Jvm.Cond.methodLink "PageMachine$Branches" (36 : Nat) ({ cls := "PageMachine$Core", name := "put", desc := "(II)I" } : Jvm.MethodName)) ∈ gt_bl := gt_in (List.mem_of_getElem? (i := 631) (by decide +kernel)) (by decide +kernel)
theorem mw_565 : (Jvm.Cond.methodLink "PageMachine$Processor" (175 : Nat) ({ cls := "PageMachine$Arithmetic", name := "performOp0", desc := "()I" } : Jvm.MethodName)) ∈ gt_bl := gt_in (List.mem_of_getElem? (i := 632) (by decide +kernel)) (by decide +kernel)
theorem mw_566 : (Jvm.Cond.instanceMethod ({ cls := "PageMachine$Arithmetic", name := "performOp0", desc := "()I" } : Jvm.MethodName)) ∈ gt_bl := gt_in (List.mem_of_getElem? (i := 633) (by decide +kernel)) (by decide +kernel)
theorem mw_567 : (Jvm.Cond.selects "PageMachine$Arithmetic" ({ cls := "PageMachine$Arithmetic", name := "performOp0", desc := "()I" } : Jvm.MethodName) ({ cls := "PageMachine$Arithmetic", name := "performOp0", desc := "()I" } : Jvm.MethodName)) ∈ gt_bl := gt_in (List.mem_of_getElem? (i := 634) (by decide +kernel)) (by decide +kernel)
theorem mw_569 : (Jvm.Cond.methodLink "PageMachine$Arithmetic" (13 : Nat) ({ cls := "PageMachine$Core", name := "fn", desc := "()I" } : Jvm.MethodName)) ∈ gt_bl := gt_in (List.mem_of_getElem? (i := 636) (by decide +kernel)) (by decide +kernel)
theorem mw_570 : (Jvm.Cond.methodLink "PageMachine$Arithmetic" (19 : Nat) ({ cls := "PageMachine$Arithmetic", name := "shift", desc := "(I)I" } : Jvm.MethodName)) ∈ gt_bl := gt_in (List.mem_of_getElem? (i := 637) (by decide +kernel)) (by decide +kernel)
theorem mw_572 : (Jvm.Cond.instanceMethod ({ cls := "PageMachine$Arithmetic", name := "shift", desc := "(I)I" } : Jvm.MethodName)) ∈ gt_bl := gt_in (List.mem_of_getElem? (i := 639) (by decide +kernel)) (by decide +kernel)
theorem mw_574 : (Jvm.Cond.methodLink "PageMachine$Arithmetic" (38 : Nat) ({ cls := "PageMachine$Core", name := "t", desc := "()I" } : Jvm.MethodName)) ∈ gt_bl := gt_in (List.mem_of_getElem? (i := 641) (by decide +kernel)) (by decide +kernel)
theorem mw_575 : (Jvm.Cond.instanceMethod ({ cls := "PageMachine$Core", name := "t", desc := "()I" } : Jvm.MethodName)) ∈ gt_bl := gt_in (List.mem_of_getElem? (i := 642) (by decide +kernel)) (by decide +kernel)
theorem mw_576 : (Jvm.Cond.selects "PageMachine$Core" ({ cls := "PageMachine$Core", name := "t", desc := "()I" } : Jvm.MethodName) ({ cls := "PageMachine$Core", name := "t", desc := "()I" } : Jvm.MethodName)) ∈ gt_bl := gt_in (List.mem_of_getElem? (i := 643) (by decide +kernel)) (by decide +kernel)
theorem mw_578 : (Jvm.Cond.methodLink "PageMachine$Arithmetic" (47 : Nat) ({ cls := "PageMachine$Core", name := "rd", desc := "()I" } : Jvm.MethodName)) ∈ gt_bl := gt_in (List.mem_of_getElem? (i := 645) (by decide +kernel)) (by decide +kernel)
theorem mw_579 : (Jvm.Cond.methodLink "PageMachine$Arithmetic" (50 : Nat) ({ cls := "PageMachine$Core", name := "sh", desc := "()I" } : Jvm.MethodName)) ∈ gt_bl := gt_in (List.mem_of_getElem? (i := 646) (by decide +kernel)) (by decide +kernel)
theorem mw_580 : (Jvm.Cond.instanceMethod ({ cls := "PageMachine$Core", name := "sh", desc := "()I" } : Jvm.MethodName)) ∈ gt_bl := gt_in (List.mem_of_getElem? (i := 647) (by decide +kernel)) (by decide +kernel)
theorem mw_581 : (Jvm.Cond.selects "PageMachine$Core" ({ cls := "PageMachine$Core", name := "sh", desc := "()I" } : Jvm.MethodName) ({ cls := "PageMachine$Core", name := "sh", desc := "()I" } : Jvm.MethodName)) ∈ gt_bl := gt_in (List.mem_of_getElem? (i := 648) (by decide +kernel)) (by decide +kernel)
theorem mw_583 : (Jvm.Cond.methodLink "PageMachine$Arithmetic" (53 : Nat) ({ cls := "PageMachine$Core", name := "put", desc := "(II)I" } : Jvm.MethodName)) ∈ gt_bl := gt_in (List.mem_of_getElem? (i := 650) (by decide +kernel)) (by decide +kernel)
theorem mw_584 : (Jvm.Cond.methodLink "PageMachine$Arithmetic" (56 : Nat) ({ cls := "PageMachine$Core", name := "s", desc := "()I" } : Jvm.MethodName)) ∈ gt_bl := gt_in (List.mem_of_getElem? (i := 651) (by decide +kernel)) (by decide +kernel)
theorem mw_585 : (Jvm.Cond.methodLink "PageMachine$Arithmetic" (23 : Nat) ({ cls := "PageMachine$Arithmetic", name := "moveOrCall", desc := "(I)I" } : Jvm.MethodName)) ∈ gt_bl := gt_in (List.mem_of_getElem? (i := 652) (by decide +kernel)) (by decide +kernel)
theorem mw_587 : (Jvm.Cond.instanceMethod ({ cls := "PageMachine$Arithmetic", name := "moveOrCall", desc := "(I)I" } : Jvm.MethodName)) ∈ gt_bl := gt_in (List.mem_of_getElem? (i := 654) (by decide +kernel)) (by decide +kernel)
theorem mw_589 : (Jvm.Cond.methodLink "PageMachine$Arithmetic" (26 : Nat) ({ cls := "PageMachine$Arithmetic", name := "moveHiLo", desc := "(I)I" } : Jvm.MethodName)) ∈ gt_bl := gt_in (List.mem_of_getElem? (i := 656) (by decide +kernel)) (by decide +kernel)
theorem mw_591 : (Jvm.Cond.instanceMethod ({ cls := "PageMachine$Arithmetic", name := "moveHiLo", desc := "(I)I" } : Jvm.MethodName)) ∈ gt_bl := gt_in (List.mem_of_getElem? (i := 658) (by decide +kernel)) (by decide +kernel)
theorem mw_593 : (Jvm.Cond.methodLink "PageMachine$Arithmetic" (29 : Nat) ({ cls := "PageMachine$Arithmetic", name := "multiplyOrDivide", desc := "(I)I" } : Jvm.MethodName)) ∈ gt_bl := gt_in (List.mem_of_getElem? (i := 660) (by decide +kernel)) (by decide +kernel)
theorem mw_595 : (Jvm.Cond.instanceMethod ({ cls := "PageMachine$Arithmetic", name := "multiplyOrDivide", desc := "(I)I" } : Jvm.MethodName)) ∈ gt_bl := gt_in (List.mem_of_getElem? (i := 662) (by decide +kernel)) (by decide +kernel)
theorem mw_597 : (Jvm.Cond.methodLink "PageMachine$Arithmetic" (66 : Nat) ({ cls := "PageMachine$Arithmetic", name := "product", desc := "()J" } : Jvm.MethodName)) ∈ gt_bl := gt_in (List.mem_of_getElem? (i := 664) (by decide +kernel)) (by decide +kernel)
theorem mw_599 : (Jvm.Cond.instanceMethod ({ cls := "PageMachine$Arithmetic", name := "product", desc := "()J" } : Jvm.MethodName)) ∈ gt_bl := gt_in (List.mem_of_getElem? (i := 666) (by decide +kernel)) (by decide +kernel)
theorem mw_601 : (Jvm.Cond.methodLink "PageMachine$Arithmetic" (70 : Nat) ({ cls := "PageMachine$Core", name := "putProduct", desc := "(J)I" } : Jvm.MethodName)) ∈ gt_bl := gt_in (List.mem_of_getElem? (i := 668) (by decide +kernel)) (by decide +kernel)
theorem mw_602 : (Jvm.Cond.instanceMethod ({ cls := "PageMachine$Core", name := "putProduct", desc := "(J)I" } : Jvm.MethodName)) ∈ gt_bl := gt_in (List.mem_of_getElem? (i := 669) (by decide +kernel)) (by decide +kernel)
theorem mw_603 : (Jvm.Cond.selects "PageMachine$Core" ({ cls := "PageMachine$Core", name := "putProduct", desc := "(J)I" } : Jvm.MethodName) ({ cls := "PageMachine$Core", name := "putProduct", desc := "(J)I" } : Jvm.MethodName)) ∈ gt_bl := gt_in (List.mem_of_getElem? (i := 670) (by decide +kernel)) (by decide +kernel)
theorem mw_605 : (Jvm.Cond.methodLink "PageMachine$Arithmetic" (74 : Nat) ({ cls := "PageMachine$Arithmetic", name := "plainProduct", desc := "()J" } : Jvm.MethodName)) ∈ gt_bl := gt_in (List.mem_of_getElem? (i := 672) (by decide +kernel)) (by decide +kernel)
theorem mw_607 : (Jvm.Cond.instanceMethod ({ cls := "PageMachine$Arithmetic", name := "plainProduct", desc := "()J" } : Jvm.MethodName)) ∈ gt_bl := gt_in (List.mem_of_getElem? (i := 674) (by decide +kernel)) (by decide +kernel)
theorem mw_609 : (Jvm.Cond.methodLink "PageMachine$Arithmetic" (81 : Nat) ({ cls := "PageMachine$Arithmetic", name := "plain", desc := "(I)J" } : Jvm.MethodName)) ∈ gt_bl := gt_in (List.mem_of_getElem? (i := 676) (by decide +kernel)) (by decide +kernel)
theorem mw_610 : (Jvm.Cond.static ({ cls := "PageMachine$Arithmetic", name := "plain", desc := "(I)J" } : Jvm.MethodName)) ∈ gt_bl := gt_in (List.mem_of_getElem? (i := 677) (by decide +kernel)) (by decide +kernel)
theorem mw_612 : (Jvm.Cond.constantLong "PageMachine$Arithmetic" (117 : Nat) (4294967295 : Int64)) ∈ gt_bl := gt_in (List.mem_of_getElem? (i := 679) (by decide +kernel)) (by decide +kernel)
theorem mw_613 : (Jvm.Cond.methodLink "PageMachine$Arithmetic" (77 : Nat) ({ cls := "PageMachine$Arithmetic", name := "divide", desc := "(JJ)I" } : Jvm.MethodName)) ∈ gt_bl := gt_in (List.mem_of_getElem? (i := 680) (by decide +kernel)) (by decide +kernel)
theorem mw_615 : (Jvm.Cond.instanceMethod ({ cls := "PageMachine$Arithmetic", name := "divide", desc := "(JJ)I" } : Jvm.MethodName)) ∈ gt_bl := gt_in (List.mem_of_getElem? (i := 682) (by decide +kernel)) (by decide +kernel)
theorem mw_617 : (Jvm.Cond.methodLink "PageMachine$Arithmetic" (32 : Nat) ({ cls := "PageMachine$Arithmetic", name := "addOrCombine", desc := "(I)I" } : Jvm.MethodName)) ∈ gt_bl := gt_in (List.mem_of_getElem? (i := 684) (by decide +kernel)) (by decide +kernel)
theorem mw_619 : (Jvm.Cond.instanceMethod ({ cls := "PageMachine$Arithmetic", name := "addOrCombine", desc := "(I)I" } : Jvm.MethodName)) ∈ gt_bl := gt_in (List.mem_of_getElem? (i := 686) (by decide +kernel)) (by decide +kernel)
theorem mw_621 : (Jvm.Cond.methodLink "PageMachine$Arithmetic" (85 : Nat) ({ cls := "PageMachine$Arithmetic", name := "putChecked", desc := "(IJ)I" } : Jvm.MethodName)) ∈ gt_bl := gt_in (List.mem_of_getElem? (i := 688) (by decide +kernel)) (by decide +kernel)
theorem mw_623 : (Jvm.Cond.instanceMethod ({ cls := "PageMachine$Arithmetic", name := "putChecked", desc := "(IJ)I" } : Jvm.MethodName)) ∈ gt_bl := gt_in (List.mem_of_getElem? (i := 690) (by decide +kernel)) (by decide +kernel)
theorem mw_625 : (Jvm.Cond.methodLink "PageMachine$Arithmetic" (35 : Nat) ({ cls := "PageMachine$Arithmetic", name := "compare", desc := "(I)I" } : Jvm.MethodName)) ∈ gt_bl := gt_in (List.mem_of_getElem? (i := 692) (by decide +kernel)) (by decide +kernel)
theorem mw_627 : (Jvm.Cond.instanceMethod ({ cls := "PageMachine$Arithmetic", name := "compare", desc := "(I)I" } : Jvm.MethodName)) ∈ gt_bl := gt_in (List.mem_of_getElem? (i := 694) (by decide +kernel)) (by decide +kernel)
theorem mw_629 : (Jvm.Cond.methodLink "PageMachine$Arithmetic" (89 : Nat) ({ cls := "PageMachine$Arithmetic", name := "plainlyBelow", desc := "(II)Z" } : Jvm.MethodName)) ∈ gt_bl := gt_in (List.mem_of_getElem? (i := 696) (by decide +kernel)) (by decide +kernel)
theorem mw_630 : (Jvm.Cond.static ({ cls := "PageMachine$Arithmetic", name := "plainlyBelow", desc := "(II)Z" } : Jvm.MethodName)) ∈ gt_bl := gt_in (List.mem_of_getElem? (i := 697) (by decide +kernel)) (by decide +kernel)
theorem mw_632 : (Jvm.Cond.constant "PageMachine$Arithmetic" (119 : Nat) (-2147483648 : Int32)) ∈ gt_bl := gt_in (List.mem_of_getElem? (i := 699) (by decide +kernel)) (by decide +kernel)
theorem mw_633 : (Jvm.Cond.methodLink "PageMachine$Arithmetic" (41 : Nat) ({ cls := "PageMachine$Arithmetic", name := "trap", desc := "(II)I" } : Jvm.MethodName)) ∈ gt_bl := gt_in (List.mem_of_getElem? (i := 700) (by decide +kernel)) (by decide +kernel)
theorem mw_635 : (Jvm.Cond.instanceMethod ({ cls := "PageMachine$Arithmetic", name := "trap", desc := "(II)I" } : Jvm.MethodName)) ∈ gt_bl := gt_in (List.mem_of_getElem? (i := 702) (by decide +kernel)) (by decide +kernel)
theorem mw_637 : (Jvm.Cond.methodLink "PageMachine$Arithmetic" (99 : Nat) ({ cls := "PageMachine$Fault", name := "trapIf", desc := "(Z)I" } : Jvm.MethodName)) ∈ gt_bl := gt_in (List.mem_of_getElem? (i := 704) (by decide +kernel)) (by decide +kernel)
theorem mw_638 : (Jvm.Cond.static ({ cls := "PageMachine$Fault", name := "trapIf", desc := "(Z)I" } : Jvm.MethodName)) ∈ gt_bl := gt_in (List.mem_of_getElem? (i := 705) (by decide +kernel)) (by decide +kernel)
theorem mw_640 : (Jvm.Cond.methodLink "PageMachine$Processor" (142 : Nat) ({ cls := "PageMachine$Processor", name := "performOp1", desc := "()I" } : Jvm.MethodName)) ∈ gt_bl := gt_in (List.mem_of_getElem? (i := 707) (by decide +kernel)) (by decide +kernel)
theorem mw_642 : (Jvm.Cond.instanceMethod ({ cls := "PageMachine$Processor", name := "performOp1", desc := "()I" } : Jvm.MethodName)) ∈ gt_bl := gt_in (List.mem_of_getElem? (i := 709) (by decide +kernel)) (by decide +kernel)
theorem mw_644 : (Jvm.Cond.methodLink "PageMachine$Processor" (176 : Nat) ({ cls := "PageMachine$Core", name := "rt", desc := "()I" } : Jvm.MethodName)) ∈ gt_bl := gt_in (List.mem_of_getElem? (i := 711) (by decide +kernel)) (by decide +kernel)
end
section
theorem mw_645 : (Jvm.Cond.instanceMethod ({ cls := "PageMachine$Core", name := "rt", desc := "()I" } : Jvm.MethodName)) ∈ gt_bl := gt_in (List.mem_of_getElem? (i := 712) (by decide +kernel)) (by decide +kernel)
theorem mw_646 : (Jvm.Cond.selects "PageMachine$Core" ({ cls := "PageMachine$Core", name := "rt", desc := "()I" } : Jvm.MethodName) ({ cls := "PageMachine$Core", name := "rt", desc := "()I" } : Jvm.MethodName)) ∈ gt_bl := gt_in (List.mem_of_getElem? (i := 713) (by decide +kernel)) (by decide +kernel)
theorem mw_648 : (Jvm.Cond.methodLink "PageMachine$Processor" (179 : Nat) ({ cls := "PageMachine$Branches", name := "bySign", desc := "()I" } : Jvm.MethodName)) ∈ gt_bl := gt_in (List.mem_of_getElem? (i := 715) (by decide +kernel)) (by decide +kernel)
theorem mw_649 : (Jvm.Cond.instanceMethod ({ cls := "PageMachine$Branches", name := "bySign", desc := "()I" } : Jvm.MethodName)) ∈ gt_bl := gt_in (List.mem_of_getElem? (i := 716) (by decide +kernel)) (by decide +kernel)
theorem mw_650 : (Jvm.Cond.selects "PageMachine$Branches" ({ cls := "PageMachine$Branches", name := "bySign", desc := "()I" } : Jvm.MethodName) ({ cls := "PageMachine$Branches", name := "bySign", desc := "()I" } : Jvm.MethodName)) ∈ gt_bl := gt_in (List.mem_of_getElem? (i := 717) (by decide +kernel)) (by decide +kernel)
theorem mw_652 : (Jvm.Cond.methodLink "PageMachine$Branches" (44 : Nat) ({ cls := "PageMachine$Core", name := "rt", desc := "()I" } : Jvm.MethodName)) ∈ gt_bl := gt_in (List.mem_of_getElem? (i := 719) (by decide +kernel)) (by decide +kernel)
theorem mw_653 : (Jvm.Cond.methodLink "PageMachine$Branches" (47 : Nat) ({ cls := "PageMachine$Branches", name := "branch", desc := "(ZZ)V" } : Jvm.MethodName)) ∈ gt_bl := gt_in (List.mem_of_getElem? (i := 720) (by decide +kernel)) (by decide +kernel)
theorem mw_655 : (Jvm.Cond.instanceMethod ({ cls := "PageMachine$Branches", name := "branch", desc := "(ZZ)V" } : Jvm.MethodName)) ∈ gt_bl := gt_in (List.mem_of_getElem? (i := 722) (by decide +kernel)) (by decide +kernel)
theorem mw_657 : (Jvm.Cond.methodLink "PageMachine$Branches" (61 : Nat) ({ cls := "PageMachine$Core", name := "signedImmediate", desc := "()I" } : Jvm.MethodName)) ∈ gt_bl := gt_in (List.mem_of_getElem? (i := 724) (by decide +kernel)) (by decide +kernel)
theorem mw_658 : (Jvm.Cond.instanceMethod ({ cls := "PageMachine$Core", name := "signedImmediate", desc := "()I" } : Jvm.MethodName)) ∈ gt_bl := gt_in (List.mem_of_getElem? (i := 725) (by decide +kernel)) (by decide +kernel)
theorem mw_659 : (Jvm.Cond.selects "PageMachine$Core" ({ cls := "PageMachine$Core", name := "signedImmediate", desc := "()I" } : Jvm.MethodName) ({ cls := "PageMachine$Core", name := "signedImmediate", desc := "()I" } : Jvm.MethodName)) ∈ gt_bl := gt_in (List.mem_of_getElem? (i := 726) (by decide +kernel)) (by decide +kernel)
theorem mw_661 : (Jvm.Cond.methodLink "PageMachine$Branches" (64 : Nat) ({ cls := "PageMachine$Core", name := "goAtOnceTo", desc := "(I)V" } : Jvm.MethodName)) ∈ gt_bl := gt_in (List.mem_of_getElem? (i := 728) (by decide +kernel)) (by decide +kernel)
theorem mw_662 : (Jvm.Cond.instanceMethod ({ cls := "PageMachine$Core", name := "goAtOnceTo", desc := "(I)V" } : Jvm.MethodName)) ∈ gt_bl := gt_in (List.mem_of_getElem? (i := 729) (by decide +kernel)) (by decide +kernel)
theorem mw_663 : (Jvm.Cond.selects "PageMachine$Core" ({ cls := "PageMachine$Core", name := "goAtOnceTo", desc := "(I)V" } : Jvm.MethodName) ({ cls := "PageMachine$Core", name := "goAtOnceTo", desc := "(I)V" } : Jvm.MethodName)) ∈ gt_bl := gt_in (List.mem_of_getElem? (i := 730) (by decide +kernel)) (by decide +kernel)
theorem mw_665 : (Jvm.Cond.methodLink "PageMachine$Processor" (182 : Nat) ({ cls := "PageMachine$Arithmetic", name := "trapImmediate", desc := "()I" } : Jvm.MethodName)) ∈ gt_bl := gt_in (List.mem_of_getElem? (i := 732) (by decide +kernel)) (by decide +kernel)
theorem mw_666 : (Jvm.Cond.instanceMethod ({ cls := "PageMachine$Arithmetic", name := "trapImmediate", desc := "()I" } : Jvm.MethodName)) ∈ gt_bl := gt_in (List.mem_of_getElem? (i := 733) (by decide +kernel)) (by decide +kernel)
theorem mw_667 : (Jvm.Cond.selects "PageMachine$Arithmetic" ({ cls := "PageMachine$Arithmetic", name := "trapImmediate", desc := "()I" } : Jvm.MethodName) ({ cls := "PageMachine$Arithmetic", name := "trapImmediate", desc := "()I" } : Jvm.MethodName)) ∈ gt_bl := gt_in (List.mem_of_getElem? (i := 734) (by decide +kernel)) (by decide +kernel)
theorem mw_669 : (Jvm.Cond.methodLink "PageMachine$Arithmetic" (93 : Nat) ({ cls := "PageMachine$Core", name := "rt", desc := "()I" } : Jvm.MethodName)) ∈ gt_bl := gt_in (List.mem_of_getElem? (i := 736) (by decide +kernel)) (by decide +kernel)
theorem mw_670 : (Jvm.Cond.methodLink "PageMachine$Arithmetic" (96 : Nat) ({ cls := "PageMachine$Core", name := "signedImmediate", desc := "()I" } : Jvm.MethodName)) ∈ gt_bl := gt_in (List.mem_of_getElem? (i := 737) (by decide +kernel)) (by decide +kernel)
theorem mw_671 : (Jvm.Cond.methodLink "PageMachine$Processor" (145 : Nat) ({ cls := "PageMachine$Branches", name := "jump", desc := "(Z)I" } : Jvm.MethodName)) ∈ gt_bl := gt_in (List.mem_of_getElem? (i := 738) (by decide +kernel)) (by decide +kernel)
theorem mw_672 : (Jvm.Cond.instanceMethod ({ cls := "PageMachine$Branches", name := "jump", desc := "(Z)I" } : Jvm.MethodName)) ∈ gt_bl := gt_in (List.mem_of_getElem? (i := 739) (by decide +kernel)) (by decide +kernel)
theorem mw_673 : (Jvm.Cond.selects "PageMachine$Branches" ({ cls := "PageMachine$Branches", name := "jump", desc := "(Z)I" } : Jvm.MethodName) ({ cls := "PageMachine$Branches", name := "jump", desc := "(Z)I" } : Jvm.MethodName)) ∈ gt_bl := gt_in (List.mem_of_getElem? (i := 740) (by decide +kernel)) (by decide +kernel)
theorem mw_675 : (Jvm.Cond.constant "PageMachine$Branches" (40 : Nat) (-268435456 : Int32)) ∈ gt_bl := gt_in (List.mem_of_getElem? (i := 742) (by decide +kernel)) (by decide +kernel)
theorem mw_676 : (Jvm.Cond.methodLink "PageMachine$Branches" (41 : Nat) ({ cls := "PageMachine$Core", name := "jumpField", desc := "()I" } : Jvm.MethodName)) ∈ gt_bl := gt_in (List.mem_of_getElem? (i := 743) (by decide +kernel)) (by decide +kernel)
theorem mw_677 : (Jvm.Cond.instanceMethod ({ cls := "PageMachine$Core", name := "jumpField", desc := "()I" } : Jvm.MethodName)) ∈ gt_bl := gt_in (List.mem_of_getElem? (i := 744) (by decide +kernel)) (by decide +kernel)
theorem mw_678 : (Jvm.Cond.selects "PageMachine$Core" ({ cls := "PageMachine$Core", name := "jumpField", desc := "()I" } : Jvm.MethodName) ({ cls := "PageMachine$Core", name := "jumpField", desc := "()I" } : Jvm.MethodName)) ∈ gt_bl := gt_in (List.mem_of_getElem? (i := 745) (by decide +kernel)) (by decide +kernel)
theorem mw_680 : (Jvm.Cond.constant "PageMachine$Core" (43 : Nat) (67108863 : Int32)) ∈ gt_bl := gt_in (List.mem_of_getElem? (i := 747) (by decide +kernel)) (by decide +kernel)
theorem mw_681 : (Jvm.Cond.methodLink "PageMachine$Processor" (149 : Nat) ({ cls := "PageMachine$Branches", name := "byComparison", desc := "()I" } : Jvm.MethodName)) ∈ gt_bl := gt_in (List.mem_of_getElem? (i := 748) (by decide +kernel)) (by decide +kernel)
theorem mw_682 : (Jvm.Cond.instanceMethod ({ cls := "PageMachine$Branches", name := "byComparison", desc := "()I" } : Jvm.MethodName)) ∈ gt_bl := gt_in (List.mem_of_getElem? (i := 749) (by decide +kernel)) (by decide +kernel)
theorem mw_683 : (Jvm.Cond.selects "PageMachine$Branches" ({ cls := "PageMachine$Branches", name := "byComparison", desc := "()I" } : Jvm.MethodName) ({ cls := "PageMachine$Branches", name := "byComparison", desc := "()I" } : Jvm.MethodName)) ∈ gt_bl := gt_in (List.mem_of_getElem? (i := 750) (by decide +kernel)) (by decide +kernel)
theorem mw_685 : (Jvm.Cond.methodLink "PageMachine$Branches" (51 : Nat) ({ cls := "PageMachine$Core", name := "op", desc := "()I" } : Jvm.MethodName)) ∈ gt_bl := gt_in (List.mem_of_getElem? (i := 752) (by decide +kernel)) (by decide +kernel)
theorem mw_686 : (Jvm.Cond.methodLink "PageMachine$Branches" (54 : Nat) ({ cls := "PageMachine$Core", name := "t", desc := "()I" } : Jvm.MethodName)) ∈ gt_bl := gt_in (List.mem_of_getElem? (i := 753) (by decide +kernel)) (by decide +kernel)
theorem mw_687 : (Jvm.Cond.methodLink "PageMachine$Branches" (57 : Nat) ({ cls := "PageMachine$Branches", name := "holds", desc := "(III)Z" } : Jvm.MethodName)) ∈ gt_bl := gt_in (List.mem_of_getElem? (i := 754) (by decide +kernel)) (by decide +kernel)
theorem mw_688 : (Jvm.Cond.static ({ cls := "PageMachine$Branches", name := "holds", desc := "(III)Z" } : Jvm.MethodName)) ∈ gt_bl := gt_in (List.mem_of_getElem? (i := 755) (by decide +kernel)) (by decide +kernel)
theorem mw_690 : (Jvm.Cond.methodLink "PageMachine$Processor" (152 : Nat) ({ cls := "PageMachine$Arithmetic", name := "immediate", desc := "()I" } : Jvm.MethodName)) ∈ gt_bl := gt_in (List.mem_of_getElem? (i := 757) (by decide +kernel)) (by decide +kernel)
theorem mw_691 : (Jvm.Cond.instanceMethod ({ cls := "PageMachine$Arithmetic", name := "immediate", desc := "()I" } : Jvm.MethodName)) ∈ gt_bl := gt_in (List.mem_of_getElem? (i := 758) (by decide +kernel)) (by decide +kernel)
theorem mw_692 : (Jvm.Cond.selects "PageMachine$Arithmetic" ({ cls := "PageMachine$Arithmetic", name := "immediate", desc := "()I" } : Jvm.MethodName) ({ cls := "PageMachine$Arithmetic", name := "immediate", desc := "()I" } : Jvm.MethodName)) ∈ gt_bl := gt_in (List.mem_of_getElem? (i := 759) (by decide +kernel)) (by decide +kernel)
theorem mw_694 : (Jvm.Cond.methodLink "PageMachine$Arithmetic" (103 : Nat) ({ cls := "PageMachine$Core", name := "plainImmediate", desc := "()I" } : Jvm.MethodName)) ∈ gt_bl := gt_in (List.mem_of_getElem? (i := 761) (by decide +kernel)) (by decide +kernel)
theorem mw_695 : (Jvm.Cond.instanceMethod ({ cls := "PageMachine$Core", name := "plainImmediate", desc := "()I" } : Jvm.MethodName)) ∈ gt_bl := gt_in (List.mem_of_getElem? (i := 762) (by decide +kernel)) (by decide +kernel)
theorem mw_696 : (Jvm.Cond.selects "PageMachine$Core" ({ cls := "PageMachine$Core", name := "plainImmediate", desc := "()I" } : Jvm.MethodName) ({ cls := "PageMachine$Core", name := "plainImmediate", desc := "()I" } : Jvm.MethodName)) ∈ gt_bl := gt_in (List.mem_of_getElem? (i := 763) (by decide +kernel)) (by decide +kernel)
theorem mw_698 : (Jvm.Cond.constant "PageMachine$Core" (42 : Nat) (65535 : Int32)) ∈ gt_bl := gt_in (List.mem_of_getElem? (i := 765) (by decide +kernel)) (by decide +kernel)
theorem mw_699 : (Jvm.Cond.methodLink "PageMachine$Arithmetic" (106 : Nat) ({ cls := "PageMachine$Core", name := "op", desc := "()I" } : Jvm.MethodName)) ∈ gt_bl := gt_in (List.mem_of_getElem? (i := 766) (by decide +kernel)) (by decide +kernel)
theorem mw_700 : (Jvm.Cond.methodLink "PageMachine$Processor" (155 : Nat) ({ cls := "PageMachine$Coprocessor", name := "perform", desc := "()I" } : Jvm.MethodName)) ∈ gt_bl := gt_in (List.mem_of_getElem? (i := 767) (by decide +kernel)) (by decide +kernel)
theorem mw_701 : (Jvm.Cond.instanceMethod ({ cls := "PageMachine$Coprocessor", name := "perform", desc := "()I" } : Jvm.MethodName)) ∈ gt_bl := gt_in (List.mem_of_getElem? (i := 768) (by decide +kernel)) (by decide +kernel)
theorem mw_702 : (Jvm.Cond.selects "PageMachine$Coprocessor" ({ cls := "PageMachine$Coprocessor", name := "perform", desc := "()I" } : Jvm.MethodName) ({ cls := "PageMachine$Coprocessor", name := "perform", desc := "()I" } : Jvm.MethodName)) ∈ gt_bl := gt_in (List.mem_of_getElem? (i := 769) (by decide +kernel)) (by decide +kernel)
theorem mw_704 : (Jvm.Cond.methodLink "PageMachine$Coprocessor" (21 : Nat) ({ cls := "PageMachine$SystemRegisters", name := "mayUseSystem", desc := "()Z" } : Jvm.MethodName)) ∈ gt_bl := gt_in (List.mem_of_getElem? (i := 771) (by decide +kernel)) (by decide +kernel)
theorem mw_705 : (Jvm.Cond.instanceMethod ({ cls := "PageMachine$SystemRegisters", name := "mayUseSystem", desc := "()Z" } : Jvm.MethodName)) ∈ gt_bl := gt_in (List.mem_of_getElem? (i := 772) (by decide +kernel)) (by decide +kernel)
theorem mw_706 : (Jvm.Cond.selects "PageMachine$SystemRegisters" ({ cls := "PageMachine$SystemRegisters", name := "mayUseSystem", desc := "()Z" } : Jvm.MethodName) ({ cls := "PageMachine$SystemRegisters", name := "mayUseSystem", desc := "()Z" } : Jvm.MethodName)) ∈ gt_bl := gt_in (List.mem_of_getElem? (i := 773) (by decide +kernel)) (by decide +kernel)
theorem mw_708 : (Jvm.Cond.methodLink "PageMachine$SystemRegisters" (33 : Nat) ({ cls := "PageMachine$SystemRegisters", name := "inUserMode", desc := "()Z" } : Jvm.MethodName)) ∈ gt_bl := gt_in (List.mem_of_getElem? (i := 775) (by decide +kernel)) (by decide +kernel)
theorem mw_709 : (Jvm.Cond.constant "PageMachine$SystemRegisters" (37 : Nat) (268435456 : Int32)) ∈ gt_bl := gt_in (List.mem_of_getElem? (i := 776) (by decide +kernel)) (by decide +kernel)
theorem mw_710 : (Jvm.Cond.methodLink "PageMachine$Coprocessor" (27 : Nat) ({ cls := "PageMachine$Fault", name := "noCoprocessor", desc := "(I)I" } : Jvm.MethodName)) ∈ gt_bl := gt_in (List.mem_of_getElem? (i := 777) (by decide +kernel)) (by decide +kernel)
theorem mw_711 : (Jvm.Cond.static ({ cls := "PageMachine$Fault", name := "noCoprocessor", desc := "(I)I" } : Jvm.MethodName)) ∈ gt_bl := gt_in (List.mem_of_getElem? (i := 778) (by decide +kernel)) (by decide +kernel)
theorem mw_713 : (Jvm.Cond.methodLink "PageMachine$Coprocessor" (33 : Nat) ({ cls := "PageMachine$Core", name := "op", desc := "()I" } : Jvm.MethodName)) ∈ gt_bl := gt_in (List.mem_of_getElem? (i := 780) (by decide +kernel)) (by decide +kernel)
theorem mw_714 : (Jvm.Cond.methodLink "PageMachine$Coprocessor" (39 : Nat) ({ cls := "PageMachine$Core", name := "rs", desc := "()I" } : Jvm.MethodName)) ∈ gt_bl := gt_in (List.mem_of_getElem? (i := 781) (by decide +kernel)) (by decide +kernel)
theorem mw_715 : (Jvm.Cond.instanceMethod ({ cls := "PageMachine$Core", name := "rs", desc := "()I" } : Jvm.MethodName)) ∈ gt_bl := gt_in (List.mem_of_getElem? (i := 782) (by decide +kernel)) (by decide +kernel)
theorem mw_716 : (Jvm.Cond.selects "PageMachine$Core" ({ cls := "PageMachine$Core", name := "rs", desc := "()I" } : Jvm.MethodName) ({ cls := "PageMachine$Core", name := "rs", desc := "()I" } : Jvm.MethodName)) ∈ gt_bl := gt_in (List.mem_of_getElem? (i := 783) (by decide +kernel)) (by decide +kernel)
theorem mw_718 : (Jvm.Cond.methodLink "PageMachine$Coprocessor" (42 : Nat) ({ cls := "PageMachine$Core", name := "fn", desc := "()I" } : Jvm.MethodName)) ∈ gt_bl := gt_in (List.mem_of_getElem? (i := 785) (by decide +kernel)) (by decide +kernel)
theorem mw_719 : (Jvm.Cond.methodLink "PageMachine$Coprocessor" (45 : Nat) ({ cls := "PageMachine$Coprocessor", name := "command", desc := "(I)I" } : Jvm.MethodName)) ∈ gt_bl := gt_in (List.mem_of_getElem? (i := 786) (by decide +kernel)) (by decide +kernel)
theorem mw_721 : (Jvm.Cond.instanceMethod ({ cls := "PageMachine$Coprocessor", name := "command", desc := "(I)I" } : Jvm.MethodName)) ∈ gt_bl := gt_in (List.mem_of_getElem? (i := 788) (by decide +kernel)) (by decide +kernel)
theorem mw_723 : (Jvm.Cond.methodLink "PageMachine$Coprocessor" (54 : Nat) ({ cls := "PageMachine$SystemRegisters", name := "read", desc := "(I)I" } : Jvm.MethodName)) ∈ gt_bl := gt_in (List.mem_of_getElem? (i := 790) (by decide +kernel)) (by decide +kernel)
theorem mw_724 : (Jvm.Cond.methodLink "PageMachine$Coprocessor" (68 : Nat) ({ cls := "PageMachine$Coprocessor", name := "readEntry", desc := "(I)I" } : Jvm.MethodName)) ∈ gt_bl := gt_in (List.mem_of_getElem? (i := 791) (by decide +kernel)) (by decide +kernel)
theorem mw_726 : (Jvm.Cond.instanceMethod ({ cls := "PageMachine$Coprocessor", name := "readEntry", desc := "(I)I" } : Jvm.MethodName)) ∈ gt_bl := gt_in (List.mem_of_getElem? (i := 793) (by decide +kernel)) (by decide +kernel)
theorem mw_728 : (Jvm.Cond.methodLink "PageMachine$Coprocessor" (84 : Nat) ({ cls := "PageMachine$Tlb", name := "globalOf", desc := "(I)I" } : Jvm.MethodName)) ∈ gt_bl := gt_in (List.mem_of_getElem? (i := 795) (by decide +kernel)) (by decide +kernel)
theorem mw_729 : (Jvm.Cond.instanceMethod ({ cls := "PageMachine$Tlb", name := "globalOf", desc := "(I)I" } : Jvm.MethodName)) ∈ gt_bl := gt_in (List.mem_of_getElem? (i := 796) (by decide +kernel)) (by decide +kernel)
theorem mw_730 : (Jvm.Cond.selects "PageMachine$Tlb" ({ cls := "PageMachine$Tlb", name := "globalOf", desc := "(I)I" } : Jvm.MethodName) ({ cls := "PageMachine$Tlb", name := "globalOf", desc := "(I)I" } : Jvm.MethodName)) ∈ gt_bl := gt_in (List.mem_of_getElem? (i := 797) (by decide +kernel)) (by decide +kernel)
theorem mw_732 : (Jvm.Cond.methodLink "PageMachine$Coprocessor" (89 : Nat) ({ cls := "PageMachine$Tlb", name := "pageOf", desc := "(I)I" } : Jvm.MethodName)) ∈ gt_bl := gt_in (List.mem_of_getElem? (i := 799) (by decide +kernel)) (by decide +kernel)
theorem mw_733 : (Jvm.Cond.instanceMethod ({ cls := "PageMachine$Tlb", name := "pageOf", desc := "(I)I" } : Jvm.MethodName)) ∈ gt_bl := gt_in (List.mem_of_getElem? (i := 800) (by decide +kernel)) (by decide +kernel)
theorem mw_734 : (Jvm.Cond.selects "PageMachine$Tlb" ({ cls := "PageMachine$Tlb", name := "pageOf", desc := "(I)I" } : Jvm.MethodName) ({ cls := "PageMachine$Tlb", name := "pageOf", desc := "(I)I" } : Jvm.MethodName)) ∈ gt_bl := gt_in (List.mem_of_getElem? (i := 801) (by decide +kernel)) (by decide +kernel)
theorem mw_736 : (Jvm.Cond.methodLink "PageMachine$Coprocessor" (92 : Nat) ({ cls := "PageMachine$Tlb", name := "asidOf", desc := "(I)I" } : Jvm.MethodName)) ∈ gt_bl := gt_in (List.mem_of_getElem? (i := 803) (by decide +kernel)) (by decide +kernel)
theorem mw_737 : (Jvm.Cond.instanceMethod ({ cls := "PageMachine$Tlb", name := "asidOf", desc := "(I)I" } : Jvm.MethodName)) ∈ gt_bl := gt_in (List.mem_of_getElem? (i := 804) (by decide +kernel)) (by decide +kernel)
theorem mw_738 : (Jvm.Cond.selects "PageMachine$Tlb" ({ cls := "PageMachine$Tlb", name := "asidOf", desc := "(I)I" } : Jvm.MethodName) ({ cls := "PageMachine$Tlb", name := "asidOf", desc := "(I)I" } : Jvm.MethodName)) ∈ gt_bl := gt_in (List.mem_of_getElem? (i := 805) (by decide +kernel)) (by decide +kernel)
theorem mw_740 : (Jvm.Cond.methodLink "PageMachine$Coprocessor" (95 : Nat) ({ cls := "PageMachine$Tlb", name := "halfOf", desc := "(II)I" } : Jvm.MethodName)) ∈ gt_bl := gt_in (List.mem_of_getElem? (i := 807) (by decide +kernel)) (by decide +kernel)
theorem mw_741 : (Jvm.Cond.methodLink "PageMachine$Coprocessor" (98 : Nat) ({ cls := "PageMachine$SystemRegisters", name := "loadEntry", desc := "(III)V" } : Jvm.MethodName)) ∈ gt_bl := gt_in (List.mem_of_getElem? (i := 808) (by decide +kernel)) (by decide +kernel)
theorem mw_742 : (Jvm.Cond.instanceMethod ({ cls := "PageMachine$SystemRegisters", name := "loadEntry", desc := "(III)V" } : Jvm.MethodName)) ∈ gt_bl := gt_in (List.mem_of_getElem? (i := 809) (by decide +kernel)) (by decide +kernel)
theorem mw_743 : (Jvm.Cond.selects "PageMachine$SystemRegisters" ({ cls := "PageMachine$SystemRegisters", name := "loadEntry", desc := "(III)V" } : Jvm.MethodName) ({ cls := "PageMachine$SystemRegisters", name := "loadEntry", desc := "(III)V" } : Jvm.MethodName)) ∈ gt_bl := gt_in (List.mem_of_getElem? (i := 810) (by decide +kernel)) (by decide +kernel)
theorem mw_745 : (Jvm.Cond.methodLink "PageMachine$Coprocessor" (71 : Nat) ({ cls := "PageMachine$Coprocessor", name := "writeEntry", desc := "(I)I" } : Jvm.MethodName)) ∈ gt_bl := gt_in (List.mem_of_getElem? (i := 812) (by decide +kernel)) (by decide +kernel)
theorem mw_747 : (Jvm.Cond.instanceMethod ({ cls := "PageMachine$Coprocessor", name := "writeEntry", desc := "(I)I" } : Jvm.MethodName)) ∈ gt_bl := gt_in (List.mem_of_getElem? (i := 814) (by decide +kernel)) (by decide +kernel)
theorem mw_749 : (Jvm.Cond.methodLink "PageMachine$Coprocessor" (102 : Nat) ({ cls := "PageMachine$Tlb", name := "fill", desc := "(IIII)V" } : Jvm.MethodName)) ∈ gt_bl := gt_in (List.mem_of_getElem? (i := 816) (by decide +kernel)) (by decide +kernel)
theorem mw_750 : (Jvm.Cond.instanceMethod ({ cls := "PageMachine$Tlb", name := "fill", desc := "(IIII)V" } : Jvm.MethodName)) ∈ gt_bl := gt_in (List.mem_of_getElem? (i := 817) (by decide +kernel)) (by decide +kernel)
theorem mw_751 : (Jvm.Cond.selects "PageMachine$Tlb" ({ cls := "PageMachine$Tlb", name := "fill", desc := "(IIII)V" } : Jvm.MethodName) ({ cls := "PageMachine$Tlb", name := "fill", desc := "(IIII)V" } : Jvm.MethodName)) ∈ gt_bl := gt_in (List.mem_of_getElem? (i := 818) (by decide +kernel)) (by decide +kernel)
theorem mw_753 : (Jvm.Cond.constant "PageMachine$Tlb" (27 : Nat) (67108862 : Int32)) ∈ gt_bl := gt_in (List.mem_of_getElem? (i := 820) (by decide +kernel)) (by decide +kernel)
theorem mw_754 : (Jvm.Cond.methodLink "PageMachine$Coprocessor" (74 : Nat) ({ cls := "PageMachine$Coprocessor", name := "probe", desc := "()I" } : Jvm.MethodName)) ∈ gt_bl := gt_in (List.mem_of_getElem? (i := 821) (by decide +kernel)) (by decide +kernel)
theorem mw_756 : (Jvm.Cond.instanceMethod ({ cls := "PageMachine$Coprocessor", name := "probe", desc := "()I" } : Jvm.MethodName)) ∈ gt_bl := gt_in (List.mem_of_getElem? (i := 823) (by decide +kernel)) (by decide +kernel)
theorem mw_758 : (Jvm.Cond.methodLink "PageMachine$Coprocessor" (106 : Nat) ({ cls := "PageMachine$Tlb", name := "match", desc := "(II)I" } : Jvm.MethodName)) ∈ gt_bl := gt_in (List.mem_of_getElem? (i := 825) (by decide +kernel)) (by decide +kernel)
theorem mw_759 : (Jvm.Cond.methodLink "PageMachine$Coprocessor" (109 : Nat) ({ cls := "PageMachine$SystemRegisters", name := "noteProbe", desc := "(I)V" } : Jvm.MethodName)) ∈ gt_bl := gt_in (List.mem_of_getElem? (i := 826) (by decide +kernel)) (by decide +kernel)
theorem mw_760 : (Jvm.Cond.instanceMethod ({ cls := "PageMachine$SystemRegisters", name := "noteProbe", desc := "(I)V" } : Jvm.MethodName)) ∈ gt_bl := gt_in (List.mem_of_getElem? (i := 827) (by decide +kernel)) (by decide +kernel)
theorem mw_761 : (Jvm.Cond.selects "PageMachine$SystemRegisters" ({ cls := "PageMachine$SystemRegisters", name := "noteProbe", desc := "(I)V" } : Jvm.MethodName) ({ cls := "PageMachine$SystemRegisters", name := "noteProbe", desc := "(I)V" } : Jvm.MethodName)) ∈ gt_bl := gt_in (List.mem_of_getElem? (i := 828) (by decide +kernel)) (by decide +kernel)
theorem mw_763 : (Jvm.Cond.methodLink "PageMachine$Coprocessor" (81 : Nat) ({ cls := "PageMachine$Coprocessor", name := "leaveFault", desc := "()I" } : Jvm.MethodName)) ∈ gt_bl := gt_in (List.mem_of_getElem? (i := 830) (by decide +kernel)) (by decide +kernel)
theorem mw_765 : (Jvm.Cond.instanceMethod ({ cls := "PageMachine$Coprocessor", name := "leaveFault", desc := "()I" } : Jvm.MethodName)) ∈ gt_bl := gt_in (List.mem_of_getElem? (i := 832) (by decide +kernel)) (by decide +kernel)
theorem mw_767 : (Jvm.Cond.methodLink "PageMachine$Coprocessor" (113 : Nat) ({ cls := "PageMachine$SystemRegisters", name := "leaveFault", desc := "()I" } : Jvm.MethodName)) ∈ gt_bl := gt_in (List.mem_of_getElem? (i := 834) (by decide +kernel)) (by decide +kernel)
theorem mw_768 : (Jvm.Cond.instanceMethod ({ cls := "PageMachine$SystemRegisters", name := "leaveFault", desc := "()I" } : Jvm.MethodName)) ∈ gt_bl := gt_in (List.mem_of_getElem? (i := 835) (by decide +kernel)) (by decide +kernel)
theorem mw_769 : (Jvm.Cond.selects "PageMachine$SystemRegisters" ({ cls := "PageMachine$SystemRegisters", name := "leaveFault", desc := "()I" } : Jvm.MethodName) ({ cls := "PageMachine$SystemRegisters", name := "leaveFault", desc := "()I" } : Jvm.MethodName)) ∈ gt_bl := gt_in (List.mem_of_getElem? (i := 836) (by decide +kernel)) (by decide +kernel)
theorem mw_771 : (Jvm.Cond.methodLink "PageMachine$Coprocessor" (114 : Nat) ({ cls := "PageMachine$Core", name := "goAtOnceTo", desc := "(I)V" } : Jvm.MethodName)) ∈ gt_bl := gt_in (List.mem_of_getElem? (i := 838) (by decide +kernel)) (by decide +kernel)
theorem mw_772 : (Jvm.Cond.methodLink "PageMachine$Coprocessor" (48 : Nat) ({ cls := "PageMachine$Core", name := "rt", desc := "()I" } : Jvm.MethodName)) ∈ gt_bl := gt_in (List.mem_of_getElem? (i := 839) (by decide +kernel)) (by decide +kernel)
theorem mw_773 : (Jvm.Cond.methodLink "PageMachine$Coprocessor" (51 : Nat) ({ cls := "PageMachine$Core", name := "rd", desc := "()I" } : Jvm.MethodName)) ∈ gt_bl := gt_in (List.mem_of_getElem? (i := 840) (by decide +kernel)) (by decide +kernel)
theorem mw_774 : (Jvm.Cond.methodLink "PageMachine$Coprocessor" (57 : Nat) ({ cls := "PageMachine$Core", name := "put", desc := "(II)I" } : Jvm.MethodName)) ∈ gt_bl := gt_in (List.mem_of_getElem? (i := 841) (by decide +kernel)) (by decide +kernel)
theorem mw_775 : (Jvm.Cond.methodLink "PageMachine$Coprocessor" (61 : Nat) ({ cls := "PageMachine$Core", name := "t", desc := "()I" } : Jvm.MethodName)) ∈ gt_bl := gt_in (List.mem_of_getElem? (i := 842) (by decide +kernel)) (by decide +kernel)
theorem mw_776 : (Jvm.Cond.methodLink "PageMachine$Coprocessor" (64 : Nat) ({ cls := "PageMachine$SystemRegisters", name := "write", desc := "(II)V" } : Jvm.MethodName)) ∈ gt_bl := gt_in (List.mem_of_getElem? (i := 843) (by decide +kernel)) (by decide +kernel)
theorem mw_777 : (Jvm.Cond.methodLink "PageMachine$Processor" (157 : Nat) ({ cls := "PageMachine$Fault", name := "noCoprocessor", desc := "(I)I" } : Jvm.MethodName)) ∈ gt_bl := gt_in (List.mem_of_getElem? (i := 844) (by decide +kernel)) (by decide +kernel)
theorem mw_778 : (Jvm.Cond.methodLink "PageMachine$Processor" (160 : Nat) ({ cls := "PageMachine$Arithmetic", name := "performOp1C", desc := "()I" } : Jvm.MethodName)) ∈ gt_bl := gt_in (List.mem_of_getElem? (i := 845) (by decide +kernel)) (by decide +kernel)
theorem mw_779 : (Jvm.Cond.instanceMethod ({ cls := "PageMachine$Arithmetic", name := "performOp1C", desc := "()I" } : Jvm.MethodName)) ∈ gt_bl := gt_in (List.mem_of_getElem? (i := 846) (by decide +kernel)) (by decide +kernel)
theorem mw_780 : (Jvm.Cond.selects "PageMachine$Arithmetic" ({ cls := "PageMachine$Arithmetic", name := "performOp1C", desc := "()I" } : Jvm.MethodName) ({ cls := "PageMachine$Arithmetic", name := "performOp1C", desc := "()I" } : Jvm.MethodName)) ∈ gt_bl := gt_in (List.mem_of_getElem? (i := 847) (by decide +kernel)) (by decide +kernel)
theorem mw_782 : (Jvm.Cond.methodLink "PageMachine$Arithmetic" (109 : Nat) ({ cls := "PageMachine$Arithmetic", name := "hiLo", desc := "()J" } : Jvm.MethodName)) ∈ gt_bl := gt_in (List.mem_of_getElem? (i := 849) (by decide +kernel)) (by decide +kernel)
theorem mw_784 : (Jvm.Cond.instanceMethod ({ cls := "PageMachine$Arithmetic", name := "hiLo", desc := "()J" } : Jvm.MethodName)) ∈ gt_bl := gt_in (List.mem_of_getElem? (i := 851) (by decide +kernel)) (by decide +kernel)
theorem mw_786 : (Jvm.Cond.methodLink "PageMachine$Arithmetic" (112 : Nat) ({ cls := "java/lang/Integer", name := "numberOfLeadingZeros", desc := "(I)I" } : Jvm.MethodName)) ∈ gt_bl := gt_in (List.mem_of_getElem? (i := 853) (by decide +kernel)) (by decide +kernel)
theorem mw_787 : (Jvm.Cond.static ({ cls := "java/lang/Integer", name := "numberOfLeadingZeros", desc := "(I)I" } : Jvm.MethodName)) ∈ gt_bl := gt_in (List.mem_of_getElem? (i := 854) (by decide +kernel)) (by decide +kernel)
theorem mw_789 : (Jvm.Cond.constant "java/lang/Integer" (264 : Nat) (65536 : Int32)) ∈ gt_bl := gt_in (List.mem_of_getElem? (i := 856) (by decide +kernel)) (by decide +kernel)
theorem mw_790 : (Jvm.Cond.methodLink "PageMachine$Processor" (163 : Nat) ({ cls := "PageMachine$LoadsAndStores", name := "load", desc := "()I" } : Jvm.MethodName)) ∈ gt_bl := gt_in (List.mem_of_getElem? (i := 857) (by decide +kernel)) (by decide +kernel)
theorem mw_791 : (Jvm.Cond.instanceMethod ({ cls := "PageMachine$LoadsAndStores", name := "load", desc := "()I" } : Jvm.MethodName)) ∈ gt_bl := gt_in (List.mem_of_getElem? (i := 858) (by decide +kernel)) (by decide +kernel)
theorem mw_792 : (Jvm.Cond.selects "PageMachine$LoadsAndStores" ({ cls := "PageMachine$LoadsAndStores", name := "load", desc := "()I" } : Jvm.MethodName) ({ cls := "PageMachine$LoadsAndStores", name := "load", desc := "()I" } : Jvm.MethodName)) ∈ gt_bl := gt_in (List.mem_of_getElem? (i := 859) (by decide +kernel)) (by decide +kernel)
theorem mw_794 : (Jvm.Cond.methodLink "PageMachine$LoadsAndStores" (21 : Nat) ({ cls := "PageMachine$Core", name := "op", desc := "()I" } : Jvm.MethodName)) ∈ gt_bl := gt_in (List.mem_of_getElem? (i := 861) (by decide +kernel)) (by decide +kernel)
theorem mw_795 : (Jvm.Cond.methodLink "PageMachine$LoadsAndStores" (27 : Nat) ({ cls := "PageMachine$LoadsAndStores", name := "address", desc := "()I" } : Jvm.MethodName)) ∈ gt_bl := gt_in (List.mem_of_getElem? (i := 862) (by decide +kernel)) (by decide +kernel)
theorem mw_797 : (Jvm.Cond.instanceMethod ({ cls := "PageMachine$LoadsAndStores", name := "address", desc := "()I" } : Jvm.MethodName)) ∈ gt_bl := gt_in (List.mem_of_getElem? (i := 864) (by decide +kernel)) (by decide +kernel)
theorem mw_799 : (Jvm.Cond.methodLink "PageMachine$LoadsAndStores" (79 : Nat) ({ cls := "PageMachine$Core", name := "s", desc := "()I" } : Jvm.MethodName)) ∈ gt_bl := gt_in (List.mem_of_getElem? (i := 866) (by decide +kernel)) (by decide +kernel)
theorem mw_800 : (Jvm.Cond.methodLink "PageMachine$LoadsAndStores" (82 : Nat) ({ cls := "PageMachine$Core", name := "signedImmediate", desc := "()I" } : Jvm.MethodName)) ∈ gt_bl := gt_in (List.mem_of_getElem? (i := 867) (by decide +kernel)) (by decide +kernel)
theorem mw_801 : (Jvm.Cond.methodLink "PageMachine$LoadsAndStores" (32 : Nat) ({ cls := "PageMachine$LoadsAndStores", name := "alignmentOf", desc := "(I)I" } : Jvm.MethodName)) ∈ gt_bl := gt_in (List.mem_of_getElem? (i := 868) (by decide +kernel)) (by decide +kernel)
theorem mw_802 : (Jvm.Cond.static ({ cls := "PageMachine$LoadsAndStores", name := "alignmentOf", desc := "(I)I" } : Jvm.MethodName)) ∈ gt_bl := gt_in (List.mem_of_getElem? (i := 869) (by decide +kernel)) (by decide +kernel)
theorem mw_804 : (Jvm.Cond.methodLink "PageMachine$LoadsAndStores" (36 : Nat) ({ cls := "PageMachine$AddressSpace", name := "locateAligned", desc := "(III)J" } : Jvm.MethodName)) ∈ gt_bl := gt_in (List.mem_of_getElem? (i := 871) (by decide +kernel)) (by decide +kernel)
theorem mw_805 : (Jvm.Cond.methodLink "PageMachine$LoadsAndStores" (40 : Nat) ({ cls := "PageMachine$AddressSpace", name := "faultIn", desc := "(J)I" } : Jvm.MethodName)) ∈ gt_bl := gt_in (List.mem_of_getElem? (i := 872) (by decide +kernel)) (by decide +kernel)
theorem mw_806 : (Jvm.Cond.methodLink "PageMachine$LoadsAndStores" (48 : Nat) ({ cls := "PageMachine$Core", name := "rt", desc := "()I" } : Jvm.MethodName)) ∈ gt_bl := gt_in (List.mem_of_getElem? (i := 873) (by decide +kernel)) (by decide +kernel)
theorem mw_807 : (Jvm.Cond.methodLink "PageMachine$LoadsAndStores" (51 : Nat) ({ cls := "PageMachine$Memory", name := "wordAt", desc := "(I)I" } : Jvm.MethodName)) ∈ gt_bl := gt_in (List.mem_of_getElem? (i := 874) (by decide +kernel)) (by decide +kernel)
theorem mw_808 : (Jvm.Cond.methodLink "PageMachine$LoadsAndStores" (56 : Nat) ({ cls := "PageMachine$Core", name := "t", desc := "()I" } : Jvm.MethodName)) ∈ gt_bl := gt_in (List.mem_of_getElem? (i := 875) (by decide +kernel)) (by decide +kernel)
theorem mw_809 : (Jvm.Cond.methodLink "PageMachine$LoadsAndStores" (59 : Nat) ({ cls := "PageMachine$LoadsAndStores", name := "loaded", desc := "(IIII)I" } : Jvm.MethodName)) ∈ gt_bl := gt_in (List.mem_of_getElem? (i := 876) (by decide +kernel)) (by decide +kernel)
theorem mw_810 : (Jvm.Cond.static ({ cls := "PageMachine$LoadsAndStores", name := "loaded", desc := "(IIII)I" } : Jvm.MethodName)) ∈ gt_bl := gt_in (List.mem_of_getElem? (i := 877) (by decide +kernel)) (by decide +kernel)
theorem mw_812 : (Jvm.Cond.methodLink "PageMachine$LoadsAndStores" (63 : Nat) ({ cls := "PageMachine$Core", name := "put", desc := "(II)I" } : Jvm.MethodName)) ∈ gt_bl := gt_in (List.mem_of_getElem? (i := 879) (by decide +kernel)) (by decide +kernel)
theorem mw_813 : (Jvm.Cond.methodLink "PageMachine$Processor" (166 : Nat) ({ cls := "PageMachine$LoadsAndStores", name := "store", desc := "()I" } : Jvm.MethodName)) ∈ gt_bl := gt_in (List.mem_of_getElem? (i := 880) (by decide +kernel)) (by decide +kernel)
theorem mw_814 : (Jvm.Cond.instanceMethod ({ cls := "PageMachine$LoadsAndStores", name := "store", desc := "()I" } : Jvm.MethodName)) ∈ gt_bl := gt_in (List.mem_of_getElem? (i := 881) (by decide +kernel)) (by decide +kernel)
theorem mw_815 : (Jvm.Cond.selects "PageMachine$LoadsAndStores" ({ cls := "PageMachine$LoadsAndStores", name := "store", desc := "()I" } : Jvm.MethodName) ({ cls := "PageMachine$LoadsAndStores", name := "store", desc := "()I" } : Jvm.MethodName)) ∈ gt_bl := gt_in (List.mem_of_getElem? (i := 882) (by decide +kernel)) (by decide +kernel)
theorem mw_817 : (Jvm.Cond.methodLink "PageMachine$LoadsAndStores" (67 : Nat) ({ cls := "PageMachine$LoadsAndStores", name := "stored", desc := "(IIII)I" } : Jvm.MethodName)) ∈ gt_bl := gt_in (List.mem_of_getElem? (i := 884) (by decide +kernel)) (by decide +kernel)
theorem mw_818 : (Jvm.Cond.static ({ cls := "PageMachine$LoadsAndStores", name := "stored", desc := "(IIII)I" } : Jvm.MethodName)) ∈ gt_bl := gt_in (List.mem_of_getElem? (i := 885) (by decide +kernel)) (by decide +kernel)
theorem mw_820 : (Jvm.Cond.methodLink "PageMachine$LoadsAndStores" (85 : Nat) ({ cls := "PageMachine$LoadsAndStores", name := "merged", desc := "(III)I" } : Jvm.MethodName)) ∈ gt_bl := gt_in (List.mem_of_getElem? (i := 887) (by decide +kernel)) (by decide +kernel)
theorem mw_821 : (Jvm.Cond.static ({ cls := "PageMachine$LoadsAndStores", name := "merged", desc := "(III)I" } : Jvm.MethodName)) ∈ gt_bl := gt_in (List.mem_of_getElem? (i := 888) (by decide +kernel)) (by decide +kernel)
theorem mw_823 : (Jvm.Cond.constant "PageMachine$LoadsAndStores" (89 : Nat) (65535 : Int32)) ∈ gt_bl := gt_in (List.mem_of_getElem? (i := 890) (by decide +kernel)) (by decide +kernel)
theorem mw_824 : (Jvm.Cond.methodLink "PageMachine$LoadsAndStores" (70 : Nat) ({ cls := "PageMachine$Memory", name := "putWord", desc := "(II)V" } : Jvm.MethodName)) ∈ gt_bl := gt_in (List.mem_of_getElem? (i := 891) (by decide +kernel)) (by decide +kernel)
theorem mw_825 : (Jvm.Cond.methodLink "PageMachine$LoadsAndStores" (74 : Nat) ({ cls := "PageMachine$LoadsAndStores", name := "endLink", desc := "()I" } : Jvm.MethodName)) ∈ gt_bl := gt_in (List.mem_of_getElem? (i := 892) (by decide +kernel)) (by decide +kernel)
theorem mw_827 : (Jvm.Cond.instanceMethod ({ cls := "PageMachine$LoadsAndStores", name := "endLink", desc := "()I" } : Jvm.MethodName)) ∈ gt_bl := gt_in (List.mem_of_getElem? (i := 894) (by decide +kernel)) (by decide +kernel)
theorem mw_829 : (Jvm.Cond.methodLink "PageMachine$Processor" (95 : Nat) ({ cls := "PageMachine$Core", name := "finish", desc := "()V" } : Jvm.MethodName)) ∈ gt_bl := gt_in (List.mem_of_getElem? (i := 896) (by decide +kernel)) (by decide +kernel)
theorem mw_830 : (Jvm.Cond.instanceMethod ({ cls := "PageMachine$Core", name := "finish", desc := "()V" } : Jvm.MethodName)) ∈ gt_bl := gt_in (List.mem_of_getElem? (i := 897) (by decide +kernel)) (by decide +kernel)
theorem mw_831 : (Jvm.Cond.selects "PageMachine$Core" ({ cls := "PageMachine$Core", name := "finish", desc := "()V" } : Jvm.MethodName) ({ cls := "PageMachine$Core", name := "finish", desc := "()V" } : Jvm.MethodName)) ∈ gt_bl := gt_in (List.mem_of_getElem? (i := 898) (by decide +kernel)) (by decide +kernel)
theorem mw_833 : (Jvm.Cond.methodLink "PageMachine$Processor" (98 : Nat) ({ cls := "PageMachine$SystemRegisters", name := "moveRandom", desc := "()V" } : Jvm.MethodName)) ∈ gt_bl := gt_in (List.mem_of_getElem? (i := 900) (by decide +kernel)) (by decide +kernel)
theorem mw_834 : (Jvm.Cond.instanceMethod ({ cls := "PageMachine$SystemRegisters", name := "moveRandom", desc := "()V" } : Jvm.MethodName)) ∈ gt_bl := gt_in (List.mem_of_getElem? (i := 901) (by decide +kernel)) (by decide +kernel)
theorem mw_835 : (Jvm.Cond.selects "PageMachine$SystemRegisters" ({ cls := "PageMachine$SystemRegisters", name := "moveRandom", desc := "()V" } : Jvm.MethodName) ({ cls := "PageMachine$SystemRegisters", name := "moveRandom", desc := "()V" } : Jvm.MethodName)) ∈ gt_bl := gt_in (List.mem_of_getElem? (i := 902) (by decide +kernel)) (by decide +kernel)
theorem mw_837 : (Jvm.Cond.methodLink "PageMachineLaw" (77 : Nat) ({ cls := "PageMachineLaw", name := "entry", desc := "(LPageMachine;II[J)I" } : Jvm.MethodName)) ∈ gt_bl := gt_in (List.mem_of_getElem? (i := 904) (by decide +kernel)) (by decide +kernel)
theorem mw_838 : (Jvm.Cond.static ({ cls := "PageMachineLaw", name := "entry", desc := "(LPageMachine;II[J)I" } : Jvm.MethodName)) ∈ gt_bl := gt_in (List.mem_of_getElem? (i := 905) (by decide +kernel)) (by decide +kernel)
theorem mw_840 : (Jvm.Cond.methodLink "PageMachineLaw" (35 : Nat) ({ cls := "PageMachine", name := "entry", desc := "(II)I" } : Jvm.MethodName)) ∈ gt_bl := gt_in (List.mem_of_getElem? (i := 907) (by decide +kernel)) (by decide +kernel)
theorem mw_841 : (Jvm.Cond.instanceMethod ({ cls := "PageMachine", name := "entry", desc := "(II)I" } : Jvm.MethodName)) ∈ gt_bl := gt_in (List.mem_of_getElem? (i := 908) (by decide +kernel)) (by decide +kernel)
theorem mw_842 : (Jvm.Cond.selects "PageMachine" ({ cls := "PageMachine", name := "entry", desc := "(II)I" } : Jvm.MethodName) ({ cls := "PageMachine", name := "entry", desc := "(II)I" } : Jvm.MethodName)) ∈ gt_bl := gt_in (List.mem_of_getElem? (i := 909) (by decide +kernel)) (by decide +kernel)
theorem mw_845 : (Jvm.Cond.methodLink "PageMachine" (118 : Nat) ({ cls := "PageMachine$Tlb", name := "pageOf", desc := "(I)I" } : Jvm.MethodName)) ∈ gt_bl := gt_in (List.mem_of_getElem? (i := 912) (by decide +kernel)) (by decide +kernel)
theorem mw_846 : (Jvm.Cond.methodLink "PageMachine" (121 : Nat) ({ cls := "PageMachine$Tlb", name := "asidOf", desc := "(I)I" } : Jvm.MethodName)) ∈ gt_bl := gt_in (List.mem_of_getElem? (i := 913) (by decide +kernel)) (by decide +kernel)
theorem mw_847 : (Jvm.Cond.methodLink "PageMachine" (124 : Nat) ({ cls := "PageMachine$Tlb", name := "globalOf", desc := "(I)I" } : Jvm.MethodName)) ∈ gt_bl := gt_in (List.mem_of_getElem? (i := 914) (by decide +kernel)) (by decide +kernel)
theorem mw_848 : (Jvm.Cond.methodLink "PageMachine" (127 : Nat) ({ cls := "PageMachine$Tlb", name := "halfOf", desc := "(II)I" } : Jvm.MethodName)) ∈ gt_bl := gt_in (List.mem_of_getElem? (i := 915) (by decide +kernel)) (by decide +kernel)
theorem mw_849 : (Jvm.Cond.methodLink "PageMachineLaw" (80 : Nat) ({ cls := "PageMachineLaw", name := "translate", desc := "(LPageMachine;II[J)I" } : Jvm.MethodName)) ∈ gt_bl := gt_in (List.mem_of_getElem? (i := 916) (by decide +kernel)) (by decide +kernel)
theorem mw_850 : (Jvm.Cond.static ({ cls := "PageMachineLaw", name := "translate", desc := "(LPageMachine;II[J)I" } : Jvm.MethodName)) ∈ gt_bl := gt_in (List.mem_of_getElem? (i := 917) (by decide +kernel)) (by decide +kernel)
theorem mw_852 : (Jvm.Cond.methodLink "PageMachineLaw" (38 : Nat) ({ cls := "PageMachine", name := "translate", desc := "(II)J" } : Jvm.MethodName)) ∈ gt_bl := gt_in (List.mem_of_getElem? (i := 919) (by decide +kernel)) (by decide +kernel)
theorem mw_853 : (Jvm.Cond.instanceMethod ({ cls := "PageMachine", name := "translate", desc := "(II)J" } : Jvm.MethodName)) ∈ gt_bl := gt_in (List.mem_of_getElem? (i := 920) (by decide +kernel)) (by decide +kernel)
theorem mw_854 : (Jvm.Cond.selects "PageMachine" ({ cls := "PageMachine", name := "translate", desc := "(II)J" } : Jvm.MethodName) ({ cls := "PageMachine", name := "translate", desc := "(II)J" } : Jvm.MethodName)) ∈ gt_bl := gt_in (List.mem_of_getElem? (i := 921) (by decide +kernel)) (by decide +kernel)
theorem mw_857 : (Jvm.Cond.methodLink "PageMachine" (132 : Nat) ({ cls := "PageMachine$AddressSpace", name := "locate", desc := "(II)J" } : Jvm.MethodName)) ∈ gt_bl := gt_in (List.mem_of_getElem? (i := 924) (by decide +kernel)) (by decide +kernel)
theorem mw_858 : (Jvm.Cond.methodLink "PageMachine" (136 : Nat) ({ cls := "PageMachine$AddressSpace", name := "faultIn", desc := "(J)I" } : Jvm.MethodName)) ∈ gt_bl := gt_in (List.mem_of_getElem? (i := 925) (by decide +kernel)) (by decide +kernel)
theorem mw_859 : (Jvm.Cond.methodLink "PageMachine" (140 : Nat) ({ cls := "PageMachine$Fault", name := "isRefill", desc := "(I)Z" } : Jvm.MethodName)) ∈ gt_bl := gt_in (List.mem_of_getElem? (i := 926) (by decide +kernel)) (by decide +kernel)
theorem mw_860 : (Jvm.Cond.methodLink "PageMachine" (146 : Nat) ({ cls := "PageMachine$Fault", name := "codeOf", desc := "(I)I" } : Jvm.MethodName)) ∈ gt_bl := gt_in (List.mem_of_getElem? (i := 927) (by decide +kernel)) (by decide +kernel)
theorem mw_861 : (Jvm.Cond.methodLink "PageMachineLaw" (87 : Nat) ({ cls := "PageMachineLaw", name := "count", desc := "(LPageMachine;I[J)I" } : Jvm.MethodName)) ∈ gt_bl := gt_in (List.mem_of_getElem? (i := 928) (by decide +kernel)) (by decide +kernel)
theorem mw_862 : (Jvm.Cond.static ({ cls := "PageMachineLaw", name := "count", desc := "(LPageMachine;I[J)I" } : Jvm.MethodName)) ∈ gt_bl := gt_in (List.mem_of_getElem? (i := 929) (by decide +kernel)) (by decide +kernel)
theorem mw_864 : (Jvm.Cond.methodLink "PageMachineLaw" (42 : Nat) ({ cls := "PageMachine", name := "count", desc := "(I)I" } : Jvm.MethodName)) ∈ gt_bl := gt_in (List.mem_of_getElem? (i := 931) (by decide +kernel)) (by decide +kernel)
theorem mw_865 : (Jvm.Cond.instanceMethod ({ cls := "PageMachine", name := "count", desc := "(I)I" } : Jvm.MethodName)) ∈ gt_bl := gt_in (List.mem_of_getElem? (i := 932) (by decide +kernel)) (by decide +kernel)
theorem mw_866 : (Jvm.Cond.selects "PageMachine" ({ cls := "PageMachine", name := "count", desc := "(I)I" } : Jvm.MethodName) ({ cls := "PageMachine", name := "count", desc := "(I)I" } : Jvm.MethodName)) ∈ gt_bl := gt_in (List.mem_of_getElem? (i := 933) (by decide +kernel)) (by decide +kernel)
theorem mw_869 : (Jvm.Cond.methodLink "PageMachine" (155 : Nat) ({ cls := "PageMachine$Processor", name := "steps", desc := "()I" } : Jvm.MethodName)) ∈ gt_bl := gt_in (List.mem_of_getElem? (i := 936) (by decide +kernel)) (by decide +kernel)
theorem mw_870 : (Jvm.Cond.instanceMethod ({ cls := "PageMachine$Processor", name := "steps", desc := "()I" } : Jvm.MethodName)) ∈ gt_bl := gt_in (List.mem_of_getElem? (i := 937) (by decide +kernel)) (by decide +kernel)
theorem mw_871 : (Jvm.Cond.selects "PageMachine$Processor" ({ cls := "PageMachine$Processor", name := "steps", desc := "()I" } : Jvm.MethodName) ({ cls := "PageMachine$Processor", name := "steps", desc := "()I" } : Jvm.MethodName)) ∈ gt_bl := gt_in (List.mem_of_getElem? (i := 938) (by decide +kernel)) (by decide +kernel)
theorem mw_873 : (Jvm.Cond.methodLink "PageMachine" (166 : Nat) ({ cls := "PageMachine$Processor", name := "faultsWith", desc := "(I)I" } : Jvm.MethodName)) ∈ gt_bl := gt_in (List.mem_of_getElem? (i := 940) (by decide +kernel)) (by decide +kernel)
theorem mw_874 : (Jvm.Cond.instanceMethod ({ cls := "PageMachine$Processor", name := "faultsWith", desc := "(I)I" } : Jvm.MethodName)) ∈ gt_bl := gt_in (List.mem_of_getElem? (i := 941) (by decide +kernel)) (by decide +kernel)
theorem mw_875 : (Jvm.Cond.selects "PageMachine$Processor" ({ cls := "PageMachine$Processor", name := "faultsWith", desc := "(I)I" } : Jvm.MethodName) ({ cls := "PageMachine$Processor", name := "faultsWith", desc := "(I)I" } : Jvm.MethodName)) ∈ gt_bl := gt_in (List.mem_of_getElem? (i := 942) (by decide +kernel)) (by decide +kernel)
theorem mw_877 : (Jvm.Cond.classLink "PageMachineLaw" (46 : Nat) "PageMachineModel") ∈ gt_bl := gt_in (List.mem_of_getElem? (i := 944) (by decide +kernel)) (by decide +kernel)
theorem mw_878 : (Jvm.Cond.instantiable "PageMachineModel" (25 : Nat)) ∈ gt_bl := gt_in (List.mem_of_getElem? (i := 945) (by decide +kernel)) (by decide +kernel)
theorem mw_879 : (Jvm.Cond.methodLink "PageMachineLaw" (48 : Nat) ({ cls := "PageMachineModel", name := "<init>", desc := "()V" } : Jvm.MethodName)) ∈ gt_bl := gt_in (List.mem_of_getElem? (i := 946) (by decide +kernel)) (by decide +kernel)
theorem mw_880 : (Jvm.Cond.instanceMethod ({ cls := "PageMachineModel", name := "<init>", desc := "()V" } : Jvm.MethodName)) ∈ gt_bl := gt_in (List.mem_of_getElem? (i := 947) (by decide +kernel)) (by decide +kernel)
theorem mw_882 : (Jvm.Cond.methodLink "PageMachineModel" (1 : Nat) ({ cls := "java/lang/Object", name := "<init>", desc := "()V" } : Jvm.MethodName)) ∈ gt_bl := gt_in (List.mem_of_getElem? (i := 949) (by decide +kernel)) (by decide +kernel)
theorem mw_883 : (Jvm.Cond.constant "PageMachineModel" (7 : Nat) (65536 : Int32)) ∈ gt_bl := gt_in (List.mem_of_getElem? (i := 950) (by decide +kernel)) (by decide +kernel)
theorem mw_884 : (Jvm.Cond.constant "PageMachineModel" (39 : Nat) (-2147483648 : Int32)) ∈ gt_bl := gt_in (List.mem_of_getElem? (i := 951) (by decide +kernel)) (by decide +kernel)
theorem mw_885 : (Jvm.Cond.constant "PageMachineModel" (44 : Nat) (98304 : Int32)) ∈ gt_bl := gt_in (List.mem_of_getElem? (i := 952) (by decide +kernel)) (by decide +kernel)
theorem mw_886 : (Jvm.Cond.fieldLink "PageMachineModel" (48 : Nat) "PageMachineModel" "thrown" "I") ∈ gt_bl := gt_in (List.mem_of_getElem? (i := 953) (by decide +kernel)) (by decide +kernel)
theorem mw_887 : (Jvm.Cond.fieldLink "PageMachineModel" (8 : Nat) "PageMachineModel" "memory" "[I") ∈ gt_bl := gt_in (List.mem_of_getElem? (i := 954) (by decide +kernel)) (by decide +kernel)
theorem mw_888 : (Jvm.Cond.fieldLink "PageMachineModel" (14 : Nat) "PageMachineModel" "\x72" "[I") ∈ gt_bl := gt_in (List.mem_of_getElem? (i := 955) (by decide +kernel)) (by decide +kernel)
theorem mw_889 : (Jvm.Cond.fieldLink "PageMachineModel" (72 : Nat) "PageMachineModel" "hi" "I") ∈ gt_bl := gt_in (List.mem_of_getElem? (i := 956) (by decide +kernel)) (by decide +kernel)
theorem mw_890 : (Jvm.Cond.fieldLink "PageMachineModel" (75 : Nat) "PageMachineModel" "lo" "I") ∈ gt_bl := gt_in (List.mem_of_getElem? (i := 957) (by decide +kernel)) (by decide +kernel)
theorem mw_891 : (Jvm.Cond.fieldLink "PageMachineModel" (40 : Nat) "PageMachineModel" "pc" "I") ∈ gt_bl := gt_in (List.mem_of_getElem? (i := 958) (by decide +kernel)) (by decide +kernel)
theorem mw_892 : (Jvm.Cond.fieldLink "PageMachineModel" (153 : Nat) "PageMachineModel" "target" "I") ∈ gt_bl := gt_in (List.mem_of_getElem? (i := 959) (by decide +kernel)) (by decide +kernel)
theorem mw_893 : (Jvm.Cond.fieldLink "PageMachineModel" (242 : Nat) "PageMachineModel" "link" "I") ∈ gt_bl := gt_in (List.mem_of_getElem? (i := 960) (by decide +kernel)) (by decide +kernel)
theorem mw_894 : (Jvm.Cond.fieldLink "PageMachineModel" (68 : Nat) "PageMachineModel" "slot" "Z") ∈ gt_bl := gt_in (List.mem_of_getElem? (i := 961) (by decide +kernel)) (by decide +kernel)
theorem mw_895 : (Jvm.Cond.fieldLink "PageMachineModel" (17 : Nat) "PageMachineModel" "sys" "[I") ∈ gt_bl := gt_in (List.mem_of_getElem? (i := 962) (by decide +kernel)) (by decide +kernel)
theorem mw_896 : (Jvm.Cond.fieldLink "PageMachineModel" (84 : Nat) "PageMachineModel" "timer" "Z") ∈ gt_bl := gt_in (List.mem_of_getElem? (i := 963) (by decide +kernel)) (by decide +kernel)
theorem mw_897 : (Jvm.Cond.fieldLink "PageMachineModel" (20 : Nat) "PageMachineModel" "lines" "[Z") ∈ gt_bl := gt_in (List.mem_of_getElem? (i := 964) (by decide +kernel)) (by decide +kernel)
theorem mw_898 : (Jvm.Cond.fieldLink "PageMachineModel" (24 : Nat) "PageMachineModel" "pages" "[I") ∈ gt_bl := gt_in (List.mem_of_getElem? (i := 965) (by decide +kernel)) (by decide +kernel)
theorem mw_899 : (Jvm.Cond.fieldLink "PageMachineModel" (27 : Nat) "PageMachineModel" "spaces" "[I") ∈ gt_bl := gt_in (List.mem_of_getElem? (i := 966) (by decide +kernel)) (by decide +kernel)
theorem mw_900 : (Jvm.Cond.fieldLink "PageMachineModel" (30 : Nat) "PageMachineModel" "all" "[Z") ∈ gt_bl := gt_in (List.mem_of_getElem? (i := 967) (by decide +kernel)) (by decide +kernel)
theorem mw_901 : (Jvm.Cond.fieldLink "PageMachineModel" (33 : Nat) "PageMachineModel" "halves" "[I") ∈ gt_bl := gt_in (List.mem_of_getElem? (i := 968) (by decide +kernel)) (by decide +kernel)
theorem mw_902 : (Jvm.Cond.fieldLink "PageMachineModel" (140 : Nat) "PageMachineModel" "steps" "I") ∈ gt_bl := gt_in (List.mem_of_getElem? (i := 969) (by decide +kernel)) (by decide +kernel)
theorem mw_903 : (Jvm.Cond.fieldLink "PageMachineModel" (36 : Nat) "PageMachineModel" "faults" "[I") ∈ gt_bl := gt_in (List.mem_of_getElem? (i := 970) (by decide +kernel)) (by decide +kernel)
theorem mw_904 : (Jvm.Cond.fieldLink "PageMachineModel" (45 : Nat) "PageMachineModel" "fault" "I") ∈ gt_bl := gt_in (List.mem_of_getElem? (i := 971) (by decide +kernel)) (by decide +kernel)
theorem mw_905 : (Jvm.Cond.fieldLink "PageMachineModel" (97 : Nat) "PageMachineModel" "faultAt" "I") ∈ gt_bl := gt_in (List.mem_of_getElem? (i := 972) (by decide +kernel)) (by decide +kernel)
theorem mw_906 : (Jvm.Cond.fieldLink "PageMachineModel" (134 : Nat) "PageMachineModel" "unit" "I") ∈ gt_bl := gt_in (List.mem_of_getElem? (i := 973) (by decide +kernel)) (by decide +kernel)
theorem mw_907 : (Jvm.Cond.fieldLink "PageMachineModel" (100 : Nat) "PageMachineModel" "hasAddress" "Z") ∈ gt_bl := gt_in (List.mem_of_getElem? (i := 974) (by decide +kernel)) (by decide +kernel)
theorem mw_908 : (Jvm.Cond.fieldLink "PageMachineModel" (103 : Nat) "PageMachineModel" "refills" "Z") ∈ gt_bl := gt_in (List.mem_of_getElem? (i := 975) (by decide +kernel)) (by decide +kernel)
theorem mw_909 : (Jvm.Cond.fieldLink "PageMachineModel" (156 : Nat) "PageMachineModel" "next" "I") ∈ gt_bl := gt_in (List.mem_of_getElem? (i := 976) (by decide +kernel)) (by decide +kernel)
theorem mw_910 : (Jvm.Cond.fieldLink "PageMachineModel" (159 : Nat) "PageMachineModel" "nextSlot" "Z") ∈ gt_bl := gt_in (List.mem_of_getElem? (i := 977) (by decide +kernel)) (by decide +kernel)
theorem mw_911 : (Jvm.Cond.lays "PageMachineModel" "PageMachineModel" "thrown" "I") ∈ gt_bl := gt_in (List.mem_of_getElem? (i := 978) (by decide +kernel)) (by decide +kernel)
theorem mw_913 : (Jvm.Cond.laysFinal "PageMachineModel" "PageMachineModel" "memory" "[I") ∈ gt_bl := gt_in (List.mem_of_getElem? (i := 980) (by decide +kernel)) (by decide +kernel)
theorem mw_915 : (Jvm.Cond.laysFinal "PageMachineModel" "PageMachineModel" "\x72" "[I") ∈ gt_bl := gt_in (List.mem_of_getElem? (i := 982) (by decide +kernel)) (by decide +kernel)
theorem mw_917 : (Jvm.Cond.lays "PageMachineModel" "PageMachineModel" "hi" "I") ∈ gt_bl := gt_in (List.mem_of_getElem? (i := 984) (by decide +kernel)) (by decide +kernel)
theorem mw_919 : (Jvm.Cond.lays "PageMachineModel" "PageMachineModel" "lo" "I") ∈ gt_bl := gt_in (List.mem_of_getElem? (i := 986) (by decide +kernel)) (by decide +kernel)
theorem mw_921 : (Jvm.Cond.lays "PageMachineModel" "PageMachineModel" "pc" "I") ∈ gt_bl := gt_in (List.mem_of_getElem? (i := 988) (by decide +kernel)) (by decide +kernel)
theorem mw_923 : (Jvm.Cond.lays "PageMachineModel" "PageMachineModel" "target" "I") ∈ gt_bl := gt_in (List.mem_of_getElem? (i := 990) (by decide +kernel)) (by decide +kernel)
theorem mw_925 : (Jvm.Cond.lays "PageMachineModel" "PageMachineModel" "link" "I") ∈ gt_bl := gt_in (List.mem_of_getElem? (i := 992) (by decide +kernel)) (by decide +kernel)
theorem mw_927 : (Jvm.Cond.lays "PageMachineModel" "PageMachineModel" "slot" "Z") ∈ gt_bl := gt_in (List.mem_of_getElem? (i := 994) (by decide +kernel)) (by decide +kernel)
theorem mw_929 : (Jvm.Cond.laysFinal "PageMachineModel" "PageMachineModel" "sys" "[I") ∈ gt_bl := gt_in (List.mem_of_getElem? (i := 996) (by decide +kernel)) (by decide +kernel)
theorem mw_931 : (Jvm.Cond.lays "PageMachineModel" "PageMachineModel" "timer" "Z") ∈ gt_bl := gt_in (List.mem_of_getElem? (i := 998) (by decide +kernel)) (by decide +kernel)
theorem mw_933 : (Jvm.Cond.laysFinal "PageMachineModel" "PageMachineModel" "lines" "[Z") ∈ gt_bl := gt_in (List.mem_of_getElem? (i := 1000) (by decide +kernel)) (by decide +kernel)
theorem mw_935 : (Jvm.Cond.laysFinal "PageMachineModel" "PageMachineModel" "pages" "[I") ∈ gt_bl := gt_in (List.mem_of_getElem? (i := 1002) (by decide +kernel)) (by decide +kernel)
theorem mw_937 : (Jvm.Cond.laysFinal "PageMachineModel" "PageMachineModel" "spaces" "[I") ∈ gt_bl := gt_in (List.mem_of_getElem? (i := 1004) (by decide +kernel)) (by decide +kernel)
theorem mw_939 : (Jvm.Cond.laysFinal "PageMachineModel" "PageMachineModel" "all" "[Z") ∈ gt_bl := gt_in (List.mem_of_getElem? (i := 1006) (by decide +kernel)) (by decide +kernel)
theorem mw_941 : (Jvm.Cond.laysFinal "PageMachineModel" "PageMachineModel" "halves" "[I") ∈ gt_bl := gt_in (List.mem_of_getElem? (i := 1008) (by decide +kernel)) (by decide +kernel)
theorem mw_943 : (Jvm.Cond.lays "PageMachineModel" "PageMachineModel" "steps" "I") ∈ gt_bl := gt_in (List.mem_of_getElem? (i := 1010) (by decide +kernel)) (by decide +kernel)
theorem mw_945 : (Jvm.Cond.laysFinal "PageMachineModel" "PageMachineModel" "faults" "[I") ∈ gt_bl := gt_in (List.mem_of_getElem? (i := 1012) (by decide +kernel)) (by decide +kernel)
theorem mw_947 : (Jvm.Cond.lays "PageMachineModel" "PageMachineModel" "fault" "I") ∈ gt_bl := gt_in (List.mem_of_getElem? (i := 1014) (by decide +kernel)) (by decide +kernel)
theorem mw_949 : (Jvm.Cond.lays "PageMachineModel" "PageMachineModel" "faultAt" "I") ∈ gt_bl := gt_in (List.mem_of_getElem? (i := 1016) (by decide +kernel)) (by decide +kernel)
theorem mw_951 : (Jvm.Cond.lays "PageMachineModel" "PageMachineModel" "unit" "I") ∈ gt_bl := gt_in (List.mem_of_getElem? (i := 1018) (by decide +kernel)) (by decide +kernel)
theorem mw_953 : (Jvm.Cond.lays "PageMachineModel" "PageMachineModel" "hasAddress" "Z") ∈ gt_bl := gt_in (List.mem_of_getElem? (i := 1020) (by decide +kernel)) (by decide +kernel)
theorem mw_955 : (Jvm.Cond.lays "PageMachineModel" "PageMachineModel" "refills" "Z") ∈ gt_bl := gt_in (List.mem_of_getElem? (i := 1022) (by decide +kernel)) (by decide +kernel)
theorem mw_957 : (Jvm.Cond.lays "PageMachineModel" "PageMachineModel" "next" "I") ∈ gt_bl := gt_in (List.mem_of_getElem? (i := 1024) (by decide +kernel)) (by decide +kernel)
theorem mw_959 : (Jvm.Cond.lays "PageMachineModel" "PageMachineModel" "nextSlot" "Z") ∈ gt_bl := gt_in (List.mem_of_getElem? (i := 1026) (by decide +kernel)) (by decide +kernel)
theorem mw_962 : (Jvm.Cond.arrayClass Jvm.ClassFile.FieldType.boolean) ∈ gt_bl := gt_in (List.mem_of_getElem? (i := 1029) (by decide +kernel)) (by decide +kernel)
theorem mw_963 : (Jvm.Cond.methodLink "PageMachineLaw" (55 : Nat) ({ cls := "PageMachineModel", name := "thrown", desc := "()I" } : Jvm.MethodName)) ∈ gt_bl := gt_in (List.mem_of_getElem? (i := 1030) (by decide +kernel)) (by decide +kernel)
theorem mw_964 : (Jvm.Cond.instanceMethod ({ cls := "PageMachineModel", name := "thrown", desc := "()I" } : Jvm.MethodName)) ∈ gt_bl := gt_in (List.mem_of_getElem? (i := 1031) (by decide +kernel)) (by decide +kernel)
theorem mw_965 : (Jvm.Cond.selects "PageMachineModel" ({ cls := "PageMachineModel", name := "thrown", desc := "()I" } : Jvm.MethodName) ({ cls := "PageMachineModel", name := "thrown", desc := "()I" } : Jvm.MethodName)) ∈ gt_bl := gt_in (List.mem_of_getElem? (i := 1032) (by decide +kernel)) (by decide +kernel)
theorem mw_967 : (Jvm.Cond.methodLink "PageMachineLaw" (54 : Nat) ({ cls := "PageMachineModel", name := "poke", desc := "(II)I" } : Jvm.MethodName)) ∈ gt_bl := gt_in (List.mem_of_getElem? (i := 1034) (by decide +kernel)) (by decide +kernel)
theorem mw_968 : (Jvm.Cond.instanceMethod ({ cls := "PageMachineModel", name := "poke", desc := "(II)I" } : Jvm.MethodName)) ∈ gt_bl := gt_in (List.mem_of_getElem? (i := 1035) (by decide +kernel)) (by decide +kernel)
theorem mw_969 : (Jvm.Cond.selects "PageMachineModel" ({ cls := "PageMachineModel", name := "poke", desc := "(II)I" } : Jvm.MethodName) ({ cls := "PageMachineModel", name := "poke", desc := "(II)I" } : Jvm.MethodName)) ∈ gt_bl := gt_in (List.mem_of_getElem? (i := 1036) (by decide +kernel)) (by decide +kernel)
theorem mw_971 : (Jvm.Cond.methodLink "PageMachineModel" (51 : Nat) ({ cls := "PageMachineModel", name := "fail", desc := "(I)I" } : Jvm.MethodName)) ∈ gt_bl := gt_in (List.mem_of_getElem? (i := 1038) (by decide +kernel)) (by decide +kernel)
theorem mw_973 : (Jvm.Cond.instanceMethod ({ cls := "PageMachineModel", name := "fail", desc := "(I)I" } : Jvm.MethodName)) ∈ gt_bl := gt_in (List.mem_of_getElem? (i := 1040) (by decide +kernel)) (by decide +kernel)
theorem mw_975 : (Jvm.Cond.constant "PageMachineModel" (55 : Nat) (262143 : Int32)) ∈ gt_bl := gt_in (List.mem_of_getElem? (i := 1042) (by decide +kernel)) (by decide +kernel)
theorem mw_976 : (Jvm.Cond.methodLink "PageMachineModel" (56 : Nat) ({ cls := "PageMachineModel", name := "within", desc := "(III)Z" } : Jvm.MethodName)) ∈ gt_bl := gt_in (List.mem_of_getElem? (i := 1043) (by decide +kernel)) (by decide +kernel)
theorem mw_977 : (Jvm.Cond.static ({ cls := "PageMachineModel", name := "within", desc := "(III)Z" } : Jvm.MethodName)) ∈ gt_bl := gt_in (List.mem_of_getElem? (i := 1044) (by decide +kernel)) (by decide +kernel)
theorem mw_979 : (Jvm.Cond.methodLink "PageMachineLaw" (62 : Nat) ({ cls := "PageMachineModel", name := "peek", desc := "(I)I" } : Jvm.MethodName)) ∈ gt_bl := gt_in (List.mem_of_getElem? (i := 1046) (by decide +kernel)) (by decide +kernel)
theorem mw_980 : (Jvm.Cond.instanceMethod ({ cls := "PageMachineModel", name := "peek", desc := "(I)I" } : Jvm.MethodName)) ∈ gt_bl := gt_in (List.mem_of_getElem? (i := 1047) (by decide +kernel)) (by decide +kernel)
theorem mw_981 : (Jvm.Cond.selects "PageMachineModel" ({ cls := "PageMachineModel", name := "peek", desc := "(I)I" } : Jvm.MethodName) ({ cls := "PageMachineModel", name := "peek", desc := "(I)I" } : Jvm.MethodName)) ∈ gt_bl := gt_in (List.mem_of_getElem? (i := 1048) (by decide +kernel)) (by decide +kernel)
theorem mw_983 : (Jvm.Cond.methodLink "PageMachineLaw" (66 : Nat) ({ cls := "PageMachineModel", name := "set", desc := "(III)V" } : Jvm.MethodName)) ∈ gt_bl := gt_in (List.mem_of_getElem? (i := 1050) (by decide +kernel)) (by decide +kernel)
theorem mw_984 : (Jvm.Cond.instanceMethod ({ cls := "PageMachineModel", name := "set", desc := "(III)V" } : Jvm.MethodName)) ∈ gt_bl := gt_in (List.mem_of_getElem? (i := 1051) (by decide +kernel)) (by decide +kernel)
theorem mw_985 : (Jvm.Cond.selects "PageMachineModel" ({ cls := "PageMachineModel", name := "set", desc := "(III)V" } : Jvm.MethodName) ({ cls := "PageMachineModel", name := "set", desc := "(III)V" } : Jvm.MethodName)) ∈ gt_bl := gt_in (List.mem_of_getElem? (i := 1052) (by decide +kernel)) (by decide +kernel)
theorem mw_987 : (Jvm.Cond.methodLink "PageMachineModel" (60 : Nat) ({ cls := "PageMachineModel", name := "isRegister", desc := "(II)Z" } : Jvm.MethodName)) ∈ gt_bl := gt_in (List.mem_of_getElem? (i := 1054) (by decide +kernel)) (by decide +kernel)
theorem mw_988 : (Jvm.Cond.static ({ cls := "PageMachineModel", name := "isRegister", desc := "(II)Z" } : Jvm.MethodName)) ∈ gt_bl := gt_in (List.mem_of_getElem? (i := 1055) (by decide +kernel)) (by decide +kernel)
theorem mw_990 : (Jvm.Cond.methodLink "PageMachineModel" (64 : Nat) ({ cls := "PageMachineModel", name := "write", desc := "(II)V" } : Jvm.MethodName)) ∈ gt_bl := gt_in (List.mem_of_getElem? (i := 1057) (by decide +kernel)) (by decide +kernel)
theorem mw_992 : (Jvm.Cond.instanceMethod ({ cls := "PageMachineModel", name := "write", desc := "(II)V" } : Jvm.MethodName)) ∈ gt_bl := gt_in (List.mem_of_getElem? (i := 1059) (by decide +kernel)) (by decide +kernel)
theorem mw_994 : (Jvm.Cond.methodLink "PageMachineModel" (90 : Nat) ({ cls := "PageMachineModel", name := "bitsOf", desc := "(I)I" } : Jvm.MethodName)) ∈ gt_bl := gt_in (List.mem_of_getElem? (i := 1061) (by decide +kernel)) (by decide +kernel)
theorem mw_995 : (Jvm.Cond.static ({ cls := "PageMachineModel", name := "bitsOf", desc := "(I)I" } : Jvm.MethodName)) ∈ gt_bl := gt_in (List.mem_of_getElem? (i := 1062) (by decide +kernel)) (by decide +kernel)
theorem mw_997 : (Jvm.Cond.constant "PageMachineModel" (87 : Nat) (67108863 : Int32)) ∈ gt_bl := gt_in (List.mem_of_getElem? (i := 1064) (by decide +kernel)) (by decide +kernel)
theorem mw_998 : (Jvm.Cond.constant "PageMachineModel" (88 : Nat) (-8388608 : Int32)) ∈ gt_bl := gt_in (List.mem_of_getElem? (i := 1065) (by decide +kernel)) (by decide +kernel)
theorem mw_999 : (Jvm.Cond.constant "PageMachineModel" (89 : Nat) (268500755 : Int32)) ∈ gt_bl := gt_in (List.mem_of_getElem? (i := 1066) (by decide +kernel)) (by decide +kernel)
theorem mw_1000 : (Jvm.Cond.methodLink "PageMachineModel" (78 : Nat) ({ cls := "PageMachineModel", name := "put", desc := "(II)V" } : Jvm.MethodName)) ∈ gt_bl := gt_in (List.mem_of_getElem? (i := 1067) (by decide +kernel)) (by decide +kernel)
theorem mw_1002 : (Jvm.Cond.instanceMethod ({ cls := "PageMachineModel", name := "put", desc := "(II)V" } : Jvm.MethodName)) ∈ gt_bl := gt_in (List.mem_of_getElem? (i := 1069) (by decide +kernel)) (by decide +kernel)
theorem mw_1004 : (Jvm.Cond.methodLink "PageMachineLaw" (69 : Nat) ({ cls := "PageMachineModel", name := "get", desc := "(II)I" } : Jvm.MethodName)) ∈ gt_bl := gt_in (List.mem_of_getElem? (i := 1071) (by decide +kernel)) (by decide +kernel)
theorem mw_1005 : (Jvm.Cond.instanceMethod ({ cls := "PageMachineModel", name := "get", desc := "(II)I" } : Jvm.MethodName)) ∈ gt_bl := gt_in (List.mem_of_getElem? (i := 1072) (by decide +kernel)) (by decide +kernel)
theorem mw_1006 : (Jvm.Cond.selects "PageMachineModel" ({ cls := "PageMachineModel", name := "get", desc := "(II)I" } : Jvm.MethodName) ({ cls := "PageMachineModel", name := "get", desc := "(II)I" } : Jvm.MethodName)) ∈ gt_bl := gt_in (List.mem_of_getElem? (i := 1073) (by decide +kernel)) (by decide +kernel)
theorem mw_1008 : (Jvm.Cond.methodLink "PageMachineModel" (81 : Nat) ({ cls := "PageMachineModel", name := "read", desc := "(I)I" } : Jvm.MethodName)) ∈ gt_bl := gt_in (List.mem_of_getElem? (i := 1075) (by decide +kernel)) (by decide +kernel)
theorem mw_1010 : (Jvm.Cond.instanceMethod ({ cls := "PageMachineModel", name := "read", desc := "(I)I" } : Jvm.MethodName)) ∈ gt_bl := gt_in (List.mem_of_getElem? (i := 1077) (by decide +kernel)) (by decide +kernel)
theorem mw_1012 : (Jvm.Cond.methodLink "PageMachineLaw" (73 : Nat) ({ cls := "PageMachineModel", name := "line", desc := "(IZ)Z" } : Jvm.MethodName)) ∈ gt_bl := gt_in (List.mem_of_getElem? (i := 1079) (by decide +kernel)) (by decide +kernel)
theorem mw_1013 : (Jvm.Cond.instanceMethod ({ cls := "PageMachineModel", name := "line", desc := "(IZ)Z" } : Jvm.MethodName)) ∈ gt_bl := gt_in (List.mem_of_getElem? (i := 1080) (by decide +kernel)) (by decide +kernel)
theorem mw_1014 : (Jvm.Cond.selects "PageMachineModel" ({ cls := "PageMachineModel", name := "line", desc := "(IZ)Z" } : Jvm.MethodName) ({ cls := "PageMachineModel", name := "line", desc := "(IZ)Z" } : Jvm.MethodName)) ∈ gt_bl := gt_in (List.mem_of_getElem? (i := 1081) (by decide +kernel)) (by decide +kernel)
theorem mw_1016 : (Jvm.Cond.methodLink "PageMachineLaw" (76 : Nat) ({ cls := "PageMachineModel", name := "step", desc := "(I)I" } : Jvm.MethodName)) ∈ gt_bl := gt_in (List.mem_of_getElem? (i := 1083) (by decide +kernel)) (by decide +kernel)
theorem mw_1017 : (Jvm.Cond.instanceMethod ({ cls := "PageMachineModel", name := "step", desc := "(I)I" } : Jvm.MethodName)) ∈ gt_bl := gt_in (List.mem_of_getElem? (i := 1084) (by decide +kernel)) (by decide +kernel)
theorem mw_1018 : (Jvm.Cond.selects "PageMachineModel" ({ cls := "PageMachineModel", name := "step", desc := "(I)I" } : Jvm.MethodName) ({ cls := "PageMachineModel", name := "step", desc := "(I)I" } : Jvm.MethodName)) ∈ gt_bl := gt_in (List.mem_of_getElem? (i := 1085) (by decide +kernel)) (by decide +kernel)
theorem mw_1020 : (Jvm.Cond.methodLink "PageMachineModel" (166 : Nat) ({ cls := "PageMachineModel", name := "go", desc := "()Z" } : Jvm.MethodName)) ∈ gt_bl := gt_in (List.mem_of_getElem? (i := 1087) (by decide +kernel)) (by decide +kernel)
theorem mw_1022 : (Jvm.Cond.instanceMethod ({ cls := "PageMachineModel", name := "go", desc := "()Z" } : Jvm.MethodName)) ∈ gt_bl := gt_in (List.mem_of_getElem? (i := 1089) (by decide +kernel)) (by decide +kernel)
theorem mw_1024 : (Jvm.Cond.methodLink "PageMachineModel" (143 : Nat) ({ cls := "PageMachineModel", name := "isCalled", desc := "()Z" } : Jvm.MethodName)) ∈ gt_bl := gt_in (List.mem_of_getElem? (i := 1091) (by decide +kernel)) (by decide +kernel)
theorem mw_1026 : (Jvm.Cond.instanceMethod ({ cls := "PageMachineModel", name := "isCalled", desc := "()Z" } : Jvm.MethodName)) ∈ gt_bl := gt_in (List.mem_of_getElem? (i := 1093) (by decide +kernel)) (by decide +kernel)
theorem mw_1028 : (Jvm.Cond.methodLink "PageMachineModel" (93 : Nat) ({ cls := "PageMachineModel", name := "isIn", desc := "(I)Z" } : Jvm.MethodName)) ∈ gt_bl := gt_in (List.mem_of_getElem? (i := 1095) (by decide +kernel)) (by decide +kernel)
theorem mw_1030 : (Jvm.Cond.instanceMethod ({ cls := "PageMachineModel", name := "isIn", desc := "(I)Z" } : Jvm.MethodName)) ∈ gt_bl := gt_in (List.mem_of_getElem? (i := 1097) (by decide +kernel)) (by decide +kernel)
theorem mw_1032 : (Jvm.Cond.constant "PageMachineModel" (139 : Nat) (65280 : Int32)) ∈ gt_bl := gt_in (List.mem_of_getElem? (i := 1099) (by decide +kernel)) (by decide +kernel)
theorem mw_1033 : (Jvm.Cond.methodLink "PageMachineModel" (146 : Nat) ({ cls := "PageMachineModel", name := "enter", desc := "()V" } : Jvm.MethodName)) ∈ gt_bl := gt_in (List.mem_of_getElem? (i := 1100) (by decide +kernel)) (by decide +kernel)
theorem mw_1035 : (Jvm.Cond.instanceMethod ({ cls := "PageMachineModel", name := "enter", desc := "()V" } : Jvm.MethodName)) ∈ gt_bl := gt_in (List.mem_of_getElem? (i := 1102) (by decide +kernel)) (by decide +kernel)
theorem mw_1037 : (Jvm.Cond.constant "PageMachineModel" (132 : Nat) (2147483647 : Int32)) ∈ gt_bl := gt_in (List.mem_of_getElem? (i := 1104) (by decide +kernel)) (by decide +kernel)
theorem mw_1038 : (Jvm.Cond.constant "PageMachineModel" (133 : Nat) (-805306493 : Int32)) ∈ gt_bl := gt_in (List.mem_of_getElem? (i := 1105) (by decide +kernel)) (by decide +kernel)
theorem mw_1039 : (Jvm.Cond.constant "PageMachineModel" (137 : Nat) (8388592 : Int32)) ∈ gt_bl := gt_in (List.mem_of_getElem? (i := 1106) (by decide +kernel)) (by decide +kernel)
theorem mw_1040 : (Jvm.Cond.constant "PageMachineModel" (138 : Nat) (-2147483264 : Int32)) ∈ gt_bl := gt_in (List.mem_of_getElem? (i := 1107) (by decide +kernel)) (by decide +kernel)
theorem mw_1041 : (Jvm.Cond.methodLink "PageMachineModel" (149 : Nat) ({ cls := "PageMachineModel", name := "aligned", desc := "(IIZZ)J" } : Jvm.MethodName)) ∈ gt_bl := gt_in (List.mem_of_getElem? (i := 1108) (by decide +kernel)) (by decide +kernel)
theorem mw_1043 : (Jvm.Cond.instanceMethod ({ cls := "PageMachineModel", name := "aligned", desc := "(IIZZ)J" } : Jvm.MethodName)) ∈ gt_bl := gt_in (List.mem_of_getElem? (i := 1110) (by decide +kernel)) (by decide +kernel)
theorem mw_1045 : (Jvm.Cond.methodLink "PageMachineModel" (114 : Nat) ({ cls := "PageMachineModel", name := "wrong", desc := "(II)Z" } : Jvm.MethodName)) ∈ gt_bl := gt_in (List.mem_of_getElem? (i := 1112) (by decide +kernel)) (by decide +kernel)
theorem mw_1047 : (Jvm.Cond.instanceMethod ({ cls := "PageMachineModel", name := "wrong", desc := "(II)Z" } : Jvm.MethodName)) ∈ gt_bl := gt_in (List.mem_of_getElem? (i := 1114) (by decide +kernel)) (by decide +kernel)
theorem mw_1049 : (Jvm.Cond.constantLong "PageMachineModel" (117 : Nat) (-1 : Int64)) ∈ gt_bl := gt_in (List.mem_of_getElem? (i := 1116) (by decide +kernel)) (by decide +kernel)
theorem mw_1050 : (Jvm.Cond.methodLink "PageMachineModel" (128 : Nat) ({ cls := "PageMachineModel", name := "physical", desc := "(IZZ)J" } : Jvm.MethodName)) ∈ gt_bl := gt_in (List.mem_of_getElem? (i := 1117) (by decide +kernel)) (by decide +kernel)
theorem mw_1052 : (Jvm.Cond.instanceMethod ({ cls := "PageMachineModel", name := "physical", desc := "(IZZ)J" } : Jvm.MethodName)) ∈ gt_bl := gt_in (List.mem_of_getElem? (i := 1119) (by decide +kernel)) (by decide +kernel)
theorem mw_1054 : (Jvm.Cond.constant "PageMachineModel" (109 : Nat) (536870911 : Int32)) ∈ gt_bl := gt_in (List.mem_of_getElem? (i := 1121) (by decide +kernel)) (by decide +kernel)
theorem mw_1055 : (Jvm.Cond.methodLink "PageMachineModel" (110 : Nat) ({ cls := "PageMachineModel", name := "isUser", desc := "()Z" } : Jvm.MethodName)) ∈ gt_bl := gt_in (List.mem_of_getElem? (i := 1122) (by decide +kernel)) (by decide +kernel)
theorem mw_1057 : (Jvm.Cond.instanceMethod ({ cls := "PageMachineModel", name := "isUser", desc := "()Z" } : Jvm.MethodName)) ∈ gt_bl := gt_in (List.mem_of_getElem? (i := 1124) (by decide +kernel)) (by decide +kernel)
theorem mw_1059 : (Jvm.Cond.constant "PageMachineModel" (119 : Nat) (-1073741824 : Int32)) ∈ gt_bl := gt_in (List.mem_of_getElem? (i := 1126) (by decide +kernel)) (by decide +kernel)
theorem mw_1060 : (Jvm.Cond.methodLink "PageMachineModel" (120 : Nat) ({ cls := "PageMachineModel", name := "entryOf", desc := "(I)I" } : Jvm.MethodName)) ∈ gt_bl := gt_in (List.mem_of_getElem? (i := 1127) (by decide +kernel)) (by decide +kernel)
theorem mw_1062 : (Jvm.Cond.instanceMethod ({ cls := "PageMachineModel", name := "entryOf", desc := "(I)I" } : Jvm.MethodName)) ∈ gt_bl := gt_in (List.mem_of_getElem? (i := 1129) (by decide +kernel)) (by decide +kernel)
theorem mw_1064 : (Jvm.Cond.methodLink "PageMachineModel" (106 : Nat) ({ cls := "PageMachineModel", name := "matches", desc := "(II)Z" } : Jvm.MethodName)) ∈ gt_bl := gt_in (List.mem_of_getElem? (i := 1131) (by decide +kernel)) (by decide +kernel)
theorem mw_1066 : (Jvm.Cond.instanceMethod ({ cls := "PageMachineModel", name := "matches", desc := "(II)Z" } : Jvm.MethodName)) ∈ gt_bl := gt_in (List.mem_of_getElem? (i := 1133) (by decide +kernel)) (by decide +kernel)
theorem mw_1068 : (Jvm.Cond.constant "PageMachineModel" (123 : Nat) (1048575 : Int32)) ∈ gt_bl := gt_in (List.mem_of_getElem? (i := 1135) (by decide +kernel)) (by decide +kernel)
theorem mw_1069 : (Jvm.Cond.constantLong "PageMachineModel" (124 : Nat) (4096 : Int64)) ∈ gt_bl := gt_in (List.mem_of_getElem? (i := 1136) (by decide +kernel)) (by decide +kernel)
theorem mw_1070 : (Jvm.Cond.constantLong "PageMachineModel" (126 : Nat) (262144 : Int64)) ∈ gt_bl := gt_in (List.mem_of_getElem? (i := 1137) (by decide +kernel)) (by decide +kernel)
theorem mw_1071 : (Jvm.Cond.methodLink "PageMachineModel" (162 : Nat) ({ cls := "PageMachineModel", name := "perform", desc := "(I)V" } : Jvm.MethodName)) ∈ gt_bl := gt_in (List.mem_of_getElem? (i := 1138) (by decide +kernel)) (by decide +kernel)
theorem mw_1073 : (Jvm.Cond.instanceMethod ({ cls := "PageMachineModel", name := "perform", desc := "(I)V" } : Jvm.MethodName)) ∈ gt_bl := gt_in (List.mem_of_getElem? (i := 1140) (by decide +kernel)) (by decide +kernel)
theorem mw_1075 : (Jvm.Cond.methodLink "PageMachineModel" (169 : Nat) ({ cls := "PageMachineModel", name := "special", desc := "(III)V" } : Jvm.MethodName)) ∈ gt_bl := gt_in (List.mem_of_getElem? (i := 1142) (by decide +kernel)) (by decide +kernel)
theorem mw_1077 : (Jvm.Cond.instanceMethod ({ cls := "PageMachineModel", name := "special", desc := "(III)V" } : Jvm.MethodName)) ∈ gt_bl := gt_in (List.mem_of_getElem? (i := 1144) (by decide +kernel)) (by decide +kernel)
theorem mw_1079 : (Jvm.Cond.methodLink "PageMachineModel" (196 : Nat) ({ cls := "PageMachineModel", name := "raise", desc := "(I)I" } : Jvm.MethodName)) ∈ gt_bl := gt_in (List.mem_of_getElem? (i := 1146) (by decide +kernel)) (by decide +kernel)
theorem mw_1081 : (Jvm.Cond.instanceMethod ({ cls := "PageMachineModel", name := "raise", desc := "(I)I" } : Jvm.MethodName)) ∈ gt_bl := gt_in (List.mem_of_getElem? (i := 1148) (by decide +kernel)) (by decide +kernel)
theorem mw_1083 : (Jvm.Cond.methodLink "PageMachineModel" (199 : Nat) ({ cls := "PageMachineModel", name := "branch", desc := "(ZIZ)V" } : Jvm.MethodName)) ∈ gt_bl := gt_in (List.mem_of_getElem? (i := 1150) (by decide +kernel)) (by decide +kernel)
theorem mw_1085 : (Jvm.Cond.instanceMethod ({ cls := "PageMachineModel", name := "branch", desc := "(ZIZ)V" } : Jvm.MethodName)) ∈ gt_bl := gt_in (List.mem_of_getElem? (i := 1152) (by decide +kernel)) (by decide +kernel)
theorem mw_1087 : (Jvm.Cond.methodLink "PageMachineModel" (203 : Nat) ({ cls := "PageMachineModel", name := "shift", desc := "(IIII)V" } : Jvm.MethodName)) ∈ gt_bl := gt_in (List.mem_of_getElem? (i := 1154) (by decide +kernel)) (by decide +kernel)
theorem mw_1089 : (Jvm.Cond.instanceMethod ({ cls := "PageMachineModel", name := "shift", desc := "(IIII)V" } : Jvm.MethodName)) ∈ gt_bl := gt_in (List.mem_of_getElem? (i := 1156) (by decide +kernel)) (by decide +kernel)
theorem mw_1091 : (Jvm.Cond.methodLink "PageMachineModel" (206 : Nat) ({ cls := "PageMachineModel", name := "moves", desc := "(IIII)V" } : Jvm.MethodName)) ∈ gt_bl := gt_in (List.mem_of_getElem? (i := 1158) (by decide +kernel)) (by decide +kernel)
theorem mw_1093 : (Jvm.Cond.instanceMethod ({ cls := "PageMachineModel", name := "moves", desc := "(IIII)V" } : Jvm.MethodName)) ∈ gt_bl := gt_in (List.mem_of_getElem? (i := 1160) (by decide +kernel)) (by decide +kernel)
theorem mw_1095 : (Jvm.Cond.methodLink "PageMachineModel" (209 : Nat) ({ cls := "PageMachineModel", name := "divides", desc := "(III)V" } : Jvm.MethodName)) ∈ gt_bl := gt_in (List.mem_of_getElem? (i := 1162) (by decide +kernel)) (by decide +kernel)
theorem mw_1097 : (Jvm.Cond.instanceMethod ({ cls := "PageMachineModel", name := "divides", desc := "(III)V" } : Jvm.MethodName)) ∈ gt_bl := gt_in (List.mem_of_getElem? (i := 1164) (by decide +kernel)) (by decide +kernel)
theorem mw_1099 : (Jvm.Cond.methodLink "PageMachineModel" (220 : Nat) ({ cls := "PageMachineModel", name := "whole", desc := "(IZ)J" } : Jvm.MethodName)) ∈ gt_bl := gt_in (List.mem_of_getElem? (i := 1166) (by decide +kernel)) (by decide +kernel)
theorem mw_1100 : (Jvm.Cond.static ({ cls := "PageMachineModel", name := "whole", desc := "(IZ)J" } : Jvm.MethodName)) ∈ gt_bl := gt_in (List.mem_of_getElem? (i := 1167) (by decide +kernel)) (by decide +kernel)
theorem mw_1102 : (Jvm.Cond.constantLong "PageMachineModel" (218 : Nat) (4294967295 : Int64)) ∈ gt_bl := gt_in (List.mem_of_getElem? (i := 1169) (by decide +kernel)) (by decide +kernel)
theorem mw_1103 : (Jvm.Cond.methodLink "PageMachineModel" (224 : Nat) ({ cls := "PageMachineModel", name := "setBoth", desc := "(J)V" } : Jvm.MethodName)) ∈ gt_bl := gt_in (List.mem_of_getElem? (i := 1170) (by decide +kernel)) (by decide +kernel)
theorem mw_1105 : (Jvm.Cond.instanceMethod ({ cls := "PageMachineModel", name := "setBoth", desc := "(J)V" } : Jvm.MethodName)) ∈ gt_bl := gt_in (List.mem_of_getElem? (i := 1172) (by decide +kernel)) (by decide +kernel)
theorem mw_1107 : (Jvm.Cond.methodLink "PageMachineModel" (212 : Nat) ({ cls := "PageMachineModel", name := "trap", desc := "(III)V" } : Jvm.MethodName)) ∈ gt_bl := gt_in (List.mem_of_getElem? (i := 1174) (by decide +kernel)) (by decide +kernel)
theorem mw_1109 : (Jvm.Cond.instanceMethod ({ cls := "PageMachineModel", name := "trap", desc := "(III)V" } : Jvm.MethodName)) ∈ gt_bl := gt_in (List.mem_of_getElem? (i := 1176) (by decide +kernel)) (by decide +kernel)
theorem mw_1111 : (Jvm.Cond.methodLink "PageMachineModel" (228 : Nat) ({ cls := "PageMachineModel", name := "isBelow", desc := "(II)Z" } : Jvm.MethodName)) ∈ gt_bl := gt_in (List.mem_of_getElem? (i := 1178) (by decide +kernel)) (by decide +kernel)
theorem mw_1112 : (Jvm.Cond.static ({ cls := "PageMachineModel", name := "isBelow", desc := "(II)Z" } : Jvm.MethodName)) ∈ gt_bl := gt_in (List.mem_of_getElem? (i := 1179) (by decide +kernel)) (by decide +kernel)
theorem mw_1114 : (Jvm.Cond.methodLink "PageMachineModel" (215 : Nat) ({ cls := "PageMachineModel", name := "sums", desc := "(IIII)V" } : Jvm.MethodName)) ∈ gt_bl := gt_in (List.mem_of_getElem? (i := 1181) (by decide +kernel)) (by decide +kernel)
theorem mw_1116 : (Jvm.Cond.instanceMethod ({ cls := "PageMachineModel", name := "sums", desc := "(IIII)V" } : Jvm.MethodName)) ∈ gt_bl := gt_in (List.mem_of_getElem? (i := 1183) (by decide +kernel)) (by decide +kernel)
theorem mw_1118 : (Jvm.Cond.methodLink "PageMachineModel" (173 : Nat) ({ cls := "PageMachineModel", name := "byRegister", desc := "(III)V" } : Jvm.MethodName)) ∈ gt_bl := gt_in (List.mem_of_getElem? (i := 1185) (by decide +kernel)) (by decide +kernel)
theorem mw_1120 : (Jvm.Cond.instanceMethod ({ cls := "PageMachineModel", name := "byRegister", desc := "(III)V" } : Jvm.MethodName)) ∈ gt_bl := gt_in (List.mem_of_getElem? (i := 1187) (by decide +kernel)) (by decide +kernel)
theorem mw_1122 : (Jvm.Cond.methodLink "PageMachineModel" (176 : Nat) ({ cls := "PageMachineModel", name := "branches", desc := "(IIIII)V" } : Jvm.MethodName)) ∈ gt_bl := gt_in (List.mem_of_getElem? (i := 1189) (by decide +kernel)) (by decide +kernel)
theorem mw_1124 : (Jvm.Cond.instanceMethod ({ cls := "PageMachineModel", name := "branches", desc := "(IIIII)V" } : Jvm.MethodName)) ∈ gt_bl := gt_in (List.mem_of_getElem? (i := 1191) (by decide +kernel)) (by decide +kernel)
theorem mw_1126 : (Jvm.Cond.constant "PageMachineModel" (231 : Nat) (-268435456 : Int32)) ∈ gt_bl := gt_in (List.mem_of_getElem? (i := 1193) (by decide +kernel)) (by decide +kernel)
theorem mw_1127 : (Jvm.Cond.methodLink "PageMachineModel" (180 : Nat) ({ cls := "PageMachineModel", name := "immediate", desc := "(IIII)V" } : Jvm.MethodName)) ∈ gt_bl := gt_in (List.mem_of_getElem? (i := 1194) (by decide +kernel)) (by decide +kernel)
theorem mw_1129 : (Jvm.Cond.instanceMethod ({ cls := "PageMachineModel", name := "immediate", desc := "(IIII)V" } : Jvm.MethodName)) ∈ gt_bl := gt_in (List.mem_of_getElem? (i := 1196) (by decide +kernel)) (by decide +kernel)
theorem mw_1131 : (Jvm.Cond.constant "PageMachineModel" (232 : Nat) (65535 : Int32)) ∈ gt_bl := gt_in (List.mem_of_getElem? (i := 1198) (by decide +kernel)) (by decide +kernel)
theorem mw_1132 : (Jvm.Cond.methodLink "PageMachineModel" (184 : Nat) ({ cls := "PageMachineModel", name := "system", desc := "(IIII)V" } : Jvm.MethodName)) ∈ gt_bl := gt_in (List.mem_of_getElem? (i := 1199) (by decide +kernel)) (by decide +kernel)
theorem mw_1134 : (Jvm.Cond.instanceMethod ({ cls := "PageMachineModel", name := "system", desc := "(IIII)V" } : Jvm.MethodName)) ∈ gt_bl := gt_in (List.mem_of_getElem? (i := 1201) (by decide +kernel)) (by decide +kernel)
theorem mw_1136 : (Jvm.Cond.methodLink "PageMachineModel" (236 : Nat) ({ cls := "PageMachineModel", name := "tables", desc := "(I)V" } : Jvm.MethodName)) ∈ gt_bl := gt_in (List.mem_of_getElem? (i := 1203) (by decide +kernel)) (by decide +kernel)
theorem mw_1138 : (Jvm.Cond.instanceMethod ({ cls := "PageMachineModel", name := "tables", desc := "(I)V" } : Jvm.MethodName)) ∈ gt_bl := gt_in (List.mem_of_getElem? (i := 1205) (by decide +kernel)) (by decide +kernel)
theorem mw_1140 : (Jvm.Cond.methodLink "PageMachineModel" (239 : Nat) ({ cls := "PageMachineModel", name := "setEntry", desc := "(I)V" } : Jvm.MethodName)) ∈ gt_bl := gt_in (List.mem_of_getElem? (i := 1207) (by decide +kernel)) (by decide +kernel)
theorem mw_1142 : (Jvm.Cond.instanceMethod ({ cls := "PageMachineModel", name := "setEntry", desc := "(I)V" } : Jvm.MethodName)) ∈ gt_bl := gt_in (List.mem_of_getElem? (i := 1209) (by decide +kernel)) (by decide +kernel)
theorem mw_1144 : (Jvm.Cond.methodLink "PageMachineModel" (187 : Nat) ({ cls := "PageMachineModel", name := "multiplies", desc := "(III)V" } : Jvm.MethodName)) ∈ gt_bl := gt_in (List.mem_of_getElem? (i := 1211) (by decide +kernel)) (by decide +kernel)
theorem mw_1146 : (Jvm.Cond.instanceMethod ({ cls := "PageMachineModel", name := "multiplies", desc := "(III)V" } : Jvm.MethodName)) ∈ gt_bl := gt_in (List.mem_of_getElem? (i := 1213) (by decide +kernel)) (by decide +kernel)
theorem mw_1148 : (Jvm.Cond.methodLink "PageMachineModel" (233 : Nat) ({ cls := "PageMachineModel", name := "zeros", desc := "(I)I" } : Jvm.MethodName)) ∈ gt_bl := gt_in (List.mem_of_getElem? (i := 1215) (by decide +kernel)) (by decide +kernel)
theorem mw_1149 : (Jvm.Cond.static ({ cls := "PageMachineModel", name := "zeros", desc := "(I)I" } : Jvm.MethodName)) ∈ gt_bl := gt_in (List.mem_of_getElem? (i := 1216) (by decide +kernel)) (by decide +kernel)
theorem mw_1151 : (Jvm.Cond.methodLink "PageMachineModel" (190 : Nat) ({ cls := "PageMachineModel", name := "memories", desc := "(III)V" } : Jvm.MethodName)) ∈ gt_bl := gt_in (List.mem_of_getElem? (i := 1218) (by decide +kernel)) (by decide +kernel)
theorem mw_1153 : (Jvm.Cond.instanceMethod ({ cls := "PageMachineModel", name := "memories", desc := "(III)V" } : Jvm.MethodName)) ∈ gt_bl := gt_in (List.mem_of_getElem? (i := 1220) (by decide +kernel)) (by decide +kernel)
theorem mw_1155 : (Jvm.Cond.methodLink "PageMachineModel" (193 : Nat) ({ cls := "PageMachineModel", name := "other", desc := "(I)V" } : Jvm.MethodName)) ∈ gt_bl := gt_in (List.mem_of_getElem? (i := 1222) (by decide +kernel)) (by decide +kernel)
theorem mw_1157 : (Jvm.Cond.instanceMethod ({ cls := "PageMachineModel", name := "other", desc := "(I)V" } : Jvm.MethodName)) ∈ gt_bl := gt_in (List.mem_of_getElem? (i := 1224) (by decide +kernel)) (by decide +kernel)
theorem mw_1159 : (Jvm.Cond.methodLink "PageMachineModel" (245 : Nat) ({ cls := "PageMachineModel", name := "partly", desc := "(IIJ)V" } : Jvm.MethodName)) ∈ gt_bl := gt_in (List.mem_of_getElem? (i := 1226) (by decide +kernel)) (by decide +kernel)
theorem mw_1161 : (Jvm.Cond.instanceMethod ({ cls := "PageMachineModel", name := "partly", desc := "(IIJ)V" } : Jvm.MethodName)) ∈ gt_bl := gt_in (List.mem_of_getElem? (i := 1228) (by decide +kernel)) (by decide +kernel)
theorem mw_1163 : (Jvm.Cond.methodLink "PageMachineModel" (260 : Nat) ({ cls := "PageMachineModel", name := "store", desc := "(JII)V" } : Jvm.MethodName)) ∈ gt_bl := gt_in (List.mem_of_getElem? (i := 1230) (by decide +kernel)) (by decide +kernel)
theorem mw_1165 : (Jvm.Cond.instanceMethod ({ cls := "PageMachineModel", name := "store", desc := "(JII)V" } : Jvm.MethodName)) ∈ gt_bl := gt_in (List.mem_of_getElem? (i := 1232) (by decide +kernel)) (by decide +kernel)
theorem mw_1167 : (Jvm.Cond.methodLink "PageMachineModel" (256 : Nat) ({ cls := "PageMachineModel", name := "bytesAt", desc := "(JI)I" } : Jvm.MethodName)) ∈ gt_bl := gt_in (List.mem_of_getElem? (i := 1234) (by decide +kernel)) (by decide +kernel)
theorem mw_1169 : (Jvm.Cond.instanceMethod ({ cls := "PageMachineModel", name := "bytesAt", desc := "(JI)I" } : Jvm.MethodName)) ∈ gt_bl := gt_in (List.mem_of_getElem? (i := 1236) (by decide +kernel)) (by decide +kernel)
theorem mw_1171 : (Jvm.Cond.methodLink "PageMachineModel" (249 : Nat) ({ cls := "PageMachineModel", name := "keep", desc := "(IIIJ)V" } : Jvm.MethodName)) ∈ gt_bl := gt_in (List.mem_of_getElem? (i := 1238) (by decide +kernel)) (by decide +kernel)
theorem mw_1173 : (Jvm.Cond.instanceMethod ({ cls := "PageMachineModel", name := "keep", desc := "(IIIJ)V" } : Jvm.MethodName)) ∈ gt_bl := gt_in (List.mem_of_getElem? (i := 1240) (by decide +kernel)) (by decide +kernel)
theorem mw_1175 : (Jvm.Cond.methodLink "PageMachineModel" (253 : Nat) ({ cls := "PageMachineModel", name := "load", desc := "(IIIJ)V" } : Jvm.MethodName)) ∈ gt_bl := gt_in (List.mem_of_getElem? (i := 1242) (by decide +kernel)) (by decide +kernel)
theorem mw_1177 : (Jvm.Cond.instanceMethod ({ cls := "PageMachineModel", name := "load", desc := "(IIIJ)V" } : Jvm.MethodName)) ∈ gt_bl := gt_in (List.mem_of_getElem? (i := 1244) (by decide +kernel)) (by decide +kernel)
theorem mw_1179 : (Jvm.Cond.methodLink "PageMachineLaw" (79 : Nat) ({ cls := "PageMachineModel", name := "entry", desc := "(II)I" } : Jvm.MethodName)) ∈ gt_bl := gt_in (List.mem_of_getElem? (i := 1246) (by decide +kernel)) (by decide +kernel)
theorem mw_1180 : (Jvm.Cond.instanceMethod ({ cls := "PageMachineModel", name := "entry", desc := "(II)I" } : Jvm.MethodName)) ∈ gt_bl := gt_in (List.mem_of_getElem? (i := 1247) (by decide +kernel)) (by decide +kernel)
theorem mw_1181 : (Jvm.Cond.selects "PageMachineModel" ({ cls := "PageMachineModel", name := "entry", desc := "(II)I" } : Jvm.MethodName) ({ cls := "PageMachineModel", name := "entry", desc := "(II)I" } : Jvm.MethodName)) ∈ gt_bl := gt_in (List.mem_of_getElem? (i := 1248) (by decide +kernel)) (by decide +kernel)
theorem mw_1183 : (Jvm.Cond.methodLink "PageMachineLaw" (82 : Nat) ({ cls := "PageMachineModel", name := "translate", desc := "(II)J" } : Jvm.MethodName)) ∈ gt_bl := gt_in (List.mem_of_getElem? (i := 1250) (by decide +kernel)) (by decide +kernel)
theorem mw_1184 : (Jvm.Cond.instanceMethod ({ cls := "PageMachineModel", name := "translate", desc := "(II)J" } : Jvm.MethodName)) ∈ gt_bl := gt_in (List.mem_of_getElem? (i := 1251) (by decide +kernel)) (by decide +kernel)
theorem mw_1185 : (Jvm.Cond.selects "PageMachineModel" ({ cls := "PageMachineModel", name := "translate", desc := "(II)J" } : Jvm.MethodName) ({ cls := "PageMachineModel", name := "translate", desc := "(II)J" } : Jvm.MethodName)) ∈ gt_bl := gt_in (List.mem_of_getElem? (i := 1252) (by decide +kernel)) (by decide +kernel)
theorem mw_1187 : (Jvm.Cond.constantLong "PageMachineModel" (264 : Nat) (-101 : Int64)) ∈ gt_bl := gt_in (List.mem_of_getElem? (i := 1254) (by decide +kernel)) (by decide +kernel)
theorem mw_1188 : (Jvm.Cond.methodLink "PageMachineLaw" (86 : Nat) ({ cls := "PageMachineModel", name := "handler", desc := "()I" } : Jvm.MethodName)) ∈ gt_bl := gt_in (List.mem_of_getElem? (i := 1255) (by decide +kernel)) (by decide +kernel)
theorem mw_1189 : (Jvm.Cond.instanceMethod ({ cls := "PageMachineModel", name := "handler", desc := "()I" } : Jvm.MethodName)) ∈ gt_bl := gt_in (List.mem_of_getElem? (i := 1256) (by decide +kernel)) (by decide +kernel)
theorem mw_1190 : (Jvm.Cond.selects "PageMachineModel" ({ cls := "PageMachineModel", name := "handler", desc := "()I" } : Jvm.MethodName) ({ cls := "PageMachineModel", name := "handler", desc := "()I" } : Jvm.MethodName)) ∈ gt_bl := gt_in (List.mem_of_getElem? (i := 1257) (by decide +kernel)) (by decide +kernel)
theorem mw_1192 : (Jvm.Cond.constant "PageMachineModel" (266 : Nat) (1075519488 : Int32)) ∈ gt_bl := gt_in (List.mem_of_getElem? (i := 1259) (by decide +kernel)) (by decide +kernel)
theorem mw_1193 : (Jvm.Cond.constant "PageMachineModel" (267 : Nat) (-1887830016 : Int32)) ∈ gt_bl := gt_in (List.mem_of_getElem? (i := 1260) (by decide +kernel)) (by decide +kernel)
theorem mw_1194 : (Jvm.Cond.constant "PageMachineModel" (268 : Nat) (1083838464 : Int32)) ∈ gt_bl := gt_in (List.mem_of_getElem? (i := 1261) (by decide +kernel)) (by decide +kernel)
theorem mw_1195 : (Jvm.Cond.constant "PageMachineModel" (269 : Nat) (-1887764476 : Int32)) ∈ gt_bl := gt_in (List.mem_of_getElem? (i := 1262) (by decide +kernel)) (by decide +kernel)
theorem mw_1196 : (Jvm.Cond.constant "PageMachineModel" (270 : Nat) (1083906048 : Int32)) ∈ gt_bl := gt_in (List.mem_of_getElem? (i := 1263) (by decide +kernel)) (by decide +kernel)
theorem mw_1197 : (Jvm.Cond.constant "PageMachineModel" (271 : Nat) (1107296262 : Int32)) ∈ gt_bl := gt_in (List.mem_of_getElem? (i := 1264) (by decide +kernel)) (by decide +kernel)
theorem mw_1198 : (Jvm.Cond.constant "PageMachineModel" (272 : Nat) (1107296280 : Int32)) ∈ gt_bl := gt_in (List.mem_of_getElem? (i := 1265) (by decide +kernel)) (by decide +kernel)
theorem mw_1199 : (Jvm.Cond.methodLink "PageMachineLaw" (89 : Nat) ({ cls := "PageMachineModel", name := "count", desc := "(I)I" } : Jvm.MethodName)) ∈ gt_bl := gt_in (List.mem_of_getElem? (i := 1266) (by decide +kernel)) (by decide +kernel)
theorem mw_1200 : (Jvm.Cond.instanceMethod ({ cls := "PageMachineModel", name := "count", desc := "(I)I" } : Jvm.MethodName)) ∈ gt_bl := gt_in (List.mem_of_getElem? (i := 1267) (by decide +kernel)) (by decide +kernel)
theorem mw_1201 : (Jvm.Cond.selects "PageMachineModel" ({ cls := "PageMachineModel", name := "count", desc := "(I)I" } : Jvm.MethodName) ({ cls := "PageMachineModel", name := "count", desc := "(I)I" } : Jvm.MethodName)) ∈ gt_bl := gt_in (List.mem_of_getElem? (i := 1268) (by decide +kernel)) (by decide +kernel)
theorem mw_1203 : (Jvm.Cond.arrayClass Jvm.ClassFile.FieldType.long) ∈ gt_bl := gt_in (List.mem_of_getElem? (i := 1270) (by decide +kernel)) (by decide +kernel)
theorem mp_0 : Cond.selects "PageMachine" ⟨"PageMachine", "checkWordAddress", "(I)V"⟩ ⟨"PageMachine", "checkWordAddress", "(I)V"⟩ ∈ gt_bl := gt_in (List.mem_of_getElem? (i := 0) (by decide +kernel)) (by decide +kernel)
theorem mp_1 : Cond.selects "java/lang/Throwable" ⟨"java/lang/Throwable", "fillInStackTrace", "(I)Ljava/lang/Throwable;"⟩ ⟨"java/lang/Throwable", "fillInStackTrace", "(I)Ljava/lang/Throwable;"⟩ ∈ gt_bl := gt_in (List.mem_of_getElem? (i := 1) (by decide +kernel)) (by decide +kernel)
theorem mp_2 : Cond.selects "PageMachine$Processor" ⟨"PageMachine$Processor", "enter", "(I)V"⟩ ⟨"PageMachine$Processor", "enter", "(I)V"⟩ ∈ gt_bl := gt_in (List.mem_of_getElem? (i := 2) (by decide +kernel)) (by decide +kernel)
theorem mp_3 : Cond.selects "PageMachine$SystemRegisters" ⟨"PageMachine$SystemRegisters", "noteAddress", "(II)V"⟩ ⟨"PageMachine$SystemRegisters", "noteAddress", "(II)V"⟩ ∈ gt_bl := gt_in (List.mem_of_getElem? (i := 3) (by decide +kernel)) (by decide +kernel)
theorem mp_4 : Cond.selects "PageMachine$Processor" ⟨"PageMachine$Processor", "fetch", "()I"⟩ ⟨"PageMachine$Processor", "fetch", "()I"⟩ ∈ gt_bl := gt_in (List.mem_of_getElem? (i := 4) (by decide +kernel)) (by decide +kernel)
theorem mp_5 : Cond.selects "PageMachine$AddressSpace" ⟨"PageMachine$AddressSpace", "locateMapped", "(II)J"⟩ ⟨"PageMachine$AddressSpace", "locateMapped", "(II)J"⟩ ∈ gt_bl := gt_in (List.mem_of_getElem? (i := 5) (by decide +kernel)) (by decide +kernel)
theorem mp_6 : Cond.selects "PageMachine$Processor" ⟨"PageMachine$Processor", "perform", "(I)I"⟩ ⟨"PageMachine$Processor", "perform", "(I)I"⟩ ∈ gt_bl := gt_in (List.mem_of_getElem? (i := 6) (by decide +kernel)) (by decide +kernel)
theorem mp_7 : Cond.selects "PageMachine$Processor" ⟨"PageMachine$Processor", "performOp0", "()I"⟩ ⟨"PageMachine$Processor", "performOp0", "()I"⟩ ∈ gt_bl := gt_in (List.mem_of_getElem? (i := 7) (by decide +kernel)) (by decide +kernel)
theorem mp_8 : Cond.selects "PageMachine$Arithmetic" ⟨"PageMachine$Arithmetic", "shift", "(I)I"⟩ ⟨"PageMachine$Arithmetic", "shift", "(I)I"⟩ ∈ gt_bl := gt_in (List.mem_of_getElem? (i := 8) (by decide +kernel)) (by decide +kernel)
theorem mp_9 : Cond.selects "PageMachine$Arithmetic" ⟨"PageMachine$Arithmetic", "moveOrCall", "(I)I"⟩ ⟨"PageMachine$Arithmetic", "moveOrCall", "(I)I"⟩ ∈ gt_bl := gt_in (List.mem_of_getElem? (i := 9) (by decide +kernel)) (by decide +kernel)
theorem mp_10 : Cond.selects "PageMachine$Arithmetic" ⟨"PageMachine$Arithmetic", "moveHiLo", "(I)I"⟩ ⟨"PageMachine$Arithmetic", "moveHiLo", "(I)I"⟩ ∈ gt_bl := gt_in (List.mem_of_getElem? (i := 10) (by decide +kernel)) (by decide +kernel)
theorem mp_11 : Cond.selects "PageMachine$Arithmetic" ⟨"PageMachine$Arithmetic", "multiplyOrDivide", "(I)I"⟩ ⟨"PageMachine$Arithmetic", "multiplyOrDivide", "(I)I"⟩ ∈ gt_bl := gt_in (List.mem_of_getElem? (i := 11) (by decide +kernel)) (by decide +kernel)
theorem mp_12 : Cond.selects "PageMachine$Arithmetic" ⟨"PageMachine$Arithmetic", "product", "()J"⟩ ⟨"PageMachine$Arithmetic", "product", "()J"⟩ ∈ gt_bl := gt_in (List.mem_of_getElem? (i := 12) (by decide +kernel)) (by decide +kernel)
theorem mp_13 : Cond.selects "PageMachine$Arithmetic" ⟨"PageMachine$Arithmetic", "plainProduct", "()J"⟩ ⟨"PageMachine$Arithmetic", "plainProduct", "()J"⟩ ∈ gt_bl := gt_in (List.mem_of_getElem? (i := 13) (by decide +kernel)) (by decide +kernel)
theorem mp_14 : Cond.selects "PageMachine$Arithmetic" ⟨"PageMachine$Arithmetic", "divide", "(JJ)I"⟩ ⟨"PageMachine$Arithmetic", "divide", "(JJ)I"⟩ ∈ gt_bl := gt_in (List.mem_of_getElem? (i := 14) (by decide +kernel)) (by decide +kernel)
theorem mp_15 : Cond.selects "PageMachine$Arithmetic" ⟨"PageMachine$Arithmetic", "addOrCombine", "(I)I"⟩ ⟨"PageMachine$Arithmetic", "addOrCombine", "(I)I"⟩ ∈ gt_bl := gt_in (List.mem_of_getElem? (i := 15) (by decide +kernel)) (by decide +kernel)
theorem mp_16 : Cond.selects "PageMachine$Arithmetic" ⟨"PageMachine$Arithmetic", "putChecked", "(IJ)I"⟩ ⟨"PageMachine$Arithmetic", "putChecked", "(IJ)I"⟩ ∈ gt_bl := gt_in (List.mem_of_getElem? (i := 16) (by decide +kernel)) (by decide +kernel)
theorem mp_17 : Cond.selects "PageMachine$Arithmetic" ⟨"PageMachine$Arithmetic", "compare", "(I)I"⟩ ⟨"PageMachine$Arithmetic", "compare", "(I)I"⟩ ∈ gt_bl := gt_in (List.mem_of_getElem? (i := 17) (by decide +kernel)) (by decide +kernel)
theorem mp_18 : Cond.selects "PageMachine$Arithmetic" ⟨"PageMachine$Arithmetic", "trap", "(II)I"⟩ ⟨"PageMachine$Arithmetic", "trap", "(II)I"⟩ ∈ gt_bl := gt_in (List.mem_of_getElem? (i := 18) (by decide +kernel)) (by decide +kernel)
theorem mp_19 : Cond.selects "PageMachine$Processor" ⟨"PageMachine$Processor", "performOp1", "()I"⟩ ⟨"PageMachine$Processor", "performOp1", "()I"⟩ ∈ gt_bl := gt_in (List.mem_of_getElem? (i := 19) (by decide +kernel)) (by decide +kernel)
theorem mp_20 : Cond.selects "PageMachine$Branches" ⟨"PageMachine$Branches", "branch", "(ZZ)V"⟩ ⟨"PageMachine$Branches", "branch", "(ZZ)V"⟩ ∈ gt_bl := gt_in (List.mem_of_getElem? (i := 20) (by decide +kernel)) (by decide +kernel)
theorem mp_21 : Cond.selects "PageMachine$Coprocessor" ⟨"PageMachine$Coprocessor", "command", "(I)I"⟩ ⟨"PageMachine$Coprocessor", "command", "(I)I"⟩ ∈ gt_bl := gt_in (List.mem_of_getElem? (i := 21) (by decide +kernel)) (by decide +kernel)
theorem mp_22 : Cond.selects "PageMachine$Coprocessor" ⟨"PageMachine$Coprocessor", "readEntry", "(I)I"⟩ ⟨"PageMachine$Coprocessor", "readEntry", "(I)I"⟩ ∈ gt_bl := gt_in (List.mem_of_getElem? (i := 22) (by decide +kernel)) (by decide +kernel)
theorem mp_23 : Cond.selects "PageMachine$Coprocessor" ⟨"PageMachine$Coprocessor", "writeEntry", "(I)I"⟩ ⟨"PageMachine$Coprocessor", "writeEntry", "(I)I"⟩ ∈ gt_bl := gt_in (List.mem_of_getElem? (i := 23) (by decide +kernel)) (by decide +kernel)
theorem mp_24 : Cond.selects "PageMachine$Coprocessor" ⟨"PageMachine$Coprocessor", "probe", "()I"⟩ ⟨"PageMachine$Coprocessor", "probe", "()I"⟩ ∈ gt_bl := gt_in (List.mem_of_getElem? (i := 24) (by decide +kernel)) (by decide +kernel)
theorem mp_25 : Cond.selects "PageMachine$Coprocessor" ⟨"PageMachine$Coprocessor", "leaveFault", "()I"⟩ ⟨"PageMachine$Coprocessor", "leaveFault", "()I"⟩ ∈ gt_bl := gt_in (List.mem_of_getElem? (i := 25) (by decide +kernel)) (by decide +kernel)
theorem mp_26 : Cond.selects "PageMachine$Arithmetic" ⟨"PageMachine$Arithmetic", "hiLo", "()J"⟩ ⟨"PageMachine$Arithmetic", "hiLo", "()J"⟩ ∈ gt_bl := gt_in (List.mem_of_getElem? (i := 26) (by decide +kernel)) (by decide +kernel)
theorem mp_27 : Cond.selects "PageMachine$LoadsAndStores" ⟨"PageMachine$LoadsAndStores", "address", "()I"⟩ ⟨"PageMachine$LoadsAndStores", "address", "()I"⟩ ∈ gt_bl := gt_in (List.mem_of_getElem? (i := 27) (by decide +kernel)) (by decide +kernel)
theorem mp_28 : Cond.selects "PageMachine$LoadsAndStores" ⟨"PageMachine$LoadsAndStores", "endLink", "()I"⟩ ⟨"PageMachine$LoadsAndStores", "endLink", "()I"⟩ ∈ gt_bl := gt_in (List.mem_of_getElem? (i := 28) (by decide +kernel)) (by decide +kernel)
theorem mp_29 : Cond.selects "PageMachineModel" ⟨"PageMachineModel", "fail", "(I)I"⟩ ⟨"PageMachineModel", "fail", "(I)I"⟩ ∈ gt_bl := gt_in (List.mem_of_getElem? (i := 29) (by decide +kernel)) (by decide +kernel)
theorem mp_30 : Cond.selects "PageMachineModel" ⟨"PageMachineModel", "write", "(II)V"⟩ ⟨"PageMachineModel", "write", "(II)V"⟩ ∈ gt_bl := gt_in (List.mem_of_getElem? (i := 30) (by decide +kernel)) (by decide +kernel)
theorem mp_31 : Cond.selects "PageMachineModel" ⟨"PageMachineModel", "put", "(II)V"⟩ ⟨"PageMachineModel", "put", "(II)V"⟩ ∈ gt_bl := gt_in (List.mem_of_getElem? (i := 31) (by decide +kernel)) (by decide +kernel)
theorem mp_32 : Cond.selects "PageMachineModel" ⟨"PageMachineModel", "read", "(I)I"⟩ ⟨"PageMachineModel", "read", "(I)I"⟩ ∈ gt_bl := gt_in (List.mem_of_getElem? (i := 32) (by decide +kernel)) (by decide +kernel)
theorem mp_33 : Cond.selects "PageMachineModel" ⟨"PageMachineModel", "go", "()Z"⟩ ⟨"PageMachineModel", "go", "()Z"⟩ ∈ gt_bl := gt_in (List.mem_of_getElem? (i := 33) (by decide +kernel)) (by decide +kernel)
theorem mp_34 : Cond.selects "PageMachineModel" ⟨"PageMachineModel", "isCalled", "()Z"⟩ ⟨"PageMachineModel", "isCalled", "()Z"⟩ ∈ gt_bl := gt_in (List.mem_of_getElem? (i := 34) (by decide +kernel)) (by decide +kernel)
theorem mp_35 : Cond.selects "PageMachineModel" ⟨"PageMachineModel", "isIn", "(I)Z"⟩ ⟨"PageMachineModel", "isIn", "(I)Z"⟩ ∈ gt_bl := gt_in (List.mem_of_getElem? (i := 35) (by decide +kernel)) (by decide +kernel)
theorem mp_36 : Cond.selects "PageMachineModel" ⟨"PageMachineModel", "enter", "()V"⟩ ⟨"PageMachineModel", "enter", "()V"⟩ ∈ gt_bl := gt_in (List.mem_of_getElem? (i := 36) (by decide +kernel)) (by decide +kernel)
theorem mp_37 : Cond.selects "PageMachineModel" ⟨"PageMachineModel", "aligned", "(IIZZ)J"⟩ ⟨"PageMachineModel", "aligned", "(IIZZ)J"⟩ ∈ gt_bl := gt_in (List.mem_of_getElem? (i := 37) (by decide +kernel)) (by decide +kernel)
theorem mp_38 : Cond.selects "PageMachineModel" ⟨"PageMachineModel", "wrong", "(II)Z"⟩ ⟨"PageMachineModel", "wrong", "(II)Z"⟩ ∈ gt_bl := gt_in (List.mem_of_getElem? (i := 38) (by decide +kernel)) (by decide +kernel)
theorem mp_39 : Cond.selects "PageMachineModel" ⟨"PageMachineModel", "physical", "(IZZ)J"⟩ ⟨"PageMachineModel", "physical", "(IZZ)J"⟩ ∈ gt_bl := gt_in (List.mem_of_getElem? (i := 39) (by decide +kernel)) (by decide +kernel)
theorem mp_40 : Cond.selects "PageMachineModel" ⟨"PageMachineModel", "isUser", "()Z"⟩ ⟨"PageMachineModel", "isUser", "()Z"⟩ ∈ gt_bl := gt_in (List.mem_of_getElem? (i := 40) (by decide +kernel)) (by decide +kernel)
theorem mp_41 : Cond.selects "PageMachineModel" ⟨"PageMachineModel", "entryOf", "(I)I"⟩ ⟨"PageMachineModel", "entryOf", "(I)I"⟩ ∈ gt_bl := gt_in (List.mem_of_getElem? (i := 41) (by decide +kernel)) (by decide +kernel)
theorem mp_42 : Cond.selects "PageMachineModel" ⟨"PageMachineModel", "matches", "(II)Z"⟩ ⟨"PageMachineModel", "matches", "(II)Z"⟩ ∈ gt_bl := gt_in (List.mem_of_getElem? (i := 42) (by decide +kernel)) (by decide +kernel)
theorem mp_43 : Cond.selects "PageMachineModel" ⟨"PageMachineModel", "perform", "(I)V"⟩ ⟨"PageMachineModel", "perform", "(I)V"⟩ ∈ gt_bl := gt_in (List.mem_of_getElem? (i := 43) (by decide +kernel)) (by decide +kernel)
theorem mp_44 : Cond.selects "PageMachineModel" ⟨"PageMachineModel", "special", "(III)V"⟩ ⟨"PageMachineModel", "special", "(III)V"⟩ ∈ gt_bl := gt_in (List.mem_of_getElem? (i := 44) (by decide +kernel)) (by decide +kernel)
theorem mp_45 : Cond.selects "PageMachineModel" ⟨"PageMachineModel", "raise", "(I)I"⟩ ⟨"PageMachineModel", "raise", "(I)I"⟩ ∈ gt_bl := gt_in (List.mem_of_getElem? (i := 45) (by decide +kernel)) (by decide +kernel)
theorem mp_46 : Cond.selects "PageMachineModel" ⟨"PageMachineModel", "branch", "(ZIZ)V"⟩ ⟨"PageMachineModel", "branch", "(ZIZ)V"⟩ ∈ gt_bl := gt_in (List.mem_of_getElem? (i := 46) (by decide +kernel)) (by decide +kernel)
theorem mp_47 : Cond.selects "PageMachineModel" ⟨"PageMachineModel", "shift", "(IIII)V"⟩ ⟨"PageMachineModel", "shift", "(IIII)V"⟩ ∈ gt_bl := gt_in (List.mem_of_getElem? (i := 47) (by decide +kernel)) (by decide +kernel)
theorem mp_48 : Cond.selects "PageMachineModel" ⟨"PageMachineModel", "moves", "(IIII)V"⟩ ⟨"PageMachineModel", "moves", "(IIII)V"⟩ ∈ gt_bl := gt_in (List.mem_of_getElem? (i := 48) (by decide +kernel)) (by decide +kernel)
theorem mp_49 : Cond.selects "PageMachineModel" ⟨"PageMachineModel", "divides", "(III)V"⟩ ⟨"PageMachineModel", "divides", "(III)V"⟩ ∈ gt_bl := gt_in (List.mem_of_getElem? (i := 49) (by decide +kernel)) (by decide +kernel)
theorem mp_50 : Cond.selects "PageMachineModel" ⟨"PageMachineModel", "setBoth", "(J)V"⟩ ⟨"PageMachineModel", "setBoth", "(J)V"⟩ ∈ gt_bl := gt_in (List.mem_of_getElem? (i := 50) (by decide +kernel)) (by decide +kernel)
theorem mp_51 : Cond.selects "PageMachineModel" ⟨"PageMachineModel", "trap", "(III)V"⟩ ⟨"PageMachineModel", "trap", "(III)V"⟩ ∈ gt_bl := gt_in (List.mem_of_getElem? (i := 51) (by decide +kernel)) (by decide +kernel)
theorem mp_52 : Cond.selects "PageMachineModel" ⟨"PageMachineModel", "sums", "(IIII)V"⟩ ⟨"PageMachineModel", "sums", "(IIII)V"⟩ ∈ gt_bl := gt_in (List.mem_of_getElem? (i := 52) (by decide +kernel)) (by decide +kernel)
theorem mp_53 : Cond.selects "PageMachineModel" ⟨"PageMachineModel", "byRegister", "(III)V"⟩ ⟨"PageMachineModel", "byRegister", "(III)V"⟩ ∈ gt_bl := gt_in (List.mem_of_getElem? (i := 53) (by decide +kernel)) (by decide +kernel)
theorem mp_54 : Cond.selects "PageMachineModel" ⟨"PageMachineModel", "branches", "(IIIII)V"⟩ ⟨"PageMachineModel", "branches", "(IIIII)V"⟩ ∈ gt_bl := gt_in (List.mem_of_getElem? (i := 54) (by decide +kernel)) (by decide +kernel)
theorem mp_55 : Cond.selects "PageMachineModel" ⟨"PageMachineModel", "immediate", "(IIII)V"⟩ ⟨"PageMachineModel", "immediate", "(IIII)V"⟩ ∈ gt_bl := gt_in (List.mem_of_getElem? (i := 55) (by decide +kernel)) (by decide +kernel)
theorem mp_56 : Cond.selects "PageMachineModel" ⟨"PageMachineModel", "system", "(IIII)V"⟩ ⟨"PageMachineModel", "system", "(IIII)V"⟩ ∈ gt_bl := gt_in (List.mem_of_getElem? (i := 56) (by decide +kernel)) (by decide +kernel)
theorem mp_57 : Cond.selects "PageMachineModel" ⟨"PageMachineModel", "tables", "(I)V"⟩ ⟨"PageMachineModel", "tables", "(I)V"⟩ ∈ gt_bl := gt_in (List.mem_of_getElem? (i := 57) (by decide +kernel)) (by decide +kernel)
theorem mp_58 : Cond.selects "PageMachineModel" ⟨"PageMachineModel", "setEntry", "(I)V"⟩ ⟨"PageMachineModel", "setEntry", "(I)V"⟩ ∈ gt_bl := gt_in (List.mem_of_getElem? (i := 58) (by decide +kernel)) (by decide +kernel)
theorem mp_59 : Cond.selects "PageMachineModel" ⟨"PageMachineModel", "multiplies", "(III)V"⟩ ⟨"PageMachineModel", "multiplies", "(III)V"⟩ ∈ gt_bl := gt_in (List.mem_of_getElem? (i := 59) (by decide +kernel)) (by decide +kernel)
theorem mp_60 : Cond.selects "PageMachineModel" ⟨"PageMachineModel", "memories", "(III)V"⟩ ⟨"PageMachineModel", "memories", "(III)V"⟩ ∈ gt_bl := gt_in (List.mem_of_getElem? (i := 60) (by decide +kernel)) (by decide +kernel)
theorem mp_61 : Cond.selects "PageMachineModel" ⟨"PageMachineModel", "other", "(I)V"⟩ ⟨"PageMachineModel", "other", "(I)V"⟩ ∈ gt_bl := gt_in (List.mem_of_getElem? (i := 61) (by decide +kernel)) (by decide +kernel)
theorem mp_62 : Cond.selects "PageMachineModel" ⟨"PageMachineModel", "partly", "(IIJ)V"⟩ ⟨"PageMachineModel", "partly", "(IIJ)V"⟩ ∈ gt_bl := gt_in (List.mem_of_getElem? (i := 62) (by decide +kernel)) (by decide +kernel)
theorem mp_63 : Cond.selects "PageMachineModel" ⟨"PageMachineModel", "store", "(JII)V"⟩ ⟨"PageMachineModel", "store", "(JII)V"⟩ ∈ gt_bl := gt_in (List.mem_of_getElem? (i := 63) (by decide +kernel)) (by decide +kernel)
theorem mp_64 : Cond.selects "PageMachineModel" ⟨"PageMachineModel", "bytesAt", "(JI)I"⟩ ⟨"PageMachineModel", "bytesAt", "(JI)I"⟩ ∈ gt_bl := gt_in (List.mem_of_getElem? (i := 64) (by decide +kernel)) (by decide +kernel)
theorem mp_65 : Cond.selects "PageMachineModel" ⟨"PageMachineModel", "keep", "(IIIJ)V"⟩ ⟨"PageMachineModel", "keep", "(IIIJ)V"⟩ ∈ gt_bl := gt_in (List.mem_of_getElem? (i := 65) (by decide +kernel)) (by decide +kernel)
theorem mp_66 : Cond.selects "PageMachineModel" ⟨"PageMachineModel", "load", "(IIIJ)V"⟩ ⟨"PageMachineModel", "load", "(IIIJ)V"⟩ ∈ gt_bl := gt_in (List.mem_of_getElem? (i := 66) (by decide +kernel)) (by decide +kernel)
end
section
def R_PM : String := "PageMachine"
def T_PM : u_T := fun k => match k with
  | 0 => ("PageMachine", "memory", "LPageMachine$Memory;", true)
  | 1 => ("PageMachine", "system", "LPageMachine$SystemRegisters;", true)
  | 2 => ("PageMachine", "tlb", "LPageMachine$Tlb;", true)
  | 3 => ("PageMachine", "space", "LPageMachine$AddressSpace;", true)
  | 4 => ("PageMachine", "core", "LPageMachine$Core;", true)
  | _ => ("PageMachine", "processor", "LPageMachine$Processor;", true)
def ty_PM : Nat → FieldType := fun k => match k with
  | 0 => .object "PageMachine$Memory"
  | 1 => .object "PageMachine$SystemRegisters"
  | 2 => .object "PageMachine$Tlb"
  | 3 => .object "PageMachine$AddressSpace"
  | 4 => .object "PageMachine$Core"
  | _ => .object "PageMachine$Processor"
theorem nm_PM : ∀ a, a < 6 → ∀ b, b < 6 → a ≠ b → (T_PM a).2.1 ≠ (T_PM b).2.1 := by decide +kernel
theorem tyok_PM : ∀ k, k < 6 → parseFieldDescriptor (T_PM k).2.2.1 = some (ty_PM k) := by decide +kernel
theorem i_PM : ∀ x ∈ u_ws "PageMachine" T_PM 6, x ∈ gt_bl := List.forall_mem_cons.mpr ⟨mw_244, List.forall_mem_cons.mpr ⟨mw_246, List.forall_mem_cons.mpr ⟨mw_248, List.forall_mem_cons.mpr ⟨mw_250, List.forall_mem_cons.mpr ⟨mw_252, List.forall_mem_cons.mpr ⟨mw_254, fun _ h => absurd h List.not_mem_nil⟩⟩⟩⟩⟩⟩
def R_ME : String := "PageMachine$Memory"
def T_ME : u_T := fun k => match k with
  | _ => ("PageMachine$Memory", "words", "[I", true)
def ty_ME : Nat → FieldType := fun k => match k with
  | _ => .array .int
theorem nm_ME : ∀ a, a < 1 → ∀ b, b < 1 → a ≠ b → (T_ME a).2.1 ≠ (T_ME b).2.1 := by decide +kernel
theorem tyok_ME : ∀ k, k < 1 → parseFieldDescriptor (T_ME k).2.2.1 = some (ty_ME k) := by decide +kernel
theorem i_ME : ∀ x ∈ u_ws "PageMachine$Memory" T_ME 1, x ∈ gt_bl := List.forall_mem_cons.mpr ⟨mw_36, fun _ h => absurd h List.not_mem_nil⟩
def R_SR : String := "PageMachine$SystemRegisters"
def T_SR : u_T := fun k => match k with
  | 0 => ("PageMachine$SystemRegisters", "values", "[I", true)
  | 1 => ("PageMachine$SystemRegisters", "lines", "I", false)
  | _ => ("PageMachine$SystemRegisters", "timerIsDue", "Z", false)
def ty_SR : Nat → FieldType := fun k => match k with
  | 0 => .array .int
  | 1 => .int
  | _ => .boolean
theorem nm_SR : ∀ a, a < 3 → ∀ b, b < 3 → a ≠ b → (T_SR a).2.1 ≠ (T_SR b).2.1 := by decide +kernel
theorem tyok_SR : ∀ k, k < 3 → parseFieldDescriptor (T_SR k).2.2.1 = some (ty_SR k) := by decide +kernel
theorem i_SR : ∀ x ∈ u_ws "PageMachine$SystemRegisters" T_SR 3, x ∈ gt_bl := List.forall_mem_cons.mpr ⟨mw_50, List.forall_mem_cons.mpr ⟨mw_52, List.forall_mem_cons.mpr ⟨mw_54, fun _ h => absurd h List.not_mem_nil⟩⟩⟩
def R_TL : String := "PageMachine$Tlb"
def T_TL : u_T := fun k => match k with
  | 0 => ("PageMachine$Tlb", "pages", "[I", true)
  | 1 => ("PageMachine$Tlb", "asids", "[I", true)
  | 2 => ("PageMachine$Tlb", "globals", "[I", true)
  | 3 => ("PageMachine$Tlb", "evenHalves", "[I", true)
  | _ => ("PageMachine$Tlb", "oddHalves", "[I", true)
def ty_TL : Nat → FieldType := fun k => match k with
  | 0 => .array .int
  | 1 => .array .int
  | 2 => .array .int
  | 3 => .array .int
  | _ => .array .int
theorem nm_TL : ∀ a, a < 5 → ∀ b, b < 5 → a ≠ b → (T_TL a).2.1 ≠ (T_TL b).2.1 := by decide +kernel
theorem tyok_TL : ∀ k, k < 5 → parseFieldDescriptor (T_TL k).2.2.1 = some (ty_TL k) := by decide +kernel
theorem i_TL : ∀ x ∈ u_ws "PageMachine$Tlb" T_TL 5, x ∈ gt_bl := List.forall_mem_cons.mpr ⟨mw_68, List.forall_mem_cons.mpr ⟨mw_70, List.forall_mem_cons.mpr ⟨mw_72, List.forall_mem_cons.mpr ⟨mw_74, List.forall_mem_cons.mpr ⟨mw_76, fun _ h => absurd h List.not_mem_nil⟩⟩⟩⟩⟩
def R_AS : String := "PageMachine$AddressSpace"
def T_AS : u_T := fun k => match k with
  | 0 => ("PageMachine$AddressSpace", "memory", "LPageMachine$Memory;", true)
  | 1 => ("PageMachine$AddressSpace", "system", "LPageMachine$SystemRegisters;", true)
  | 2 => ("PageMachine$AddressSpace", "tlb", "LPageMachine$Tlb;", true)
  | _ => ("PageMachine$AddressSpace", "asked", "I", false)
def ty_AS : Nat → FieldType := fun k => match k with
  | 0 => .object "PageMachine$Memory"
  | 1 => .object "PageMachine$SystemRegisters"
  | 2 => .object "PageMachine$Tlb"
  | _ => .int
theorem nm_AS : ∀ a, a < 4 → ∀ b, b < 4 → a ≠ b → (T_AS a).2.1 ≠ (T_AS b).2.1 := by decide +kernel
theorem tyok_AS : ∀ k, k < 4 → parseFieldDescriptor (T_AS k).2.2.1 = some (ty_AS k) := by decide +kernel
theorem i_AS : ∀ x ∈ u_ws "PageMachine$AddressSpace" T_AS 4, x ∈ gt_bl := List.forall_mem_cons.mpr ⟨mw_89, List.forall_mem_cons.mpr ⟨mw_91, List.forall_mem_cons.mpr ⟨mw_93, List.forall_mem_cons.mpr ⟨mw_95, fun _ h => absurd h List.not_mem_nil⟩⟩⟩⟩
def R_CO : String := "PageMachine$Core"
def T_CO : u_T := fun k => match k with
  | 0 => ("PageMachine$Core", "hi", "I", false)
  | 1 => ("PageMachine$Core", "lo", "I", false)
  | 2 => ("PageMachine$Core", "pc", "I", false)
  | 3 => ("PageMachine$Core", "link", "I", false)
  | 4 => ("PageMachine$Core", "inDelaySlot", "Z", false)
  | 5 => ("PageMachine$Core", "registers", "[I", true)
  | 6 => ("PageMachine$Core", "behindSlot", "I", false)
  | 7 => ("PageMachine$Core", "instruction", "I", false)
  | 8 => ("PageMachine$Core", "nextPc", "I", false)
  | _ => ("PageMachine$Core", "nextInDelaySlot", "Z", false)
def ty_CO : Nat → FieldType := fun k => match k with
  | 0 => .int
  | 1 => .int
  | 2 => .int
  | 3 => .int
  | 4 => .boolean
  | 5 => .array .int
  | 6 => .int
  | 7 => .int
  | 8 => .int
  | _ => .boolean
theorem nm_CO : ∀ a, a < 10 → ∀ b, b < 10 → a ≠ b → (T_CO a).2.1 ≠ (T_CO b).2.1 := by decide +kernel
theorem tyok_CO : ∀ k, k < 10 → parseFieldDescriptor (T_CO k).2.2.1 = some (ty_CO k) := by decide +kernel
theorem i_CO : ∀ x ∈ u_ws "PageMachine$Core" T_CO 10, x ∈ gt_bl := List.forall_mem_cons.mpr ⟨mw_128, List.forall_mem_cons.mpr ⟨mw_130, List.forall_mem_cons.mpr ⟨mw_132, List.forall_mem_cons.mpr ⟨mw_134, List.forall_mem_cons.mpr ⟨mw_136, List.forall_mem_cons.mpr ⟨mw_138, List.forall_mem_cons.mpr ⟨mw_140, List.forall_mem_cons.mpr ⟨mw_142, List.forall_mem_cons.mpr ⟨mw_144, List.forall_mem_cons.mpr ⟨mw_146, fun _ h => absurd h List.not_mem_nil⟩⟩⟩⟩⟩⟩⟩⟩⟩⟩
def R_PR : String := "PageMachine$Processor"
def T_PR : u_T := fun k => match k with
  | 0 => ("PageMachine$Processor", "core", "LPageMachine$Core;", true)
  | 1 => ("PageMachine$Processor", "memory", "LPageMachine$Memory;", true)
  | 2 => ("PageMachine$Processor", "system", "LPageMachine$SystemRegisters;", true)
  | 3 => ("PageMachine$Processor", "space", "LPageMachine$AddressSpace;", true)
  | 4 => ("PageMachine$Processor", "arithmetic", "LPageMachine$Arithmetic;", true)
  | 5 => ("PageMachine$Processor", "branches", "LPageMachine$Branches;", true)
  | 6 => ("PageMachine$Processor", "loadsAndStores", "LPageMachine$LoadsAndStores;", true)
  | 7 => ("PageMachine$Processor", "coprocessor", "LPageMachine$Coprocessor;", true)
  | 8 => ("PageMachine$Processor", "faultsByCode", "[I", true)
  | _ => ("PageMachine$Processor", "stepsDone", "I", false)
def ty_PR : Nat → FieldType := fun k => match k with
  | 0 => .object "PageMachine$Core"
  | 1 => .object "PageMachine$Memory"
  | 2 => .object "PageMachine$SystemRegisters"
  | 3 => .object "PageMachine$AddressSpace"
  | 4 => .object "PageMachine$Arithmetic"
  | 5 => .object "PageMachine$Branches"
  | 6 => .object "PageMachine$LoadsAndStores"
  | 7 => .object "PageMachine$Coprocessor"
  | 8 => .array .int
  | _ => .int
theorem nm_PR : ∀ a, a < 10 → ∀ b, b < 10 → a ≠ b → (T_PR a).2.1 ≠ (T_PR b).2.1 := by decide +kernel
theorem tyok_PR : ∀ k, k < 10 → parseFieldDescriptor (T_PR k).2.2.1 = some (ty_PR k) := by decide +kernel
theorem i_PR : ∀ x ∈ u_ws "PageMachine$Processor" T_PR 10, x ∈ gt_bl := List.forall_mem_cons.mpr ⟨mw_217, List.forall_mem_cons.mpr ⟨mw_219, List.forall_mem_cons.mpr ⟨mw_221, List.forall_mem_cons.mpr ⟨mw_223, List.forall_mem_cons.mpr ⟨mw_225, List.forall_mem_cons.mpr ⟨mw_227, List.forall_mem_cons.mpr ⟨mw_229, List.forall_mem_cons.mpr ⟨mw_231, List.forall_mem_cons.mpr ⟨mw_233, List.forall_mem_cons.mpr ⟨mw_235, fun _ h => absurd h List.not_mem_nil⟩⟩⟩⟩⟩⟩⟩⟩⟩⟩
def R_AR : String := "PageMachine$Arithmetic"
def T_AR : u_T := fun k => match k with
  | _ => ("PageMachine$Arithmetic", "core", "LPageMachine$Core;", true)
def ty_AR : Nat → FieldType := fun k => match k with
  | _ => .object "PageMachine$Core"
theorem nm_AR : ∀ a, a < 1 → ∀ b, b < 1 → a ≠ b → (T_AR a).2.1 ≠ (T_AR b).2.1 := by decide +kernel
theorem tyok_AR : ∀ k, k < 1 → parseFieldDescriptor (T_AR k).2.2.1 = some (ty_AR k) := by decide +kernel
theorem i_AR : ∀ x ∈ u_ws "PageMachine$Arithmetic" T_AR 1, x ∈ gt_bl := List.forall_mem_cons.mpr ⟨mw_162, fun _ h => absurd h List.not_mem_nil⟩
def R_BR : String := "PageMachine$Branches"
def T_BR : u_T := fun k => match k with
  | _ => ("PageMachine$Branches", "core", "LPageMachine$Core;", true)
def ty_BR : Nat → FieldType := fun k => match k with
  | _ => .object "PageMachine$Core"
theorem nm_BR : ∀ a, a < 1 → ∀ b, b < 1 → a ≠ b → (T_BR a).2.1 ≠ (T_BR b).2.1 := by decide +kernel
theorem tyok_BR : ∀ k, k < 1 → parseFieldDescriptor (T_BR k).2.2.1 = some (ty_BR k) := by decide +kernel
theorem i_BR : ∀ x ∈ u_ws "PageMachine$Branches" T_BR 1, x ∈ gt_bl := List.forall_mem_cons.mpr ⟨mw_172, fun _ h => absurd h List.not_mem_nil⟩
def R_LS : String := "PageMachine$LoadsAndStores"
def T_LS : u_T := fun k => match k with
  | 0 => ("PageMachine$LoadsAndStores", "core", "LPageMachine$Core;", true)
  | 1 => ("PageMachine$LoadsAndStores", "memory", "LPageMachine$Memory;", true)
  | _ => ("PageMachine$LoadsAndStores", "space", "LPageMachine$AddressSpace;", true)
def ty_LS : Nat → FieldType := fun k => match k with
  | 0 => .object "PageMachine$Core"
  | 1 => .object "PageMachine$Memory"
  | _ => .object "PageMachine$AddressSpace"
theorem nm_LS : ∀ a, a < 3 → ∀ b, b < 3 → a ≠ b → (T_LS a).2.1 ≠ (T_LS b).2.1 := by decide +kernel
theorem tyok_LS : ∀ k, k < 3 → parseFieldDescriptor (T_LS k).2.2.1 = some (ty_LS k) := by decide +kernel
theorem i_LS : ∀ x ∈ u_ws "PageMachine$LoadsAndStores" T_LS 3, x ∈ gt_bl := List.forall_mem_cons.mpr ⟨mw_184, List.forall_mem_cons.mpr ⟨mw_186, List.forall_mem_cons.mpr ⟨mw_188, fun _ h => absurd h List.not_mem_nil⟩⟩⟩
def R_CP : String := "PageMachine$Coprocessor"
def T_CP : u_T := fun k => match k with
  | 0 => ("PageMachine$Coprocessor", "core", "LPageMachine$Core;", true)
  | 1 => ("PageMachine$Coprocessor", "system", "LPageMachine$SystemRegisters;", true)
  | _ => ("PageMachine$Coprocessor", "tlb", "LPageMachine$Tlb;", true)
def ty_CP : Nat → FieldType := fun k => match k with
  | 0 => .object "PageMachine$Core"
  | 1 => .object "PageMachine$SystemRegisters"
  | _ => .object "PageMachine$Tlb"
theorem nm_CP : ∀ a, a < 3 → ∀ b, b < 3 → a ≠ b → (T_CP a).2.1 ≠ (T_CP b).2.1 := by decide +kernel
theorem tyok_CP : ∀ k, k < 3 → parseFieldDescriptor (T_CP k).2.2.1 = some (ty_CP k) := by decide +kernel
theorem i_CP : ∀ x ∈ u_ws "PageMachine$Coprocessor" T_CP 3, x ∈ gt_bl := List.forall_mem_cons.mpr ⟨mw_200, List.forall_mem_cons.mpr ⟨mw_202, List.forall_mem_cons.mpr ⟨mw_204, fun _ h => absurd h List.not_mem_nil⟩⟩⟩
def R_MO : String := "PageMachineModel"
def T_MO : u_T := fun k => match k with
  | 0 => ("PageMachineModel", "thrown", "I", false)
  | 1 => ("PageMachineModel", "memory", "[I", true)
  | 2 => ("PageMachineModel", "\x72", "[I", true)
  | 3 => ("PageMachineModel", "hi", "I", false)
  | 4 => ("PageMachineModel", "lo", "I", false)
  | 5 => ("PageMachineModel", "pc", "I", false)
  | 6 => ("PageMachineModel", "target", "I", false)
  | 7 => ("PageMachineModel", "link", "I", false)
  | 8 => ("PageMachineModel", "slot", "Z", false)
  | 9 => ("PageMachineModel", "sys", "[I", true)
  | 10 => ("PageMachineModel", "timer", "Z", false)
  | 11 => ("PageMachineModel", "lines", "[Z", true)
  | 12 => ("PageMachineModel", "pages", "[I", true)
  | 13 => ("PageMachineModel", "spaces", "[I", true)
  | 14 => ("PageMachineModel", "all", "[Z", true)
  | 15 => ("PageMachineModel", "halves", "[I", true)
  | 16 => ("PageMachineModel", "steps", "I", false)
  | 17 => ("PageMachineModel", "faults", "[I", true)
  | 18 => ("PageMachineModel", "fault", "I", false)
  | 19 => ("PageMachineModel", "faultAt", "I", false)
  | 20 => ("PageMachineModel", "unit", "I", false)
  | 21 => ("PageMachineModel", "hasAddress", "Z", false)
  | 22 => ("PageMachineModel", "refills", "Z", false)
  | 23 => ("PageMachineModel", "next", "I", false)
  | _ => ("PageMachineModel", "nextSlot", "Z", false)
def ty_MO : Nat → FieldType := fun k => match k with
  | 0 => .int
  | 1 => .array .int
  | 2 => .array .int
  | 3 => .int
  | 4 => .int
  | 5 => .int
  | 6 => .int
  | 7 => .int
  | 8 => .boolean
  | 9 => .array .int
  | 10 => .boolean
  | 11 => .array .boolean
  | 12 => .array .int
  | 13 => .array .int
  | 14 => .array .boolean
  | 15 => .array .int
  | 16 => .int
  | 17 => .array .int
  | 18 => .int
  | 19 => .int
  | 20 => .int
  | 21 => .boolean
  | 22 => .boolean
  | 23 => .int
  | _ => .boolean
theorem nm_MO : ∀ a, a < 25 → ∀ b, b < 25 → a ≠ b → (T_MO a).2.1 ≠ (T_MO b).2.1 := by decide +kernel
theorem tyok_MO : ∀ k, k < 25 → parseFieldDescriptor (T_MO k).2.2.1 = some (ty_MO k) := by decide +kernel
theorem i_MO : ∀ x ∈ u_ws "PageMachineModel" T_MO 25, x ∈ gt_bl := List.forall_mem_cons.mpr ⟨mw_911, List.forall_mem_cons.mpr ⟨mw_913, List.forall_mem_cons.mpr ⟨mw_915, List.forall_mem_cons.mpr ⟨mw_917, List.forall_mem_cons.mpr ⟨mw_919, List.forall_mem_cons.mpr ⟨mw_921, List.forall_mem_cons.mpr ⟨mw_923, List.forall_mem_cons.mpr ⟨mw_925, List.forall_mem_cons.mpr ⟨mw_927, List.forall_mem_cons.mpr ⟨mw_929, List.forall_mem_cons.mpr ⟨mw_931, List.forall_mem_cons.mpr ⟨mw_933, List.forall_mem_cons.mpr ⟨mw_935, List.forall_mem_cons.mpr ⟨mw_937, List.forall_mem_cons.mpr ⟨mw_939, List.forall_mem_cons.mpr ⟨mw_941, List.forall_mem_cons.mpr ⟨mw_943, List.forall_mem_cons.mpr ⟨mw_945, List.forall_mem_cons.mpr ⟨mw_947, List.forall_mem_cons.mpr ⟨mw_949, List.forall_mem_cons.mpr ⟨mw_951, List.forall_mem_cons.mpr ⟨mw_953, List.forall_mem_cons.mpr ⟨mw_955, List.forall_mem_cons.mpr ⟨mw_957, List.forall_mem_cons.mpr ⟨mw_959, fun _ h => absurd h List.not_mem_nil⟩⟩⟩⟩⟩⟩⟩⟩⟩⟩⟩⟩⟩⟩⟩⟩⟩⟩⟩⟩⟩⟩⟩⟩⟩
abbrev xCl : List vw_C := [("PageMachine", T_PM, 6), ("PageMachine$Memory", T_ME, 1), ("PageMachine$SystemRegisters", T_SR, 3), ("PageMachine$Tlb", T_TL, 5), ("PageMachine$AddressSpace", T_AS, 4), ("PageMachine$Core", T_CO, 10), ("PageMachine$Processor", T_PR, 10), ("PageMachine$Arithmetic", T_AR, 1), ("PageMachine$Branches", T_BR, 1), ("PageMachine$LoadsAndStores", T_LS, 3), ("PageMachine$Coprocessor", T_CP, 3), ("PageMachineModel", T_MO, 25)]
abbrev b_PM_init : ByteArray := prog_1_method_1_code
def y_PM_init : MethodName := ⟨"PageMachine", "<init>", "()V"⟩
set_option maxRecDepth 20000 in
theorem mc_PM_init : Cond.code y_PM_init b_PM_init 1 (Option.none : Option Jvm.ClassFile.FieldType) ∈ gt_bl := gt_in (List.mem_of_getElem? (i := 91) rfl) rfl
abbrev b_PM_poke : ByteArray := prog_1_method_2_code
def y_PM_poke : MethodName := ⟨"PageMachine", "poke", "(II)I"⟩
set_option maxRecDepth 20000 in
theorem mc_PM_poke : Cond.code y_PM_poke b_PM_poke 4 (Option.some Jvm.ClassFile.FieldType.int) ∈ gt_bl := gt_in (List.mem_of_getElem? (i := 346) rfl) rfl
theorem kv_PM_poke : KV y_PM_poke b_PM_poke 4 (Option.some Jvm.ClassFile.FieldType.int) 2 := ⟨mc_PM_poke, mw_277, mw_278, mw_1, by decide +kernel⟩
abbrev b_PM_peek : ByteArray := prog_1_method_3_code
def y_PM_peek : MethodName := ⟨"PageMachine", "peek", "(I)I"⟩
set_option maxRecDepth 20000 in
theorem mc_PM_peek : Cond.code y_PM_peek b_PM_peek 2 (Option.some Jvm.ClassFile.FieldType.int) ∈ gt_bl := gt_in (List.mem_of_getElem? (i := 449) rfl) rfl
theorem kv_PM_peek : KV y_PM_peek b_PM_peek 2 (Option.some Jvm.ClassFile.FieldType.int) 1 := ⟨mc_PM_peek, mw_380, mw_381, mw_1, by decide +kernel⟩
abbrev b_PM_set : ByteArray := prog_1_method_4_code
def y_PM_set : MethodName := ⟨"PageMachine", "set", "(III)V"⟩
set_option maxRecDepth 20000 in
theorem mc_PM_set : Cond.code y_PM_set b_PM_set 4 (Option.none : Option Jvm.ClassFile.FieldType) ∈ gt_bl := gt_in (List.mem_of_getElem? (i := 456) rfl) rfl
theorem kv_PM_set : KV y_PM_set b_PM_set 4 (Option.none : Option Jvm.ClassFile.FieldType) 3 := ⟨mc_PM_set, mw_387, mw_388, mw_1, by decide +kernel⟩
abbrev b_PM_get : ByteArray := prog_1_method_5_code
def y_PM_get : MethodName := ⟨"PageMachine", "get", "(II)I"⟩
set_option maxRecDepth 20000 in
theorem mc_PM_get : Cond.code y_PM_get b_PM_get 3 (Option.some Jvm.ClassFile.FieldType.int) ∈ gt_bl := gt_in (List.mem_of_getElem? (i := 481) rfl) rfl
theorem kv_PM_get : KV y_PM_get b_PM_get 3 (Option.some Jvm.ClassFile.FieldType.int) 2 := ⟨mc_PM_get, mw_412, mw_413, mw_1, by decide +kernel⟩
abbrev b_PM_line : ByteArray := prog_1_method_6_code
def y_PM_line : MethodName := ⟨"PageMachine", "line", "(IZ)Z"⟩
set_option maxRecDepth 20000 in
theorem mc_PM_line : Cond.code y_PM_line b_PM_line 3 (Option.some Jvm.ClassFile.FieldType.boolean) ∈ gt_bl := gt_in (List.mem_of_getElem? (i := 497) rfl) rfl
theorem kv_PM_line : KV y_PM_line b_PM_line 3 (Option.some Jvm.ClassFile.FieldType.boolean) 2 := ⟨mc_PM_line, mw_428, mw_429, mw_1, by decide +kernel⟩
abbrev b_PM_step : ByteArray := prog_1_method_7_code
def y_PM_step : MethodName := ⟨"PageMachine", "step", "(I)I"⟩
set_option maxRecDepth 20000 in
theorem mc_PM_step : Cond.code y_PM_step b_PM_step 4 (Option.some Jvm.ClassFile.FieldType.int) ∈ gt_bl := gt_in (List.mem_of_getElem? (i := 509) rfl) rfl
theorem kv_PM_step : KV y_PM_step b_PM_step 4 (Option.some Jvm.ClassFile.FieldType.int) 1 := ⟨mc_PM_step, mw_440, mw_441, mw_1, by decide +kernel⟩
abbrev b_PM_entry : ByteArray := prog_1_method_8_code
def y_PM_entry : MethodName := ⟨"PageMachine", "entry", "(II)I"⟩
set_option maxRecDepth 20000 in
theorem mc_PM_entry : Cond.code y_PM_entry b_PM_entry 3 (Option.some Jvm.ClassFile.FieldType.int) ∈ gt_bl := gt_in (List.mem_of_getElem? (i := 910) rfl) rfl
theorem kv_PM_entry : KV y_PM_entry b_PM_entry 3 (Option.some Jvm.ClassFile.FieldType.int) 2 := ⟨mc_PM_entry, mw_841, mw_842, mw_1, by decide +kernel⟩
abbrev b_PM_translate : ByteArray := prog_1_method_9_code
def y_PM_translate : MethodName := ⟨"PageMachine", "translate", "(II)J"⟩
set_option maxRecDepth 20000 in
theorem mc_PM_translate : Cond.code y_PM_translate b_PM_translate 6 (Option.some Jvm.ClassFile.FieldType.long) ∈ gt_bl := gt_in (List.mem_of_getElem? (i := 922) rfl) rfl
theorem kv_PM_translate : KV y_PM_translate b_PM_translate 6 (Option.some Jvm.ClassFile.FieldType.long) 2 := ⟨mc_PM_translate, mw_853, mw_854, mw_1, by decide +kernel⟩
abbrev b_PM_handler : ByteArray := prog_1_method_10_code
def y_PM_handler : MethodName := ⟨"PageMachine", "handler", "()I"⟩
set_option maxRecDepth 20000 in
theorem mc_PM_handler : Cond.code y_PM_handler b_PM_handler 2 (Option.some Jvm.ClassFile.FieldType.int) ∈ gt_bl := gt_in (List.mem_of_getElem? (i := 327) rfl) rfl
theorem kv_PM_handler : KV y_PM_handler b_PM_handler 2 (Option.some Jvm.ClassFile.FieldType.int) 0 := ⟨mc_PM_handler, mw_258, mw_259, mw_1, by decide +kernel⟩
abbrev b_PM_count : ByteArray := prog_1_method_11_code
def y_PM_count : MethodName := ⟨"PageMachine", "count", "(I)I"⟩
set_option maxRecDepth 20000 in
theorem mc_PM_count : Cond.code y_PM_count b_PM_count 2 (Option.some Jvm.ClassFile.FieldType.int) ∈ gt_bl := gt_in (List.mem_of_getElem? (i := 934) rfl) rfl
theorem kv_PM_count : KV y_PM_count b_PM_count 2 (Option.some Jvm.ClassFile.FieldType.int) 1 := ⟨mc_PM_count, mw_865, mw_866, mw_1, by decide +kernel⟩
abbrev b_PM_checkWordAddress : ByteArray := prog_1_method_12_code
def y_PM_checkWordAddress : MethodName := ⟨"PageMachine", "checkWordAddress", "(I)V"⟩
set_option maxRecDepth 20000 in
theorem mc_PM_checkWordAddress : Cond.code y_PM_checkWordAddress b_PM_checkWordAddress 2 (Option.none : Option Jvm.ClassFile.FieldType) ∈ gt_bl := gt_in (List.mem_of_getElem? (i := 350) rfl) rfl
theorem kv_PM_checkWordAddress : KV y_PM_checkWordAddress b_PM_checkWordAddress 2 (Option.none : Option Jvm.ClassFile.FieldType) 1 := ⟨mc_PM_checkWordAddress, mw_282, mp_0, mw_1, by decide +kernel⟩
abbrev b_PM_checkRegister : ByteArray := prog_1_method_13_code
def y_PM_checkRegister : MethodName := ⟨"PageMachine", "checkRegister", "(II)V"⟩
set_option maxRecDepth 20000 in
theorem mc_PM_checkRegister : Cond.code y_PM_checkRegister b_PM_checkRegister 3 (Option.none : Option Jvm.ClassFile.FieldType) ∈ gt_bl := gt_in (List.mem_of_getElem? (i := 459) rfl) rfl
theorem ks_PM_checkRegister : KS y_PM_checkRegister b_PM_checkRegister 3 (Option.none : Option Jvm.ClassFile.FieldType) 2 := ⟨mc_PM_checkRegister, mw_391, mw_1, by decide +kernel⟩
abbrev b_MO_init : ByteArray := prog_14_method_1_code
def y_MO_init : MethodName := ⟨"PageMachineModel", "<init>", "()V"⟩
set_option maxRecDepth 20000 in
theorem mc_MO_init : Cond.code y_MO_init b_MO_init 1 (Option.none : Option Jvm.ClassFile.FieldType) ∈ gt_bl := gt_in (List.mem_of_getElem? (i := 948) rfl) rfl
abbrev b_MO_thrown : ByteArray := prog_14_method_2_code
def y_MO_thrown : MethodName := ⟨"PageMachineModel", "thrown", "()I"⟩
set_option maxRecDepth 20000 in
theorem mc_MO_thrown : Cond.code y_MO_thrown b_MO_thrown 1 (Option.some Jvm.ClassFile.FieldType.int) ∈ gt_bl := gt_in (List.mem_of_getElem? (i := 1033) rfl) rfl
theorem kv_MO_thrown : KV y_MO_thrown b_MO_thrown 1 (Option.some Jvm.ClassFile.FieldType.int) 0 := ⟨mc_MO_thrown, mw_964, mw_965, mw_12, by decide +kernel⟩
abbrev b_MO_fail : ByteArray := prog_14_method_3_code
def y_MO_fail : MethodName := ⟨"PageMachineModel", "fail", "(I)I"⟩
set_option maxRecDepth 20000 in
theorem mc_MO_fail : Cond.code y_MO_fail b_MO_fail 2 (Option.some Jvm.ClassFile.FieldType.int) ∈ gt_bl := gt_in (List.mem_of_getElem? (i := 1041) rfl) rfl
theorem kv_MO_fail : KV y_MO_fail b_MO_fail 2 (Option.some Jvm.ClassFile.FieldType.int) 1 := ⟨mc_MO_fail, mw_973, mp_29, mw_12, by decide +kernel⟩
abbrev b_MO_within : ByteArray := prog_14_method_4_code
def y_MO_within : MethodName := ⟨"PageMachineModel", "within", "(III)Z"⟩
set_option maxRecDepth 20000 in
theorem mc_MO_within : Cond.code y_MO_within b_MO_within 3 (Option.some Jvm.ClassFile.FieldType.boolean) ∈ gt_bl := gt_in (List.mem_of_getElem? (i := 1045) rfl) rfl
theorem ks_MO_within : KS y_MO_within b_MO_within 3 (Option.some Jvm.ClassFile.FieldType.boolean) 3 := ⟨mc_MO_within, mw_977, mw_12, by decide +kernel⟩
abbrev b_MO_poke : ByteArray := prog_14_method_5_code
def y_MO_poke : MethodName := ⟨"PageMachineModel", "poke", "(II)I"⟩
set_option maxRecDepth 20000 in
theorem mc_MO_poke : Cond.code y_MO_poke b_MO_poke 4 (Option.some Jvm.ClassFile.FieldType.int) ∈ gt_bl := gt_in (List.mem_of_getElem? (i := 1037) rfl) rfl
theorem kv_MO_poke : KV y_MO_poke b_MO_poke 4 (Option.some Jvm.ClassFile.FieldType.int) 2 := ⟨mc_MO_poke, mw_968, mw_969, mw_12, by decide +kernel⟩
abbrev b_MO_peek : ByteArray := prog_14_method_6_code
def y_MO_peek : MethodName := ⟨"PageMachineModel", "peek", "(I)I"⟩
set_option maxRecDepth 20000 in
theorem mc_MO_peek : Cond.code y_MO_peek b_MO_peek 2 (Option.some Jvm.ClassFile.FieldType.int) ∈ gt_bl := gt_in (List.mem_of_getElem? (i := 1049) rfl) rfl
theorem kv_MO_peek : KV y_MO_peek b_MO_peek 2 (Option.some Jvm.ClassFile.FieldType.int) 1 := ⟨mc_MO_peek, mw_980, mw_981, mw_12, by decide +kernel⟩
abbrev b_MO_isRegister : ByteArray := prog_14_method_7_code
def y_MO_isRegister : MethodName := ⟨"PageMachineModel", "isRegister", "(II)Z"⟩
set_option maxRecDepth 20000 in
theorem mc_MO_isRegister : Cond.code y_MO_isRegister b_MO_isRegister 2 (Option.some Jvm.ClassFile.FieldType.boolean) ∈ gt_bl := gt_in (List.mem_of_getElem? (i := 1056) rfl) rfl
theorem ks_MO_isRegister : KS y_MO_isRegister b_MO_isRegister 2 (Option.some Jvm.ClassFile.FieldType.boolean) 2 := ⟨mc_MO_isRegister, mw_988, mw_12, by decide +kernel⟩
abbrev b_MO_set : ByteArray := prog_14_method_8_code
def y_MO_set : MethodName := ⟨"PageMachineModel", "set", "(III)V"⟩
set_option maxRecDepth 20000 in
theorem mc_MO_set : Cond.code y_MO_set b_MO_set 4 (Option.none : Option Jvm.ClassFile.FieldType) ∈ gt_bl := gt_in (List.mem_of_getElem? (i := 1053) rfl) rfl
theorem kv_MO_set : KV y_MO_set b_MO_set 4 (Option.none : Option Jvm.ClassFile.FieldType) 3 := ⟨mc_MO_set, mw_984, mw_985, mw_12, by decide +kernel⟩
abbrev b_MO_get : ByteArray := prog_14_method_9_code
def y_MO_get : MethodName := ⟨"PageMachineModel", "get", "(II)I"⟩
set_option maxRecDepth 20000 in
theorem mc_MO_get : Cond.code y_MO_get b_MO_get 3 (Option.some Jvm.ClassFile.FieldType.int) ∈ gt_bl := gt_in (List.mem_of_getElem? (i := 1074) rfl) rfl
theorem kv_MO_get : KV y_MO_get b_MO_get 3 (Option.some Jvm.ClassFile.FieldType.int) 2 := ⟨mc_MO_get, mw_1005, mw_1006, mw_12, by decide +kernel⟩
abbrev b_MO_put : ByteArray := prog_14_method_10_code
def y_MO_put : MethodName := ⟨"PageMachineModel", "put", "(II)V"⟩
set_option maxRecDepth 20000 in
theorem mc_MO_put : Cond.code y_MO_put b_MO_put 3 (Option.none : Option Jvm.ClassFile.FieldType) ∈ gt_bl := gt_in (List.mem_of_getElem? (i := 1070) rfl) rfl
theorem kv_MO_put : KV y_MO_put b_MO_put 3 (Option.none : Option Jvm.ClassFile.FieldType) 2 := ⟨mc_MO_put, mw_1002, mp_31, mw_12, by decide +kernel⟩
abbrev b_MO_line : ByteArray := prog_14_method_11_code
def y_MO_line : MethodName := ⟨"PageMachineModel", "line", "(IZ)Z"⟩
set_option maxRecDepth 20000 in
theorem mc_MO_line : Cond.code y_MO_line b_MO_line 4 (Option.some Jvm.ClassFile.FieldType.boolean) ∈ gt_bl := gt_in (List.mem_of_getElem? (i := 1082) rfl) rfl
theorem kv_MO_line : KV y_MO_line b_MO_line 4 (Option.some Jvm.ClassFile.FieldType.boolean) 2 := ⟨mc_MO_line, mw_1013, mw_1014, mw_12, by decide +kernel⟩
abbrev b_MO_read : ByteArray := prog_14_method_12_code
def y_MO_read : MethodName := ⟨"PageMachineModel", "read", "(I)I"⟩
set_option maxRecDepth 20000 in
theorem mc_MO_read : Cond.code y_MO_read b_MO_read 4 (Option.some Jvm.ClassFile.FieldType.int) ∈ gt_bl := gt_in (List.mem_of_getElem? (i := 1078) rfl) rfl
theorem kv_MO_read : KV y_MO_read b_MO_read 4 (Option.some Jvm.ClassFile.FieldType.int) 1 := ⟨mc_MO_read, mw_1010, mp_32, mw_12, by decide +kernel⟩
abbrev b_MO_bitsOf : ByteArray := prog_14_method_13_code
def y_MO_bitsOf : MethodName := ⟨"PageMachineModel", "bitsOf", "(I)I"⟩
set_option maxRecDepth 20000 in
theorem mc_MO_bitsOf : Cond.code y_MO_bitsOf b_MO_bitsOf 1 (Option.some Jvm.ClassFile.FieldType.int) ∈ gt_bl := gt_in (List.mem_of_getElem? (i := 1063) rfl) rfl
theorem ks_MO_bitsOf : KS y_MO_bitsOf b_MO_bitsOf 1 (Option.some Jvm.ClassFile.FieldType.int) 1 := ⟨mc_MO_bitsOf, mw_995, mw_12, by decide +kernel⟩
abbrev b_MO_write : ByteArray := prog_14_method_14_code
def y_MO_write : MethodName := ⟨"PageMachineModel", "write", "(II)V"⟩
set_option maxRecDepth 20000 in
theorem mc_MO_write : Cond.code y_MO_write b_MO_write 4 (Option.none : Option Jvm.ClassFile.FieldType) ∈ gt_bl := gt_in (List.mem_of_getElem? (i := 1060) rfl) rfl
theorem kv_MO_write : KV y_MO_write b_MO_write 4 (Option.none : Option Jvm.ClassFile.FieldType) 2 := ⟨mc_MO_write, mw_992, mp_30, mw_12, by decide +kernel⟩
abbrev b_MO_isIn : ByteArray := prog_14_method_15_code
def y_MO_isIn : MethodName := ⟨"PageMachineModel", "isIn", "(I)Z"⟩
set_option maxRecDepth 20000 in
theorem mc_MO_isIn : Cond.code y_MO_isIn b_MO_isIn 2 (Option.some Jvm.ClassFile.FieldType.boolean) ∈ gt_bl := gt_in (List.mem_of_getElem? (i := 1098) rfl) rfl
theorem kv_MO_isIn : KV y_MO_isIn b_MO_isIn 2 (Option.some Jvm.ClassFile.FieldType.boolean) 1 := ⟨mc_MO_isIn, mw_1030, mp_35, mw_12, by decide +kernel⟩
abbrev b_MO_isUser : ByteArray := prog_14_method_16_code
def y_MO_isUser : MethodName := ⟨"PageMachineModel", "isUser", "()Z"⟩
set_option maxRecDepth 20000 in
theorem mc_MO_isUser : Cond.code y_MO_isUser b_MO_isUser 1 (Option.some Jvm.ClassFile.FieldType.boolean) ∈ gt_bl := gt_in (List.mem_of_getElem? (i := 1125) rfl) rfl
theorem kv_MO_isUser : KV y_MO_isUser b_MO_isUser 1 (Option.some Jvm.ClassFile.FieldType.boolean) 0 := ⟨mc_MO_isUser, mw_1057, mp_40, mw_12, by decide +kernel⟩
abbrev b_MO_wrong : ByteArray := prog_14_method_17_code
def y_MO_wrong : MethodName := ⟨"PageMachineModel", "wrong", "(II)Z"⟩
set_option maxRecDepth 20000 in
theorem mc_MO_wrong : Cond.code y_MO_wrong b_MO_wrong 3 (Option.some Jvm.ClassFile.FieldType.boolean) ∈ gt_bl := gt_in (List.mem_of_getElem? (i := 1115) rfl) rfl
theorem kv_MO_wrong : KV y_MO_wrong b_MO_wrong 3 (Option.some Jvm.ClassFile.FieldType.boolean) 2 := ⟨mc_MO_wrong, mw_1047, mp_38, mw_12, by decide +kernel⟩
abbrev b_MO_matches : ByteArray := prog_14_method_18_code
def y_MO_matches : MethodName := ⟨"PageMachineModel", "matches", "(II)Z"⟩
set_option maxRecDepth 20000 in
theorem mc_MO_matches : Cond.code y_MO_matches b_MO_matches 3 (Option.some Jvm.ClassFile.FieldType.boolean) ∈ gt_bl := gt_in (List.mem_of_getElem? (i := 1134) rfl) rfl
theorem kv_MO_matches : KV y_MO_matches b_MO_matches 3 (Option.some Jvm.ClassFile.FieldType.boolean) 2 := ⟨mc_MO_matches, mw_1066, mp_42, mw_12, by decide +kernel⟩
abbrev b_MO_entryOf : ByteArray := prog_14_method_19_code
def y_MO_entryOf : MethodName := ⟨"PageMachineModel", "entryOf", "(I)I"⟩
set_option maxRecDepth 20000 in
theorem mc_MO_entryOf : Cond.code y_MO_entryOf b_MO_entryOf 4 (Option.some Jvm.ClassFile.FieldType.int) ∈ gt_bl := gt_in (List.mem_of_getElem? (i := 1130) rfl) rfl
theorem kv_MO_entryOf : KV y_MO_entryOf b_MO_entryOf 4 (Option.some Jvm.ClassFile.FieldType.int) 1 := ⟨mc_MO_entryOf, mw_1062, mp_41, mw_12, by decide +kernel⟩
abbrev b_MO_physical : ByteArray := prog_14_method_20_code
def y_MO_physical : MethodName := ⟨"PageMachineModel", "physical", "(IZZ)J"⟩
set_option maxRecDepth 20000 in
theorem mc_MO_physical : Cond.code y_MO_physical b_MO_physical 9 (Option.some Jvm.ClassFile.FieldType.long) ∈ gt_bl := gt_in (List.mem_of_getElem? (i := 1120) rfl) rfl
theorem kv_MO_physical : KV y_MO_physical b_MO_physical 9 (Option.some Jvm.ClassFile.FieldType.long) 3 := ⟨mc_MO_physical, mw_1052, mp_39, mw_12, by decide +kernel⟩
abbrev b_MO_aligned : ByteArray := prog_14_method_21_code
def y_MO_aligned : MethodName := ⟨"PageMachineModel", "aligned", "(IIZZ)J"⟩
set_option maxRecDepth 20000 in
theorem mc_MO_aligned : Cond.code y_MO_aligned b_MO_aligned 5 (Option.some Jvm.ClassFile.FieldType.long) ∈ gt_bl := gt_in (List.mem_of_getElem? (i := 1111) rfl) rfl
theorem kv_MO_aligned : KV y_MO_aligned b_MO_aligned 5 (Option.some Jvm.ClassFile.FieldType.long) 4 := ⟨mc_MO_aligned, mw_1043, mp_37, mw_12, by decide +kernel⟩
abbrev b_MO_bytesAt : ByteArray := prog_14_method_22_code
def y_MO_bytesAt : MethodName := ⟨"PageMachineModel", "bytesAt", "(JI)I"⟩
set_option maxRecDepth 20000 in
theorem mc_MO_bytesAt : Cond.code y_MO_bytesAt b_MO_bytesAt 6 (Option.some Jvm.ClassFile.FieldType.int) ∈ gt_bl := gt_in (List.mem_of_getElem? (i := 1237) rfl) rfl
theorem kv_MO_bytesAt : KV y_MO_bytesAt b_MO_bytesAt 6 (Option.some Jvm.ClassFile.FieldType.int) 2 := ⟨mc_MO_bytesAt, mw_1169, mp_64, mw_12, by decide +kernel⟩
abbrev b_MO_store : ByteArray := prog_14_method_23_code
def y_MO_store : MethodName := ⟨"PageMachineModel", "store", "(JII)V"⟩
set_option maxRecDepth 20000 in
theorem mc_MO_store : Cond.code y_MO_store b_MO_store 8 (Option.none : Option Jvm.ClassFile.FieldType) ∈ gt_bl := gt_in (List.mem_of_getElem? (i := 1233) rfl) rfl
theorem kv_MO_store : KV y_MO_store b_MO_store 8 (Option.none : Option Jvm.ClassFile.FieldType) 3 := ⟨mc_MO_store, mw_1165, mp_63, mw_12, by decide +kernel⟩
abbrev b_MO_enter : ByteArray := prog_14_method_24_code
def y_MO_enter : MethodName := ⟨"PageMachineModel", "enter", "()V"⟩
set_option maxRecDepth 20000 in
theorem mc_MO_enter : Cond.code y_MO_enter b_MO_enter 2 (Option.none : Option Jvm.ClassFile.FieldType) ∈ gt_bl := gt_in (List.mem_of_getElem? (i := 1103) rfl) rfl
theorem kv_MO_enter : KV y_MO_enter b_MO_enter 2 (Option.none : Option Jvm.ClassFile.FieldType) 0 := ⟨mc_MO_enter, mw_1035, mp_36, mw_12, by decide +kernel⟩
abbrev b_MO_raise : ByteArray := prog_14_method_25_code
def y_MO_raise : MethodName := ⟨"PageMachineModel", "raise", "(I)I"⟩
set_option maxRecDepth 20000 in
theorem mc_MO_raise : Cond.code y_MO_raise b_MO_raise 2 (Option.some Jvm.ClassFile.FieldType.int) ∈ gt_bl := gt_in (List.mem_of_getElem? (i := 1149) rfl) rfl
theorem kv_MO_raise : KV y_MO_raise b_MO_raise 2 (Option.some Jvm.ClassFile.FieldType.int) 1 := ⟨mc_MO_raise, mw_1081, mp_45, mw_12, by decide +kernel⟩
abbrev b_MO_isCalled : ByteArray := prog_14_method_26_code
def y_MO_isCalled : MethodName := ⟨"PageMachineModel", "isCalled", "()Z"⟩
set_option maxRecDepth 20000 in
theorem mc_MO_isCalled : Cond.code y_MO_isCalled b_MO_isCalled 1 (Option.some Jvm.ClassFile.FieldType.boolean) ∈ gt_bl := gt_in (List.mem_of_getElem? (i := 1094) rfl) rfl
theorem kv_MO_isCalled : KV y_MO_isCalled b_MO_isCalled 1 (Option.some Jvm.ClassFile.FieldType.boolean) 0 := ⟨mc_MO_isCalled, mw_1026, mp_34, mw_12, by decide +kernel⟩
abbrev b_MO_go : ByteArray := prog_14_method_27_code
def y_MO_go : MethodName := ⟨"PageMachineModel", "go", "()Z"⟩
set_option maxRecDepth 20000 in
theorem mc_MO_go : Cond.code y_MO_go b_MO_go 4 (Option.some Jvm.ClassFile.FieldType.boolean) ∈ gt_bl := gt_in (List.mem_of_getElem? (i := 1090) rfl) rfl
theorem kv_MO_go : KV y_MO_go b_MO_go 4 (Option.some Jvm.ClassFile.FieldType.boolean) 0 := ⟨mc_MO_go, mw_1022, mp_33, mw_12, by decide +kernel⟩
abbrev b_MO_step : ByteArray := prog_14_method_28_code
def y_MO_step : MethodName := ⟨"PageMachineModel", "step", "(I)I"⟩
set_option maxRecDepth 20000 in
theorem mc_MO_step : Cond.code y_MO_step b_MO_step 4 (Option.some Jvm.ClassFile.FieldType.int) ∈ gt_bl := gt_in (List.mem_of_getElem? (i := 1086) rfl) rfl
theorem kv_MO_step : KV y_MO_step b_MO_step 4 (Option.some Jvm.ClassFile.FieldType.int) 1 := ⟨mc_MO_step, mw_1017, mw_1018, mw_12, by decide +kernel⟩
abbrev b_MO_isBelow : ByteArray := prog_14_method_29_code
def y_MO_isBelow : MethodName := ⟨"PageMachineModel", "isBelow", "(II)Z"⟩
set_option maxRecDepth 20000 in
theorem mc_MO_isBelow : Cond.code y_MO_isBelow b_MO_isBelow 2 (Option.some Jvm.ClassFile.FieldType.boolean) ∈ gt_bl := gt_in (List.mem_of_getElem? (i := 1180) rfl) rfl
theorem ks_MO_isBelow : KS y_MO_isBelow b_MO_isBelow 2 (Option.some Jvm.ClassFile.FieldType.boolean) 2 := ⟨mc_MO_isBelow, mw_1112, mw_12, by decide +kernel⟩
abbrev b_MO_perform : ByteArray := prog_14_method_30_code
def y_MO_perform : MethodName := ⟨"PageMachineModel", "perform", "(I)V"⟩
set_option maxRecDepth 20000 in
theorem mc_MO_perform : Cond.code y_MO_perform b_MO_perform 8 (Option.none : Option Jvm.ClassFile.FieldType) ∈ gt_bl := gt_in (List.mem_of_getElem? (i := 1141) rfl) rfl
theorem kv_MO_perform : KV y_MO_perform b_MO_perform 8 (Option.none : Option Jvm.ClassFile.FieldType) 1 := ⟨mc_MO_perform, mw_1073, mp_43, mw_12, by decide +kernel⟩
abbrev b_MO_other : ByteArray := prog_14_method_31_code
def y_MO_other : MethodName := ⟨"PageMachineModel", "other", "(I)V"⟩
set_option maxRecDepth 20000 in
theorem mc_MO_other : Cond.code y_MO_other b_MO_other 5 (Option.none : Option Jvm.ClassFile.FieldType) ∈ gt_bl := gt_in (List.mem_of_getElem? (i := 1225) rfl) rfl
theorem kv_MO_other : KV y_MO_other b_MO_other 5 (Option.none : Option Jvm.ClassFile.FieldType) 1 := ⟨mc_MO_other, mw_1157, mp_61, mw_12, by decide +kernel⟩
abbrev b_MO_branch : ByteArray := prog_14_method_32_code
def y_MO_branch : MethodName := ⟨"PageMachineModel", "branch", "(ZIZ)V"⟩
set_option maxRecDepth 20000 in
theorem mc_MO_branch : Cond.code y_MO_branch b_MO_branch 4 (Option.none : Option Jvm.ClassFile.FieldType) ∈ gt_bl := gt_in (List.mem_of_getElem? (i := 1153) rfl) rfl
theorem kv_MO_branch : KV y_MO_branch b_MO_branch 4 (Option.none : Option Jvm.ClassFile.FieldType) 3 := ⟨mc_MO_branch, mw_1085, mp_46, mw_12, by decide +kernel⟩
abbrev b_MO_special : ByteArray := prog_14_method_33_code
def y_MO_special : MethodName := ⟨"PageMachineModel", "special", "(III)V"⟩
set_option maxRecDepth 20000 in
theorem mc_MO_special : Cond.code y_MO_special b_MO_special 7 (Option.none : Option Jvm.ClassFile.FieldType) ∈ gt_bl := gt_in (List.mem_of_getElem? (i := 1145) rfl) rfl
theorem kv_MO_special : KV y_MO_special b_MO_special 7 (Option.none : Option Jvm.ClassFile.FieldType) 3 := ⟨mc_MO_special, mw_1077, mp_44, mw_12, by decide +kernel⟩
abbrev b_MO_shift : ByteArray := prog_14_method_34_code
def y_MO_shift : MethodName := ⟨"PageMachineModel", "shift", "(IIII)V"⟩
set_option maxRecDepth 20000 in
theorem mc_MO_shift : Cond.code y_MO_shift b_MO_shift 6 (Option.none : Option Jvm.ClassFile.FieldType) ∈ gt_bl := gt_in (List.mem_of_getElem? (i := 1157) rfl) rfl
theorem kv_MO_shift : KV y_MO_shift b_MO_shift 6 (Option.none : Option Jvm.ClassFile.FieldType) 4 := ⟨mc_MO_shift, mw_1089, mp_47, mw_12, by decide +kernel⟩
abbrev b_MO_moves : ByteArray := prog_14_method_35_code
def y_MO_moves : MethodName := ⟨"PageMachineModel", "moves", "(IIII)V"⟩
set_option maxRecDepth 20000 in
theorem mc_MO_moves : Cond.code y_MO_moves b_MO_moves 5 (Option.none : Option Jvm.ClassFile.FieldType) ∈ gt_bl := gt_in (List.mem_of_getElem? (i := 1161) rfl) rfl
theorem kv_MO_moves : KV y_MO_moves b_MO_moves 5 (Option.none : Option Jvm.ClassFile.FieldType) 4 := ⟨mc_MO_moves, mw_1093, mp_48, mw_12, by decide +kernel⟩
abbrev b_MO_whole : ByteArray := prog_14_method_36_code
def y_MO_whole : MethodName := ⟨"PageMachineModel", "whole", "(IZ)J"⟩
set_option maxRecDepth 20000 in
theorem mc_MO_whole : Cond.code y_MO_whole b_MO_whole 2 (Option.some Jvm.ClassFile.FieldType.long) ∈ gt_bl := gt_in (List.mem_of_getElem? (i := 1168) rfl) rfl
theorem ks_MO_whole : KS y_MO_whole b_MO_whole 2 (Option.some Jvm.ClassFile.FieldType.long) 2 := ⟨mc_MO_whole, mw_1100, mw_12, by decide +kernel⟩
abbrev b_MO_setBoth : ByteArray := prog_14_method_37_code
def y_MO_setBoth : MethodName := ⟨"PageMachineModel", "setBoth", "(J)V"⟩
set_option maxRecDepth 20000 in
theorem mc_MO_setBoth : Cond.code y_MO_setBoth b_MO_setBoth 3 (Option.none : Option Jvm.ClassFile.FieldType) ∈ gt_bl := gt_in (List.mem_of_getElem? (i := 1173) rfl) rfl
theorem kv_MO_setBoth : KV y_MO_setBoth b_MO_setBoth 3 (Option.none : Option Jvm.ClassFile.FieldType) 1 := ⟨mc_MO_setBoth, mw_1105, mp_50, mw_12, by decide +kernel⟩
abbrev b_MO_divides : ByteArray := prog_14_method_38_code
def y_MO_divides : MethodName := ⟨"PageMachineModel", "divides", "(III)V"⟩
set_option maxRecDepth 20000 in
theorem mc_MO_divides : Cond.code y_MO_divides b_MO_divides 9 (Option.none : Option Jvm.ClassFile.FieldType) ∈ gt_bl := gt_in (List.mem_of_getElem? (i := 1165) rfl) rfl
theorem kv_MO_divides : KV y_MO_divides b_MO_divides 9 (Option.none : Option Jvm.ClassFile.FieldType) 3 := ⟨mc_MO_divides, mw_1097, mp_49, mw_12, by decide +kernel⟩
abbrev b_MO_sums : ByteArray := prog_14_method_39_code
def y_MO_sums : MethodName := ⟨"PageMachineModel", "sums", "(IIII)V"⟩
set_option maxRecDepth 20000 in
theorem mc_MO_sums : Cond.code y_MO_sums b_MO_sums 7 (Option.none : Option Jvm.ClassFile.FieldType) ∈ gt_bl := gt_in (List.mem_of_getElem? (i := 1184) rfl) rfl
theorem kv_MO_sums : KV y_MO_sums b_MO_sums 7 (Option.none : Option Jvm.ClassFile.FieldType) 4 := ⟨mc_MO_sums, mw_1116, mp_52, mw_12, by decide +kernel⟩
abbrev b_MO_trap : ByteArray := prog_14_method_40_code
def y_MO_trap : MethodName := ⟨"PageMachineModel", "trap", "(III)V"⟩
set_option maxRecDepth 20000 in
theorem mc_MO_trap : Cond.code y_MO_trap b_MO_trap 5 (Option.none : Option Jvm.ClassFile.FieldType) ∈ gt_bl := gt_in (List.mem_of_getElem? (i := 1177) rfl) rfl
theorem kv_MO_trap : KV y_MO_trap b_MO_trap 5 (Option.none : Option Jvm.ClassFile.FieldType) 3 := ⟨mc_MO_trap, mw_1109, mp_51, mw_12, by decide +kernel⟩
abbrev b_MO_byRegister : ByteArray := prog_14_method_41_code
def y_MO_byRegister : MethodName := ⟨"PageMachineModel", "byRegister", "(III)V"⟩
set_option maxRecDepth 20000 in
theorem mc_MO_byRegister : Cond.code y_MO_byRegister b_MO_byRegister 5 (Option.none : Option Jvm.ClassFile.FieldType) ∈ gt_bl := gt_in (List.mem_of_getElem? (i := 1188) rfl) rfl
theorem kv_MO_byRegister : KV y_MO_byRegister b_MO_byRegister 5 (Option.none : Option Jvm.ClassFile.FieldType) 3 := ⟨mc_MO_byRegister, mw_1120, mp_53, mw_12, by decide +kernel⟩
abbrev b_MO_branches : ByteArray := prog_14_method_42_code
def y_MO_branches : MethodName := ⟨"PageMachineModel", "branches", "(IIIII)V"⟩
set_option maxRecDepth 20000 in
theorem mc_MO_branches : Cond.code y_MO_branches b_MO_branches 8 (Option.none : Option Jvm.ClassFile.FieldType) ∈ gt_bl := gt_in (List.mem_of_getElem? (i := 1192) rfl) rfl
theorem kv_MO_branches : KV y_MO_branches b_MO_branches 8 (Option.none : Option Jvm.ClassFile.FieldType) 5 := ⟨mc_MO_branches, mw_1124, mp_54, mw_12, by decide +kernel⟩
abbrev b_MO_immediate : ByteArray := prog_14_method_43_code
def y_MO_immediate : MethodName := ⟨"PageMachineModel", "immediate", "(IIII)V"⟩
set_option maxRecDepth 20000 in
theorem mc_MO_immediate : Cond.code y_MO_immediate b_MO_immediate 9 (Option.none : Option Jvm.ClassFile.FieldType) ∈ gt_bl := gt_in (List.mem_of_getElem? (i := 1197) rfl) rfl
theorem kv_MO_immediate : KV y_MO_immediate b_MO_immediate 9 (Option.none : Option Jvm.ClassFile.FieldType) 4 := ⟨mc_MO_immediate, mw_1129, mp_55, mw_12, by decide +kernel⟩
abbrev b_MO_zeros : ByteArray := prog_14_method_44_code
def y_MO_zeros : MethodName := ⟨"PageMachineModel", "zeros", "(I)I"⟩
set_option maxRecDepth 20000 in
theorem mc_MO_zeros : Cond.code y_MO_zeros b_MO_zeros 2 (Option.some Jvm.ClassFile.FieldType.int) ∈ gt_bl := gt_in (List.mem_of_getElem? (i := 1217) rfl) rfl
theorem ks_MO_zeros : KS y_MO_zeros b_MO_zeros 2 (Option.some Jvm.ClassFile.FieldType.int) 1 := ⟨mc_MO_zeros, mw_1149, mw_12, by decide +kernel⟩
abbrev b_MO_multiplies : ByteArray := prog_14_method_45_code
def y_MO_multiplies : MethodName := ⟨"PageMachineModel", "multiplies", "(III)V"⟩
set_option maxRecDepth 20000 in
theorem mc_MO_multiplies : Cond.code y_MO_multiplies b_MO_multiplies 11 (Option.none : Option Jvm.ClassFile.FieldType) ∈ gt_bl := gt_in (List.mem_of_getElem? (i := 1214) rfl) rfl
theorem kv_MO_multiplies : KV y_MO_multiplies b_MO_multiplies 11 (Option.none : Option Jvm.ClassFile.FieldType) 3 := ⟨mc_MO_multiplies, mw_1146, mp_59, mw_12, by decide +kernel⟩
abbrev b_MO_system : ByteArray := prog_14_method_46_code
def y_MO_system : MethodName := ⟨"PageMachineModel", "system", "(IIII)V"⟩
set_option maxRecDepth 20000 in
theorem mc_MO_system : Cond.code y_MO_system b_MO_system 6 (Option.none : Option Jvm.ClassFile.FieldType) ∈ gt_bl := gt_in (List.mem_of_getElem? (i := 1202) rfl) rfl
theorem kv_MO_system : KV y_MO_system b_MO_system 6 (Option.none : Option Jvm.ClassFile.FieldType) 4 := ⟨mc_MO_system, mw_1134, mp_56, mw_12, by decide +kernel⟩
abbrev b_MO_setEntry : ByteArray := prog_14_method_47_code
def y_MO_setEntry : MethodName := ⟨"PageMachineModel", "setEntry", "(I)V"⟩
set_option maxRecDepth 20000 in
theorem mc_MO_setEntry : Cond.code y_MO_setEntry b_MO_setEntry 2 (Option.none : Option Jvm.ClassFile.FieldType) ∈ gt_bl := gt_in (List.mem_of_getElem? (i := 1210) rfl) rfl
theorem kv_MO_setEntry : KV y_MO_setEntry b_MO_setEntry 2 (Option.none : Option Jvm.ClassFile.FieldType) 1 := ⟨mc_MO_setEntry, mw_1142, mp_58, mw_12, by decide +kernel⟩
abbrev b_MO_tables : ByteArray := prog_14_method_48_code
def y_MO_tables : MethodName := ⟨"PageMachineModel", "tables", "(I)V"⟩
set_option maxRecDepth 20000 in
theorem mc_MO_tables : Cond.code y_MO_tables b_MO_tables 3 (Option.none : Option Jvm.ClassFile.FieldType) ∈ gt_bl := gt_in (List.mem_of_getElem? (i := 1206) rfl) rfl
theorem kv_MO_tables : KV y_MO_tables b_MO_tables 3 (Option.none : Option Jvm.ClassFile.FieldType) 1 := ⟨mc_MO_tables, mw_1138, mp_57, mw_12, by decide +kernel⟩
abbrev b_MO_memories : ByteArray := prog_14_method_49_code
def y_MO_memories : MethodName := ⟨"PageMachineModel", "memories", "(III)V"⟩
set_option maxRecDepth 20000 in
theorem mc_MO_memories : Cond.code y_MO_memories b_MO_memories 10 (Option.none : Option Jvm.ClassFile.FieldType) ∈ gt_bl := gt_in (List.mem_of_getElem? (i := 1221) rfl) rfl
theorem kv_MO_memories : KV y_MO_memories b_MO_memories 10 (Option.none : Option Jvm.ClassFile.FieldType) 3 := ⟨mc_MO_memories, mw_1153, mp_60, mw_12, by decide +kernel⟩
abbrev b_MO_load : ByteArray := prog_14_method_50_code
def y_MO_load : MethodName := ⟨"PageMachineModel", "load", "(IIIJ)V"⟩
set_option maxRecDepth 20000 in
theorem mc_MO_load : Cond.code y_MO_load b_MO_load 7 (Option.none : Option Jvm.ClassFile.FieldType) ∈ gt_bl := gt_in (List.mem_of_getElem? (i := 1245) rfl) rfl
theorem kv_MO_load : KV y_MO_load b_MO_load 7 (Option.none : Option Jvm.ClassFile.FieldType) 4 := ⟨mc_MO_load, mw_1177, mp_66, mw_12, by decide +kernel⟩
abbrev b_MO_keep : ByteArray := prog_14_method_51_code
def y_MO_keep : MethodName := ⟨"PageMachineModel", "keep", "(IIIJ)V"⟩
set_option maxRecDepth 20000 in
theorem mc_MO_keep : Cond.code y_MO_keep b_MO_keep 6 (Option.none : Option Jvm.ClassFile.FieldType) ∈ gt_bl := gt_in (List.mem_of_getElem? (i := 1241) rfl) rfl
theorem kv_MO_keep : KV y_MO_keep b_MO_keep 6 (Option.none : Option Jvm.ClassFile.FieldType) 4 := ⟨mc_MO_keep, mw_1173, mp_65, mw_12, by decide +kernel⟩
abbrev b_MO_partly : ByteArray := prog_14_method_52_code
def y_MO_partly : MethodName := ⟨"PageMachineModel", "partly", "(IIJ)V"⟩
set_option maxRecDepth 20000 in
theorem mc_MO_partly : Cond.code y_MO_partly b_MO_partly 12 (Option.none : Option Jvm.ClassFile.FieldType) ∈ gt_bl := gt_in (List.mem_of_getElem? (i := 1229) rfl) rfl
theorem kv_MO_partly : KV y_MO_partly b_MO_partly 12 (Option.none : Option Jvm.ClassFile.FieldType) 3 := ⟨mc_MO_partly, mw_1161, mp_62, mw_12, by decide +kernel⟩
abbrev b_MO_entry : ByteArray := prog_14_method_53_code
def y_MO_entry : MethodName := ⟨"PageMachineModel", "entry", "(II)I"⟩
set_option maxRecDepth 20000 in
theorem mc_MO_entry : Cond.code y_MO_entry b_MO_entry 3 (Option.some Jvm.ClassFile.FieldType.int) ∈ gt_bl := gt_in (List.mem_of_getElem? (i := 1249) rfl) rfl
theorem kv_MO_entry : KV y_MO_entry b_MO_entry 3 (Option.some Jvm.ClassFile.FieldType.int) 2 := ⟨mc_MO_entry, mw_1180, mw_1181, mw_12, by decide +kernel⟩
abbrev b_MO_translate : ByteArray := prog_14_method_54_code
def y_MO_translate : MethodName := ⟨"PageMachineModel", "translate", "(II)J"⟩
set_option maxRecDepth 20000 in
theorem mc_MO_translate : Cond.code y_MO_translate b_MO_translate 5 (Option.some Jvm.ClassFile.FieldType.long) ∈ gt_bl := gt_in (List.mem_of_getElem? (i := 1253) rfl) rfl
theorem kv_MO_translate : KV y_MO_translate b_MO_translate 5 (Option.some Jvm.ClassFile.FieldType.long) 2 := ⟨mc_MO_translate, mw_1184, mw_1185, mw_12, by decide +kernel⟩
abbrev b_MO_handler : ByteArray := prog_14_method_55_code
def y_MO_handler : MethodName := ⟨"PageMachineModel", "handler", "()I"⟩
set_option maxRecDepth 20000 in
theorem mc_MO_handler : Cond.code y_MO_handler b_MO_handler 1 (Option.some Jvm.ClassFile.FieldType.int) ∈ gt_bl := gt_in (List.mem_of_getElem? (i := 1258) rfl) rfl
theorem kv_MO_handler : KV y_MO_handler b_MO_handler 1 (Option.some Jvm.ClassFile.FieldType.int) 0 := ⟨mc_MO_handler, mw_1189, mw_1190, mw_12, by decide +kernel⟩
abbrev b_MO_count : ByteArray := prog_14_method_56_code
def y_MO_count : MethodName := ⟨"PageMachineModel", "count", "(I)I"⟩
set_option maxRecDepth 20000 in
theorem mc_MO_count : Cond.code y_MO_count b_MO_count 2 (Option.some Jvm.ClassFile.FieldType.int) ∈ gt_bl := gt_in (List.mem_of_getElem? (i := 1269) rfl) rfl
theorem kv_MO_count : KV y_MO_count b_MO_count 2 (Option.some Jvm.ClassFile.FieldType.int) 1 := ⟨mc_MO_count, mw_1200, mw_1201, mw_12, by decide +kernel⟩
abbrev b_AS_init : ByteArray := prog_2_method_1_code
def y_AS_init : MethodName := ⟨"PageMachine$AddressSpace", "<init>", "(LPageMachine$Memory;LPageMachine$SystemRegisters;LPageMachine$Tlb;)V"⟩
set_option maxRecDepth 20000 in
theorem mc_AS_init : Cond.code y_AS_init b_AS_init 4 (Option.none : Option Jvm.ClassFile.FieldType) ∈ gt_bl := gt_in (List.mem_of_getElem? (i := 150) rfl) rfl
abbrev b_AS_lastAsked : ByteArray := prog_2_method_2_code
def y_AS_lastAsked : MethodName := ⟨"PageMachine$AddressSpace", "lastAsked", "()I"⟩
set_option maxRecDepth 20000 in
theorem mc_AS_lastAsked : Cond.code y_AS_lastAsked b_AS_lastAsked 1 (Option.some Jvm.ClassFile.FieldType.int) ∈ gt_bl := gt_in (List.mem_of_getElem? (i := 535) rfl) rfl
theorem kv_AS_lastAsked : KV y_AS_lastAsked b_AS_lastAsked 1 (Option.some Jvm.ClassFile.FieldType.int) 0 := ⟨mc_AS_lastAsked, mw_466, mw_467, mw_5, by decide +kernel⟩
abbrev b_AS_faultIn : ByteArray := prog_2_method_3_code
def y_AS_faultIn : MethodName := ⟨"PageMachine$AddressSpace", "faultIn", "(J)I"⟩
set_option maxRecDepth 20000 in
theorem mc_AS_faultIn : Cond.code y_AS_faultIn b_AS_faultIn 2 (Option.some Jvm.ClassFile.FieldType.int) ∈ gt_bl := gt_in (List.mem_of_getElem? (i := 592) rfl) rfl
theorem ks_AS_faultIn : KS y_AS_faultIn b_AS_faultIn 2 (Option.some Jvm.ClassFile.FieldType.int) 1 := ⟨mc_AS_faultIn, mw_524, mw_5, by decide +kernel⟩
abbrev b_AS_faulty : ByteArray := prog_2_method_4_code
def y_AS_faulty : MethodName := ⟨"PageMachine$AddressSpace", "faulty", "(I)J"⟩
set_option maxRecDepth 20000 in
theorem mc_AS_faulty : Cond.code y_AS_faulty b_AS_faulty 1 (Option.some Jvm.ClassFile.FieldType.long) ∈ gt_bl := gt_in (List.mem_of_getElem? (i := 566) rfl) rfl
theorem ks_AS_faulty : KS y_AS_faulty b_AS_faulty 1 (Option.some Jvm.ClassFile.FieldType.long) 1 := ⟨mc_AS_faulty, mw_498, mw_5, by decide +kernel⟩
abbrev b_AS_locateAligned : ByteArray := prog_2_method_5_code
def y_AS_locateAligned : MethodName := ⟨"PageMachine$AddressSpace", "locateAligned", "(III)J"⟩
set_option maxRecDepth 20000 in
theorem mc_AS_locateAligned : Cond.code y_AS_locateAligned b_AS_locateAligned 4 (Option.some Jvm.ClassFile.FieldType.long) ∈ gt_bl := gt_in (List.mem_of_getElem? (i := 563) rfl) rfl
theorem kv_AS_locateAligned : KV y_AS_locateAligned b_AS_locateAligned 4 (Option.some Jvm.ClassFile.FieldType.long) 3 := ⟨mc_AS_locateAligned, mw_494, mw_495, mw_5, by decide +kernel⟩
abbrev b_AS_locate : ByteArray := prog_2_method_6_code
def y_AS_locate : MethodName := ⟨"PageMachine$AddressSpace", "locate", "(II)J"⟩
set_option maxRecDepth 20000 in
theorem mc_AS_locate : Cond.code y_AS_locate b_AS_locate 6 (Option.some Jvm.ClassFile.FieldType.long) ∈ gt_bl := gt_in (List.mem_of_getElem? (i := 570) rfl) rfl
theorem kv_AS_locate : KV y_AS_locate b_AS_locate 6 (Option.some Jvm.ClassFile.FieldType.long) 2 := ⟨mc_AS_locate, mw_501, mw_502, mw_5, by decide +kernel⟩
abbrev b_AS_locateMapped : ByteArray := prog_2_method_7_code
def y_AS_locateMapped : MethodName := ⟨"PageMachine$AddressSpace", "locateMapped", "(II)J"⟩
set_option maxRecDepth 20000 in
theorem mc_AS_locateMapped : Cond.code y_AS_locateMapped b_AS_locateMapped 6 (Option.some Jvm.ClassFile.FieldType.long) ∈ gt_bl := gt_in (List.mem_of_getElem? (i := 579) rfl) rfl
theorem kv_AS_locateMapped : KV y_AS_locateMapped b_AS_locateMapped 6 (Option.some Jvm.ClassFile.FieldType.long) 2 := ⟨mc_AS_locateMapped, mw_511, mp_5, mw_5, by decide +kernel⟩
abbrev b_AR_init : ByteArray := prog_3_method_1_code
def y_AR_init : MethodName := ⟨"PageMachine$Arithmetic", "<init>", "(LPageMachine$Core;)V"⟩
set_option maxRecDepth 20000 in
theorem mc_AR_init : Cond.code y_AR_init b_AR_init 2 (Option.none : Option Jvm.ClassFile.FieldType) ∈ gt_bl := gt_in (List.mem_of_getElem? (i := 226) rfl) rfl
abbrev b_AR_performOp0 : ByteArray := prog_3_method_2_code
def y_AR_performOp0 : MethodName := ⟨"PageMachine$Arithmetic", "performOp0", "()I"⟩
set_option maxRecDepth 20000 in
theorem mc_AR_performOp0 : Cond.code y_AR_performOp0 b_AR_performOp0 2 (Option.some Jvm.ClassFile.FieldType.int) ∈ gt_bl := gt_in (List.mem_of_getElem? (i := 635) rfl) rfl
theorem kv_AR_performOp0 : KV y_AR_performOp0 b_AR_performOp0 2 (Option.some Jvm.ClassFile.FieldType.int) 0 := ⟨mc_AR_performOp0, mw_566, mw_567, mw_8, by decide +kernel⟩
abbrev b_AR_shift : ByteArray := prog_3_method_3_code
def y_AR_shift : MethodName := ⟨"PageMachine$Arithmetic", "shift", "(I)I"⟩
set_option maxRecDepth 20000 in
theorem mc_AR_shift : Cond.code y_AR_shift b_AR_shift 4 (Option.some Jvm.ClassFile.FieldType.int) ∈ gt_bl := gt_in (List.mem_of_getElem? (i := 640) rfl) rfl
theorem kv_AR_shift : KV y_AR_shift b_AR_shift 4 (Option.some Jvm.ClassFile.FieldType.int) 1 := ⟨mc_AR_shift, mw_572, mp_8, mw_8, by decide +kernel⟩
abbrev b_AR_moveOrCall : ByteArray := prog_3_method_4_code
def y_AR_moveOrCall : MethodName := ⟨"PageMachine$Arithmetic", "moveOrCall", "(I)I"⟩
set_option maxRecDepth 20000 in
theorem mc_AR_moveOrCall : Cond.code y_AR_moveOrCall b_AR_moveOrCall 2 (Option.some Jvm.ClassFile.FieldType.int) ∈ gt_bl := gt_in (List.mem_of_getElem? (i := 655) rfl) rfl
theorem kv_AR_moveOrCall : KV y_AR_moveOrCall b_AR_moveOrCall 2 (Option.some Jvm.ClassFile.FieldType.int) 1 := ⟨mc_AR_moveOrCall, mw_587, mp_9, mw_8, by decide +kernel⟩
abbrev b_AR_moveHiLo : ByteArray := prog_3_method_5_code
def y_AR_moveHiLo : MethodName := ⟨"PageMachine$Arithmetic", "moveHiLo", "(I)I"⟩
set_option maxRecDepth 20000 in
theorem mc_AR_moveHiLo : Cond.code y_AR_moveHiLo b_AR_moveHiLo 2 (Option.some Jvm.ClassFile.FieldType.int) ∈ gt_bl := gt_in (List.mem_of_getElem? (i := 659) rfl) rfl
theorem kv_AR_moveHiLo : KV y_AR_moveHiLo b_AR_moveHiLo 2 (Option.some Jvm.ClassFile.FieldType.int) 1 := ⟨mc_AR_moveHiLo, mw_591, mp_10, mw_8, by decide +kernel⟩
abbrev b_AR_multiplyOrDivide : ByteArray := prog_3_method_6_code
def y_AR_multiplyOrDivide : MethodName := ⟨"PageMachine$Arithmetic", "multiplyOrDivide", "(I)I"⟩
set_option maxRecDepth 20000 in
theorem mc_AR_multiplyOrDivide : Cond.code y_AR_multiplyOrDivide b_AR_multiplyOrDivide 2 (Option.some Jvm.ClassFile.FieldType.int) ∈ gt_bl := gt_in (List.mem_of_getElem? (i := 663) rfl) rfl
theorem kv_AR_multiplyOrDivide : KV y_AR_multiplyOrDivide b_AR_multiplyOrDivide 2 (Option.some Jvm.ClassFile.FieldType.int) 1 := ⟨mc_AR_multiplyOrDivide, mw_595, mp_11, mw_8, by decide +kernel⟩
abbrev b_AR_divide : ByteArray := prog_3_method_7_code
def y_AR_divide : MethodName := ⟨"PageMachine$Arithmetic", "divide", "(JJ)I"⟩
set_option maxRecDepth 20000 in
theorem mc_AR_divide : Cond.code y_AR_divide b_AR_divide 5 (Option.some Jvm.ClassFile.FieldType.int) ∈ gt_bl := gt_in (List.mem_of_getElem? (i := 683) rfl) rfl
theorem kv_AR_divide : KV y_AR_divide b_AR_divide 5 (Option.some Jvm.ClassFile.FieldType.int) 2 := ⟨mc_AR_divide, mw_615, mp_14, mw_8, by decide +kernel⟩
abbrev b_AR_addOrCombine : ByteArray := prog_3_method_8_code
def y_AR_addOrCombine : MethodName := ⟨"PageMachine$Arithmetic", "addOrCombine", "(I)I"⟩
set_option maxRecDepth 20000 in
theorem mc_AR_addOrCombine : Cond.code y_AR_addOrCombine b_AR_addOrCombine 5 (Option.some Jvm.ClassFile.FieldType.int) ∈ gt_bl := gt_in (List.mem_of_getElem? (i := 687) rfl) rfl
theorem kv_AR_addOrCombine : KV y_AR_addOrCombine b_AR_addOrCombine 5 (Option.some Jvm.ClassFile.FieldType.int) 1 := ⟨mc_AR_addOrCombine, mw_619, mp_15, mw_8, by decide +kernel⟩
abbrev b_AR_putChecked : ByteArray := prog_3_method_9_code
def y_AR_putChecked : MethodName := ⟨"PageMachine$Arithmetic", "putChecked", "(IJ)I"⟩
set_option maxRecDepth 20000 in
theorem mc_AR_putChecked : Cond.code y_AR_putChecked b_AR_putChecked 4 (Option.some Jvm.ClassFile.FieldType.int) ∈ gt_bl := gt_in (List.mem_of_getElem? (i := 691) rfl) rfl
theorem kv_AR_putChecked : KV y_AR_putChecked b_AR_putChecked 4 (Option.some Jvm.ClassFile.FieldType.int) 2 := ⟨mc_AR_putChecked, mw_623, mp_16, mw_8, by decide +kernel⟩
abbrev b_AR_compare : ByteArray := prog_3_method_10_code
def y_AR_compare : MethodName := ⟨"PageMachine$Arithmetic", "compare", "(I)I"⟩
set_option maxRecDepth 20000 in
theorem mc_AR_compare : Cond.code y_AR_compare b_AR_compare 4 (Option.some Jvm.ClassFile.FieldType.int) ∈ gt_bl := gt_in (List.mem_of_getElem? (i := 695) rfl) rfl
theorem kv_AR_compare : KV y_AR_compare b_AR_compare 4 (Option.some Jvm.ClassFile.FieldType.int) 1 := ⟨mc_AR_compare, mw_627, mp_17, mw_8, by decide +kernel⟩
abbrev b_AR_trapImmediate : ByteArray := prog_3_method_11_code
def y_AR_trapImmediate : MethodName := ⟨"PageMachine$Arithmetic", "trapImmediate", "()I"⟩
set_option maxRecDepth 20000 in
theorem mc_AR_trapImmediate : Cond.code y_AR_trapImmediate b_AR_trapImmediate 1 (Option.some Jvm.ClassFile.FieldType.int) ∈ gt_bl := gt_in (List.mem_of_getElem? (i := 735) rfl) rfl
theorem kv_AR_trapImmediate : KV y_AR_trapImmediate b_AR_trapImmediate 1 (Option.some Jvm.ClassFile.FieldType.int) 0 := ⟨mc_AR_trapImmediate, mw_666, mw_667, mw_8, by decide +kernel⟩
abbrev b_AR_trap : ByteArray := prog_3_method_12_code
def y_AR_trap : MethodName := ⟨"PageMachine$Arithmetic", "trap", "(II)I"⟩
set_option maxRecDepth 20000 in
theorem mc_AR_trap : Cond.code y_AR_trap b_AR_trap 4 (Option.some Jvm.ClassFile.FieldType.int) ∈ gt_bl := gt_in (List.mem_of_getElem? (i := 703) rfl) rfl
theorem kv_AR_trap : KV y_AR_trap b_AR_trap 4 (Option.some Jvm.ClassFile.FieldType.int) 2 := ⟨mc_AR_trap, mw_635, mp_18, mw_8, by decide +kernel⟩
abbrev b_AR_immediate : ByteArray := prog_3_method_13_code
def y_AR_immediate : MethodName := ⟨"PageMachine$Arithmetic", "immediate", "()I"⟩
set_option maxRecDepth 20000 in
theorem mc_AR_immediate : Cond.code y_AR_immediate b_AR_immediate 5 (Option.some Jvm.ClassFile.FieldType.int) ∈ gt_bl := gt_in (List.mem_of_getElem? (i := 760) rfl) rfl
theorem kv_AR_immediate : KV y_AR_immediate b_AR_immediate 5 (Option.some Jvm.ClassFile.FieldType.int) 0 := ⟨mc_AR_immediate, mw_691, mw_692, mw_8, by decide +kernel⟩
abbrev b_AR_performOp1C : ByteArray := prog_3_method_14_code
def y_AR_performOp1C : MethodName := ⟨"PageMachine$Arithmetic", "performOp1C", "()I"⟩
set_option maxRecDepth 20000 in
theorem mc_AR_performOp1C : Cond.code y_AR_performOp1C b_AR_performOp1C 2 (Option.some Jvm.ClassFile.FieldType.int) ∈ gt_bl := gt_in (List.mem_of_getElem? (i := 848) rfl) rfl
theorem kv_AR_performOp1C : KV y_AR_performOp1C b_AR_performOp1C 2 (Option.some Jvm.ClassFile.FieldType.int) 0 := ⟨mc_AR_performOp1C, mw_779, mw_780, mw_8, by decide +kernel⟩
abbrev b_AR_hiLo : ByteArray := prog_3_method_15_code
def y_AR_hiLo : MethodName := ⟨"PageMachine$Arithmetic", "hiLo", "()J"⟩
set_option maxRecDepth 20000 in
theorem mc_AR_hiLo : Cond.code y_AR_hiLo b_AR_hiLo 1 (Option.some Jvm.ClassFile.FieldType.long) ∈ gt_bl := gt_in (List.mem_of_getElem? (i := 852) rfl) rfl
theorem kv_AR_hiLo : KV y_AR_hiLo b_AR_hiLo 1 (Option.some Jvm.ClassFile.FieldType.long) 0 := ⟨mc_AR_hiLo, mw_784, mp_26, mw_8, by decide +kernel⟩
abbrev b_AR_product : ByteArray := prog_3_method_16_code
def y_AR_product : MethodName := ⟨"PageMachine$Arithmetic", "product", "()J"⟩
set_option maxRecDepth 20000 in
theorem mc_AR_product : Cond.code y_AR_product b_AR_product 1 (Option.some Jvm.ClassFile.FieldType.long) ∈ gt_bl := gt_in (List.mem_of_getElem? (i := 667) rfl) rfl
theorem kv_AR_product : KV y_AR_product b_AR_product 1 (Option.some Jvm.ClassFile.FieldType.long) 0 := ⟨mc_AR_product, mw_599, mp_12, mw_8, by decide +kernel⟩
abbrev b_AR_plainProduct : ByteArray := prog_3_method_17_code
def y_AR_plainProduct : MethodName := ⟨"PageMachine$Arithmetic", "plainProduct", "()J"⟩
set_option maxRecDepth 20000 in
theorem mc_AR_plainProduct : Cond.code y_AR_plainProduct b_AR_plainProduct 1 (Option.some Jvm.ClassFile.FieldType.long) ∈ gt_bl := gt_in (List.mem_of_getElem? (i := 675) rfl) rfl
theorem kv_AR_plainProduct : KV y_AR_plainProduct b_AR_plainProduct 1 (Option.some Jvm.ClassFile.FieldType.long) 0 := ⟨mc_AR_plainProduct, mw_607, mp_13, mw_8, by decide +kernel⟩
abbrev b_AR_plain : ByteArray := prog_3_method_18_code
def y_AR_plain : MethodName := ⟨"PageMachine$Arithmetic", "plain", "(I)J"⟩
set_option maxRecDepth 20000 in
theorem mc_AR_plain : Cond.code y_AR_plain b_AR_plain 1 (Option.some Jvm.ClassFile.FieldType.long) ∈ gt_bl := gt_in (List.mem_of_getElem? (i := 678) rfl) rfl
theorem ks_AR_plain : KS y_AR_plain b_AR_plain 1 (Option.some Jvm.ClassFile.FieldType.long) 1 := ⟨mc_AR_plain, mw_610, mw_8, by decide +kernel⟩
abbrev b_AR_plainlyBelow : ByteArray := prog_3_method_19_code
def y_AR_plainlyBelow : MethodName := ⟨"PageMachine$Arithmetic", "plainlyBelow", "(II)Z"⟩
set_option maxRecDepth 20000 in
theorem mc_AR_plainlyBelow : Cond.code y_AR_plainlyBelow b_AR_plainlyBelow 2 (Option.some Jvm.ClassFile.FieldType.boolean) ∈ gt_bl := gt_in (List.mem_of_getElem? (i := 698) rfl) rfl
theorem ks_AR_plainlyBelow : KS y_AR_plainlyBelow b_AR_plainlyBelow 2 (Option.some Jvm.ClassFile.FieldType.boolean) 2 := ⟨mc_AR_plainlyBelow, mw_630, mw_8, by decide +kernel⟩
abbrev b_BR_init : ByteArray := prog_4_method_1_code
def y_BR_init : MethodName := ⟨"PageMachine$Branches", "<init>", "(LPageMachine$Core;)V"⟩
set_option maxRecDepth 20000 in
theorem mc_BR_init : Cond.code y_BR_init b_BR_init 2 (Option.none : Option Jvm.ClassFile.FieldType) ∈ gt_bl := gt_in (List.mem_of_getElem? (i := 236) rfl) rfl
abbrev b_BR_jumpToRegister : ByteArray := prog_4_method_2_code
def y_BR_jumpToRegister : MethodName := ⟨"PageMachine$Branches", "jumpToRegister", "(Z)I"⟩
set_option maxRecDepth 20000 in
theorem mc_BR_jumpToRegister : Cond.code y_BR_jumpToRegister b_BR_jumpToRegister 2 (Option.some Jvm.ClassFile.FieldType.int) ∈ gt_bl := gt_in (List.mem_of_getElem? (i := 618) rfl) rfl
theorem kv_BR_jumpToRegister : KV y_BR_jumpToRegister b_BR_jumpToRegister 2 (Option.some Jvm.ClassFile.FieldType.int) 1 := ⟨mc_BR_jumpToRegister, mw_549, mw_550, mw_9, by decide +kernel⟩
abbrev b_BR_jump : ByteArray := prog_4_method_3_code
def y_BR_jump : MethodName := ⟨"PageMachine$Branches", "jump", "(Z)I"⟩
set_option maxRecDepth 20000 in
theorem mc_BR_jump : Cond.code y_BR_jump b_BR_jump 2 (Option.some Jvm.ClassFile.FieldType.int) ∈ gt_bl := gt_in (List.mem_of_getElem? (i := 741) rfl) rfl
theorem kv_BR_jump : KV y_BR_jump b_BR_jump 2 (Option.some Jvm.ClassFile.FieldType.int) 1 := ⟨mc_BR_jump, mw_672, mw_673, mw_9, by decide +kernel⟩
abbrev b_BR_bySign : ByteArray := prog_4_method_4_code
def y_BR_bySign : MethodName := ⟨"PageMachine$Branches", "bySign", "()I"⟩
set_option maxRecDepth 20000 in
theorem mc_BR_bySign : Cond.code y_BR_bySign b_BR_bySign 3 (Option.some Jvm.ClassFile.FieldType.int) ∈ gt_bl := gt_in (List.mem_of_getElem? (i := 718) rfl) rfl
theorem kv_BR_bySign : KV y_BR_bySign b_BR_bySign 3 (Option.some Jvm.ClassFile.FieldType.int) 0 := ⟨mc_BR_bySign, mw_649, mw_650, mw_9, by decide +kernel⟩
abbrev b_BR_byComparison : ByteArray := prog_4_method_5_code
def y_BR_byComparison : MethodName := ⟨"PageMachine$Branches", "byComparison", "()I"⟩
set_option maxRecDepth 20000 in
theorem mc_BR_byComparison : Cond.code y_BR_byComparison b_BR_byComparison 1 (Option.some Jvm.ClassFile.FieldType.int) ∈ gt_bl := gt_in (List.mem_of_getElem? (i := 751) rfl) rfl
theorem kv_BR_byComparison : KV y_BR_byComparison b_BR_byComparison 1 (Option.some Jvm.ClassFile.FieldType.int) 0 := ⟨mc_BR_byComparison, mw_682, mw_683, mw_9, by decide +kernel⟩
abbrev b_BR_holds : ByteArray := prog_4_method_6_code
def y_BR_holds : MethodName := ⟨"PageMachine$Branches", "holds", "(III)Z"⟩
set_option maxRecDepth 20000 in
theorem mc_BR_holds : Cond.code y_BR_holds b_BR_holds 3 (Option.some Jvm.ClassFile.FieldType.boolean) ∈ gt_bl := gt_in (List.mem_of_getElem? (i := 756) rfl) rfl
theorem ks_BR_holds : KS y_BR_holds b_BR_holds 3 (Option.some Jvm.ClassFile.FieldType.boolean) 3 := ⟨mc_BR_holds, mw_688, mw_9, by decide +kernel⟩
abbrev b_BR_branch : ByteArray := prog_4_method_7_code
def y_BR_branch : MethodName := ⟨"PageMachine$Branches", "branch", "(ZZ)V"⟩
set_option maxRecDepth 20000 in
theorem mc_BR_branch : Cond.code y_BR_branch b_BR_branch 3 (Option.none : Option Jvm.ClassFile.FieldType) ∈ gt_bl := gt_in (List.mem_of_getElem? (i := 723) rfl) rfl
theorem kv_BR_branch : KV y_BR_branch b_BR_branch 3 (Option.none : Option Jvm.ClassFile.FieldType) 2 := ⟨mc_BR_branch, mw_655, mp_20, mw_9, by decide +kernel⟩
abbrev b_CP_init : ByteArray := prog_5_method_1_code
def y_CP_init : MethodName := ⟨"PageMachine$Coprocessor", "<init>", "(LPageMachine$Core;LPageMachine$SystemRegisters;LPageMachine$Tlb;)V"⟩
set_option maxRecDepth 20000 in
theorem mc_CP_init : Cond.code y_CP_init b_CP_init 4 (Option.none : Option Jvm.ClassFile.FieldType) ∈ gt_bl := gt_in (List.mem_of_getElem? (i := 262) rfl) rfl
abbrev b_CP_perform : ByteArray := prog_5_method_2_code
def y_CP_perform : MethodName := ⟨"PageMachine$Coprocessor", "perform", "()I"⟩
set_option maxRecDepth 20000 in
theorem mc_CP_perform : Cond.code y_CP_perform b_CP_perform 2 (Option.some Jvm.ClassFile.FieldType.int) ∈ gt_bl := gt_in (List.mem_of_getElem? (i := 770) rfl) rfl
theorem kv_CP_perform : KV y_CP_perform b_CP_perform 2 (Option.some Jvm.ClassFile.FieldType.int) 0 := ⟨mc_CP_perform, mw_701, mw_702, mw_11, by decide +kernel⟩
abbrev b_CP_command : ByteArray := prog_5_method_3_code
def y_CP_command : MethodName := ⟨"PageMachine$Coprocessor", "command", "(I)I"⟩
set_option maxRecDepth 20000 in
theorem mc_CP_command : Cond.code y_CP_command b_CP_command 2 (Option.some Jvm.ClassFile.FieldType.int) ∈ gt_bl := gt_in (List.mem_of_getElem? (i := 789) rfl) rfl
theorem kv_CP_command : KV y_CP_command b_CP_command 2 (Option.some Jvm.ClassFile.FieldType.int) 1 := ⟨mc_CP_command, mw_721, mp_21, mw_11, by decide +kernel⟩
abbrev b_CP_readEntry : ByteArray := prog_5_method_4_code
def y_CP_readEntry : MethodName := ⟨"PageMachine$Coprocessor", "readEntry", "(I)I"⟩
set_option maxRecDepth 20000 in
theorem mc_CP_readEntry : Cond.code y_CP_readEntry b_CP_readEntry 4 (Option.some Jvm.ClassFile.FieldType.int) ∈ gt_bl := gt_in (List.mem_of_getElem? (i := 794) rfl) rfl
theorem kv_CP_readEntry : KV y_CP_readEntry b_CP_readEntry 4 (Option.some Jvm.ClassFile.FieldType.int) 1 := ⟨mc_CP_readEntry, mw_726, mp_22, mw_11, by decide +kernel⟩
abbrev b_CP_writeEntry : ByteArray := prog_5_method_5_code
def y_CP_writeEntry : MethodName := ⟨"PageMachine$Coprocessor", "writeEntry", "(I)I"⟩
set_option maxRecDepth 20000 in
theorem mc_CP_writeEntry : Cond.code y_CP_writeEntry b_CP_writeEntry 4 (Option.some Jvm.ClassFile.FieldType.int) ∈ gt_bl := gt_in (List.mem_of_getElem? (i := 815) rfl) rfl
theorem kv_CP_writeEntry : KV y_CP_writeEntry b_CP_writeEntry 4 (Option.some Jvm.ClassFile.FieldType.int) 1 := ⟨mc_CP_writeEntry, mw_747, mp_23, mw_11, by decide +kernel⟩
abbrev b_CP_probe : ByteArray := prog_5_method_6_code
def y_CP_probe : MethodName := ⟨"PageMachine$Coprocessor", "probe", "()I"⟩
set_option maxRecDepth 20000 in
theorem mc_CP_probe : Cond.code y_CP_probe b_CP_probe 2 (Option.some Jvm.ClassFile.FieldType.int) ∈ gt_bl := gt_in (List.mem_of_getElem? (i := 824) rfl) rfl
theorem kv_CP_probe : KV y_CP_probe b_CP_probe 2 (Option.some Jvm.ClassFile.FieldType.int) 0 := ⟨mc_CP_probe, mw_756, mp_24, mw_11, by decide +kernel⟩
abbrev b_CP_leaveFault : ByteArray := prog_5_method_7_code
def y_CP_leaveFault : MethodName := ⟨"PageMachine$Coprocessor", "leaveFault", "()I"⟩
set_option maxRecDepth 20000 in
theorem mc_CP_leaveFault : Cond.code y_CP_leaveFault b_CP_leaveFault 1 (Option.some Jvm.ClassFile.FieldType.int) ∈ gt_bl := gt_in (List.mem_of_getElem? (i := 833) rfl) rfl
theorem kv_CP_leaveFault : KV y_CP_leaveFault b_CP_leaveFault 1 (Option.some Jvm.ClassFile.FieldType.int) 0 := ⟨mc_CP_leaveFault, mw_765, mp_25, mw_11, by decide +kernel⟩
abbrev b_CO_init : ByteArray := prog_6_method_1_code
def y_CO_init : MethodName := ⟨"PageMachine$Core", "<init>", "()V"⟩
set_option maxRecDepth 20000 in
theorem mc_CO_init : Cond.code y_CO_init b_CO_init 1 (Option.none : Option Jvm.ClassFile.FieldType) ∈ gt_bl := gt_in (List.mem_of_getElem? (i := 169) rfl) rfl
abbrev b_CO_register : ByteArray := prog_6_method_2_code
def y_CO_register : MethodName := ⟨"PageMachine$Core", "register", "(I)I"⟩
set_option maxRecDepth 20000 in
theorem mc_CO_register : Cond.code y_CO_register b_CO_register 2 (Option.some Jvm.ClassFile.FieldType.int) ∈ gt_bl := gt_in (List.mem_of_getElem? (i := 490) rfl) rfl
theorem kv_CO_register : KV y_CO_register b_CO_register 2 (Option.some Jvm.ClassFile.FieldType.int) 1 := ⟨mc_CO_register, mw_421, mw_422, mw_6, by decide +kernel⟩
abbrev b_CO_put : ByteArray := prog_6_method_3_code
def y_CO_put : MethodName := ⟨"PageMachine$Core", "put", "(II)I"⟩
set_option maxRecDepth 20000 in
theorem mc_CO_put : Cond.code y_CO_put b_CO_put 3 (Option.some Jvm.ClassFile.FieldType.int) ∈ gt_bl := gt_in (List.mem_of_getElem? (i := 474) rfl) rfl
theorem kv_CO_put : KV y_CO_put b_CO_put 3 (Option.some Jvm.ClassFile.FieldType.int) 2 := ⟨mc_CO_put, mw_405, mw_406, mw_6, by decide +kernel⟩
abbrev b_CO_putProduct : ByteArray := prog_6_method_4_code
def y_CO_putProduct : MethodName := ⟨"PageMachine$Core", "putProduct", "(J)I"⟩
set_option maxRecDepth 20000 in
theorem mc_CO_putProduct : Cond.code y_CO_putProduct b_CO_putProduct 3 (Option.some Jvm.ClassFile.FieldType.int) ∈ gt_bl := gt_in (List.mem_of_getElem? (i := 671) rfl) rfl
theorem kv_CO_putProduct : KV y_CO_putProduct b_CO_putProduct 3 (Option.some Jvm.ClassFile.FieldType.int) 1 := ⟨mc_CO_putProduct, mw_602, mw_603, mw_6, by decide +kernel⟩
abbrev b_CO_restartAt : ByteArray := prog_6_method_5_code
def y_CO_restartAt : MethodName := ⟨"PageMachine$Core", "restartAt", "(I)V"⟩
set_option maxRecDepth 20000 in
theorem mc_CO_restartAt : Cond.code y_CO_restartAt b_CO_restartAt 2 (Option.none : Option Jvm.ClassFile.FieldType) ∈ gt_bl := gt_in (List.mem_of_getElem? (i := 470) rfl) rfl
theorem kv_CO_restartAt : KV y_CO_restartAt b_CO_restartAt 2 (Option.none : Option Jvm.ClassFile.FieldType) 1 := ⟨mc_CO_restartAt, mw_401, mw_402, mw_6, by decide +kernel⟩
abbrev b_CO_begin : ByteArray := prog_6_method_6_code
def y_CO_begin : MethodName := ⟨"PageMachine$Core", "begin", "(I)V"⟩
set_option maxRecDepth 20000 in
theorem mc_CO_begin : Cond.code y_CO_begin b_CO_begin 2 (Option.none : Option Jvm.ClassFile.FieldType) ∈ gt_bl := gt_in (List.mem_of_getElem? (i := 598) rfl) rfl
theorem kv_CO_begin : KV y_CO_begin b_CO_begin 2 (Option.none : Option Jvm.ClassFile.FieldType) 1 := ⟨mc_CO_begin, mw_529, mw_530, mw_6, by decide +kernel⟩
abbrev b_CO_finish : ByteArray := prog_6_method_7_code
def y_CO_finish : MethodName := ⟨"PageMachine$Core", "finish", "()V"⟩
set_option maxRecDepth 20000 in
theorem mc_CO_finish : Cond.code y_CO_finish b_CO_finish 1 (Option.none : Option Jvm.ClassFile.FieldType) ∈ gt_bl := gt_in (List.mem_of_getElem? (i := 899) rfl) rfl
theorem kv_CO_finish : KV y_CO_finish b_CO_finish 1 (Option.none : Option Jvm.ClassFile.FieldType) 0 := ⟨mc_CO_finish, mw_830, mw_831, mw_6, by decide +kernel⟩
abbrev b_CO_goBehindSlotTo : ByteArray := prog_6_method_8_code
def y_CO_goBehindSlotTo : MethodName := ⟨"PageMachine$Core", "goBehindSlotTo", "(I)V"⟩
set_option maxRecDepth 20000 in
theorem mc_CO_goBehindSlotTo : Cond.code y_CO_goBehindSlotTo b_CO_goBehindSlotTo 2 (Option.none : Option Jvm.ClassFile.FieldType) ∈ gt_bl := gt_in (List.mem_of_getElem? (i := 626) rfl) rfl
theorem kv_CO_goBehindSlotTo : KV y_CO_goBehindSlotTo b_CO_goBehindSlotTo 2 (Option.none : Option Jvm.ClassFile.FieldType) 1 := ⟨mc_CO_goBehindSlotTo, mw_557, mw_558, mw_6, by decide +kernel⟩
abbrev b_CO_goAtOnceTo : ByteArray := prog_6_method_9_code
def y_CO_goAtOnceTo : MethodName := ⟨"PageMachine$Core", "goAtOnceTo", "(I)V"⟩
set_option maxRecDepth 20000 in
theorem mc_CO_goAtOnceTo : Cond.code y_CO_goAtOnceTo b_CO_goAtOnceTo 2 (Option.none : Option Jvm.ClassFile.FieldType) ∈ gt_bl := gt_in (List.mem_of_getElem? (i := 731) rfl) rfl
theorem kv_CO_goAtOnceTo : KV y_CO_goAtOnceTo b_CO_goAtOnceTo 2 (Option.none : Option Jvm.ClassFile.FieldType) 1 := ⟨mc_CO_goAtOnceTo, mw_662, mw_663, mw_6, by decide +kernel⟩
abbrev b_CO_op : ByteArray := prog_6_method_10_code
def y_CO_op : MethodName := ⟨"PageMachine$Core", "op", "()I"⟩
set_option maxRecDepth 20000 in
theorem mc_CO_op : Cond.code y_CO_op b_CO_op 1 (Option.some Jvm.ClassFile.FieldType.int) ∈ gt_bl := gt_in (List.mem_of_getElem? (i := 602) rfl) rfl
theorem kv_CO_op : KV y_CO_op b_CO_op 1 (Option.some Jvm.ClassFile.FieldType.int) 0 := ⟨mc_CO_op, mw_533, mw_534, mw_6, by decide +kernel⟩
abbrev b_CO_rs : ByteArray := prog_6_method_11_code
def y_CO_rs : MethodName := ⟨"PageMachine$Core", "rs", "()I"⟩
set_option maxRecDepth 20000 in
theorem mc_CO_rs : Cond.code y_CO_rs b_CO_rs 1 (Option.some Jvm.ClassFile.FieldType.int) ∈ gt_bl := gt_in (List.mem_of_getElem? (i := 784) rfl) rfl
theorem kv_CO_rs : KV y_CO_rs b_CO_rs 1 (Option.some Jvm.ClassFile.FieldType.int) 0 := ⟨mc_CO_rs, mw_715, mw_716, mw_6, by decide +kernel⟩
abbrev b_CO_rt : ByteArray := prog_6_method_12_code
def y_CO_rt : MethodName := ⟨"PageMachine$Core", "rt", "()I"⟩
set_option maxRecDepth 20000 in
theorem mc_CO_rt : Cond.code y_CO_rt b_CO_rt 1 (Option.some Jvm.ClassFile.FieldType.int) ∈ gt_bl := gt_in (List.mem_of_getElem? (i := 714) rfl) rfl
theorem kv_CO_rt : KV y_CO_rt b_CO_rt 1 (Option.some Jvm.ClassFile.FieldType.int) 0 := ⟨mc_CO_rt, mw_645, mw_646, mw_6, by decide +kernel⟩
abbrev b_CO_rd : ByteArray := prog_6_method_13_code
def y_CO_rd : MethodName := ⟨"PageMachine$Core", "rd", "()I"⟩
set_option maxRecDepth 20000 in
theorem mc_CO_rd : Cond.code y_CO_rd b_CO_rd 1 (Option.some Jvm.ClassFile.FieldType.int) ∈ gt_bl := gt_in (List.mem_of_getElem? (i := 630) rfl) rfl
theorem kv_CO_rd : KV y_CO_rd b_CO_rd 1 (Option.some Jvm.ClassFile.FieldType.int) 0 := ⟨mc_CO_rd, mw_561, mw_562, mw_6, by decide +kernel⟩
abbrev b_CO_sh : ByteArray := prog_6_method_14_code
def y_CO_sh : MethodName := ⟨"PageMachine$Core", "sh", "()I"⟩
set_option maxRecDepth 20000 in
theorem mc_CO_sh : Cond.code y_CO_sh b_CO_sh 1 (Option.some Jvm.ClassFile.FieldType.int) ∈ gt_bl := gt_in (List.mem_of_getElem? (i := 649) rfl) rfl
theorem kv_CO_sh : KV y_CO_sh b_CO_sh 1 (Option.some Jvm.ClassFile.FieldType.int) 0 := ⟨mc_CO_sh, mw_580, mw_581, mw_6, by decide +kernel⟩
abbrev b_CO_fn : ByteArray := prog_6_method_15_code
def y_CO_fn : MethodName := ⟨"PageMachine$Core", "fn", "()I"⟩
set_option maxRecDepth 20000 in
theorem mc_CO_fn : Cond.code y_CO_fn b_CO_fn 1 (Option.some Jvm.ClassFile.FieldType.int) ∈ gt_bl := gt_in (List.mem_of_getElem? (i := 614) rfl) rfl
theorem kv_CO_fn : KV y_CO_fn b_CO_fn 1 (Option.some Jvm.ClassFile.FieldType.int) 0 := ⟨mc_CO_fn, mw_545, mw_546, mw_6, by decide +kernel⟩
abbrev b_CO_signedImmediate : ByteArray := prog_6_method_16_code
def y_CO_signedImmediate : MethodName := ⟨"PageMachine$Core", "signedImmediate", "()I"⟩
set_option maxRecDepth 20000 in
theorem mc_CO_signedImmediate : Cond.code y_CO_signedImmediate b_CO_signedImmediate 1 (Option.some Jvm.ClassFile.FieldType.int) ∈ gt_bl := gt_in (List.mem_of_getElem? (i := 727) rfl) rfl
theorem kv_CO_signedImmediate : KV y_CO_signedImmediate b_CO_signedImmediate 1 (Option.some Jvm.ClassFile.FieldType.int) 0 := ⟨mc_CO_signedImmediate, mw_658, mw_659, mw_6, by decide +kernel⟩
abbrev b_CO_plainImmediate : ByteArray := prog_6_method_17_code
def y_CO_plainImmediate : MethodName := ⟨"PageMachine$Core", "plainImmediate", "()I"⟩
set_option maxRecDepth 20000 in
theorem mc_CO_plainImmediate : Cond.code y_CO_plainImmediate b_CO_plainImmediate 1 (Option.some Jvm.ClassFile.FieldType.int) ∈ gt_bl := gt_in (List.mem_of_getElem? (i := 764) rfl) rfl
theorem kv_CO_plainImmediate : KV y_CO_plainImmediate b_CO_plainImmediate 1 (Option.some Jvm.ClassFile.FieldType.int) 0 := ⟨mc_CO_plainImmediate, mw_695, mw_696, mw_6, by decide +kernel⟩
abbrev b_CO_jumpField : ByteArray := prog_6_method_18_code
def y_CO_jumpField : MethodName := ⟨"PageMachine$Core", "jumpField", "()I"⟩
set_option maxRecDepth 20000 in
theorem mc_CO_jumpField : Cond.code y_CO_jumpField b_CO_jumpField 1 (Option.some Jvm.ClassFile.FieldType.int) ∈ gt_bl := gt_in (List.mem_of_getElem? (i := 746) rfl) rfl
theorem kv_CO_jumpField : KV y_CO_jumpField b_CO_jumpField 1 (Option.some Jvm.ClassFile.FieldType.int) 0 := ⟨mc_CO_jumpField, mw_677, mw_678, mw_6, by decide +kernel⟩
abbrev b_CO_s : ByteArray := prog_6_method_19_code
def y_CO_s : MethodName := ⟨"PageMachine$Core", "s", "()I"⟩
set_option maxRecDepth 20000 in
theorem mc_CO_s : Cond.code y_CO_s b_CO_s 1 (Option.some Jvm.ClassFile.FieldType.int) ∈ gt_bl := gt_in (List.mem_of_getElem? (i := 622) rfl) rfl
theorem kv_CO_s : KV y_CO_s b_CO_s 1 (Option.some Jvm.ClassFile.FieldType.int) 0 := ⟨mc_CO_s, mw_553, mw_554, mw_6, by decide +kernel⟩
abbrev b_CO_t : ByteArray := prog_6_method_20_code
def y_CO_t : MethodName := ⟨"PageMachine$Core", "t", "()I"⟩
set_option maxRecDepth 20000 in
theorem mc_CO_t : Cond.code y_CO_t b_CO_t 1 (Option.some Jvm.ClassFile.FieldType.int) ∈ gt_bl := gt_in (List.mem_of_getElem? (i := 644) rfl) rfl
theorem kv_CO_t : KV y_CO_t b_CO_t 1 (Option.some Jvm.ClassFile.FieldType.int) 0 := ⟨mc_CO_t, mw_575, mw_576, mw_6, by decide +kernel⟩
abbrev b_FA_codeOf : ByteArray := prog_7_method_2_code
def y_FA_codeOf : MethodName := ⟨"PageMachine$Fault", "codeOf", "(I)I"⟩
set_option maxRecDepth 20000 in
theorem mc_FA_codeOf : Cond.code y_FA_codeOf b_FA_codeOf 1 (Option.some Jvm.ClassFile.FieldType.int) ∈ gt_bl := gt_in (List.mem_of_getElem? (i := 531) rfl) rfl
theorem ks_FA_codeOf : KS y_FA_codeOf b_FA_codeOf 1 (Option.some Jvm.ClassFile.FieldType.int) 1 := ⟨mc_FA_codeOf, mw_463, mw_18, by decide +kernel⟩
abbrev b_FA_isRefill : ByteArray := prog_7_method_3_code
def y_FA_isRefill : MethodName := ⟨"PageMachine$Fault", "isRefill", "(I)Z"⟩
set_option maxRecDepth 20000 in
theorem mc_FA_isRefill : Cond.code y_FA_isRefill b_FA_isRefill 1 (Option.some Jvm.ClassFile.FieldType.boolean) ∈ gt_bl := gt_in (List.mem_of_getElem? (i := 553) rfl) rfl
theorem ks_FA_isRefill : KS y_FA_isRefill b_FA_isRefill 1 (Option.some Jvm.ClassFile.FieldType.boolean) 1 := ⟨mc_FA_isRefill, mw_485, mw_18, by decide +kernel⟩
abbrev b_FA_coprocessorOf : ByteArray := prog_7_method_4_code
def y_FA_coprocessorOf : MethodName := ⟨"PageMachine$Fault", "coprocessorOf", "(I)I"⟩
set_option maxRecDepth 20000 in
theorem mc_FA_coprocessorOf : Cond.code y_FA_coprocessorOf b_FA_coprocessorOf 1 (Option.some Jvm.ClassFile.FieldType.int) ∈ gt_bl := gt_in (List.mem_of_getElem? (i := 546) rfl) rfl
theorem ks_FA_coprocessorOf : KS y_FA_coprocessorOf b_FA_coprocessorOf 1 (Option.some Jvm.ClassFile.FieldType.int) 1 := ⟨mc_FA_coprocessorOf, mw_478, mw_18, by decide +kernel⟩
abbrev b_FA_noCoprocessor : ByteArray := prog_7_method_5_code
def y_FA_noCoprocessor : MethodName := ⟨"PageMachine$Fault", "noCoprocessor", "(I)I"⟩
set_option maxRecDepth 20000 in
theorem mc_FA_noCoprocessor : Cond.code y_FA_noCoprocessor b_FA_noCoprocessor 1 (Option.some Jvm.ClassFile.FieldType.int) ∈ gt_bl := gt_in (List.mem_of_getElem? (i := 779) rfl) rfl
theorem ks_FA_noCoprocessor : KS y_FA_noCoprocessor b_FA_noCoprocessor 1 (Option.some Jvm.ClassFile.FieldType.int) 1 := ⟨mc_FA_noCoprocessor, mw_711, mw_18, by decide +kernel⟩
abbrev b_FA_trapIf : ByteArray := prog_7_method_6_code
def y_FA_trapIf : MethodName := ⟨"PageMachine$Fault", "trapIf", "(Z)I"⟩
set_option maxRecDepth 20000 in
theorem mc_FA_trapIf : Cond.code y_FA_trapIf b_FA_trapIf 1 (Option.some Jvm.ClassFile.FieldType.int) ∈ gt_bl := gt_in (List.mem_of_getElem? (i := 706) rfl) rfl
theorem ks_FA_trapIf : KS y_FA_trapIf b_FA_trapIf 1 (Option.some Jvm.ClassFile.FieldType.int) 1 := ⟨mc_FA_trapIf, mw_638, mw_18, by decide +kernel⟩
abbrev b_LS_init : ByteArray := prog_8_method_1_code
def y_LS_init : MethodName := ⟨"PageMachine$LoadsAndStores", "<init>", "(LPageMachine$Core;LPageMachine$Memory;LPageMachine$AddressSpace;)V"⟩
set_option maxRecDepth 20000 in
theorem mc_LS_init : Cond.code y_LS_init b_LS_init 4 (Option.none : Option Jvm.ClassFile.FieldType) ∈ gt_bl := gt_in (List.mem_of_getElem? (i := 246) rfl) rfl
abbrev b_LS_load : ByteArray := prog_8_method_2_code
def y_LS_load : MethodName := ⟨"PageMachine$LoadsAndStores", "load", "()I"⟩
set_option maxRecDepth 20000 in
theorem mc_LS_load : Cond.code y_LS_load b_LS_load 5 (Option.some Jvm.ClassFile.FieldType.int) ∈ gt_bl := gt_in (List.mem_of_getElem? (i := 860) rfl) rfl
theorem kv_LS_load : KV y_LS_load b_LS_load 5 (Option.some Jvm.ClassFile.FieldType.int) 0 := ⟨mc_LS_load, mw_791, mw_792, mw_10, by decide +kernel⟩
abbrev b_LS_store : ByteArray := prog_8_method_3_code
def y_LS_store : MethodName := ⟨"PageMachine$LoadsAndStores", "store", "()I"⟩
set_option maxRecDepth 20000 in
theorem mc_LS_store : Cond.code y_LS_store b_LS_store 5 (Option.some Jvm.ClassFile.FieldType.int) ∈ gt_bl := gt_in (List.mem_of_getElem? (i := 883) rfl) rfl
theorem kv_LS_store : KV y_LS_store b_LS_store 5 (Option.some Jvm.ClassFile.FieldType.int) 0 := ⟨mc_LS_store, mw_814, mw_815, mw_10, by decide +kernel⟩
abbrev b_LS_endLink : ByteArray := prog_8_method_4_code
def y_LS_endLink : MethodName := ⟨"PageMachine$LoadsAndStores", "endLink", "()I"⟩
set_option maxRecDepth 20000 in
theorem mc_LS_endLink : Cond.code y_LS_endLink b_LS_endLink 2 (Option.some Jvm.ClassFile.FieldType.int) ∈ gt_bl := gt_in (List.mem_of_getElem? (i := 895) rfl) rfl
theorem kv_LS_endLink : KV y_LS_endLink b_LS_endLink 2 (Option.some Jvm.ClassFile.FieldType.int) 0 := ⟨mc_LS_endLink, mw_827, mp_28, mw_10, by decide +kernel⟩
abbrev b_LS_address : ByteArray := prog_8_method_5_code
def y_LS_address : MethodName := ⟨"PageMachine$LoadsAndStores", "address", "()I"⟩
set_option maxRecDepth 20000 in
theorem mc_LS_address : Cond.code y_LS_address b_LS_address 1 (Option.some Jvm.ClassFile.FieldType.int) ∈ gt_bl := gt_in (List.mem_of_getElem? (i := 865) rfl) rfl
theorem kv_LS_address : KV y_LS_address b_LS_address 1 (Option.some Jvm.ClassFile.FieldType.int) 0 := ⟨mc_LS_address, mw_797, mp_27, mw_10, by decide +kernel⟩
abbrev b_LS_alignmentOf : ByteArray := prog_8_method_6_code
def y_LS_alignmentOf : MethodName := ⟨"PageMachine$LoadsAndStores", "alignmentOf", "(I)I"⟩
set_option maxRecDepth 20000 in
theorem mc_LS_alignmentOf : Cond.code y_LS_alignmentOf b_LS_alignmentOf 1 (Option.some Jvm.ClassFile.FieldType.int) ∈ gt_bl := gt_in (List.mem_of_getElem? (i := 870) rfl) rfl
theorem ks_LS_alignmentOf : KS y_LS_alignmentOf b_LS_alignmentOf 1 (Option.some Jvm.ClassFile.FieldType.int) 1 := ⟨mc_LS_alignmentOf, mw_802, mw_10, by decide +kernel⟩
abbrev b_LS_loaded : ByteArray := prog_8_method_7_code
def y_LS_loaded : MethodName := ⟨"PageMachine$LoadsAndStores", "loaded", "(IIII)I"⟩
set_option maxRecDepth 20000 in
theorem mc_LS_loaded : Cond.code y_LS_loaded b_LS_loaded 6 (Option.some Jvm.ClassFile.FieldType.int) ∈ gt_bl := gt_in (List.mem_of_getElem? (i := 878) rfl) rfl
theorem ks_LS_loaded : KS y_LS_loaded b_LS_loaded 6 (Option.some Jvm.ClassFile.FieldType.int) 4 := ⟨mc_LS_loaded, mw_810, mw_10, by decide +kernel⟩
abbrev b_LS_stored : ByteArray := prog_8_method_8_code
def y_LS_stored : MethodName := ⟨"PageMachine$LoadsAndStores", "stored", "(IIII)I"⟩
set_option maxRecDepth 20000 in
theorem mc_LS_stored : Cond.code y_LS_stored b_LS_stored 5 (Option.some Jvm.ClassFile.FieldType.int) ∈ gt_bl := gt_in (List.mem_of_getElem? (i := 886) rfl) rfl
theorem ks_LS_stored : KS y_LS_stored b_LS_stored 5 (Option.some Jvm.ClassFile.FieldType.int) 4 := ⟨mc_LS_stored, mw_818, mw_10, by decide +kernel⟩
abbrev b_LS_merged : ByteArray := prog_8_method_9_code
def y_LS_merged : MethodName := ⟨"PageMachine$LoadsAndStores", "merged", "(III)I"⟩
set_option maxRecDepth 20000 in
theorem mc_LS_merged : Cond.code y_LS_merged b_LS_merged 3 (Option.some Jvm.ClassFile.FieldType.int) ∈ gt_bl := gt_in (List.mem_of_getElem? (i := 889) rfl) rfl
theorem ks_LS_merged : KS y_LS_merged b_LS_merged 3 (Option.some Jvm.ClassFile.FieldType.int) 3 := ⟨mc_LS_merged, mw_821, mw_10, by decide +kernel⟩
abbrev b_ME_init : ByteArray := prog_9_method_1_code
def y_ME_init : MethodName := ⟨"PageMachine$Memory", "<init>", "()V"⟩
set_option maxRecDepth 20000 in
theorem mc_ME_init : Cond.code y_ME_init b_ME_init 1 (Option.none : Option Jvm.ClassFile.FieldType) ∈ gt_bl := gt_in (List.mem_of_getElem? (i := 99) rfl) rfl
abbrev b_ME_has : ByteArray := prog_9_method_2_code
def y_ME_has : MethodName := ⟨"PageMachine$Memory", "has", "(J)Z"⟩
set_option maxRecDepth 20000 in
theorem mc_ME_has : Cond.code y_ME_has b_ME_has 3 (Option.some Jvm.ClassFile.FieldType.boolean) ∈ gt_bl := gt_in (List.mem_of_getElem? (i := 421) rfl) rfl
theorem kv_ME_has : KV y_ME_has b_ME_has 3 (Option.some Jvm.ClassFile.FieldType.boolean) 1 := ⟨mc_ME_has, mw_352, mw_353, mw_2, by decide +kernel⟩
abbrev b_ME_wordAt : ByteArray := prog_9_method_3_code
def y_ME_wordAt : MethodName := ⟨"PageMachine$Memory", "wordAt", "(I)I"⟩
set_option maxRecDepth 20000 in
theorem mc_ME_wordAt : Cond.code y_ME_wordAt b_ME_wordAt 2 (Option.some Jvm.ClassFile.FieldType.int) ∈ gt_bl := gt_in (List.mem_of_getElem? (i := 442) rfl) rfl
theorem kv_ME_wordAt : KV y_ME_wordAt b_ME_wordAt 2 (Option.some Jvm.ClassFile.FieldType.int) 1 := ⟨mc_ME_wordAt, mw_373, mw_374, mw_2, by decide +kernel⟩
abbrev b_ME_putWord : ByteArray := prog_9_method_4_code
def y_ME_putWord : MethodName := ⟨"PageMachine$Memory", "putWord", "(II)V"⟩
set_option maxRecDepth 20000 in
theorem mc_ME_putWord : Cond.code y_ME_putWord b_ME_putWord 3 (Option.none : Option Jvm.ClassFile.FieldType) ∈ gt_bl := gt_in (List.mem_of_getElem? (i := 333) rfl) rfl
theorem kv_ME_putWord : KV y_ME_putWord b_ME_putWord 3 (Option.none : Option Jvm.ClassFile.FieldType) 2 := ⟨mc_ME_putWord, mw_264, mw_265, mw_2, by decide +kernel⟩
abbrev b_ME_rowOf : ByteArray := prog_9_method_5_code
def y_ME_rowOf : MethodName := ⟨"PageMachine$Memory", "rowOf", "(I)I"⟩
set_option maxRecDepth 20000 in
theorem mc_ME_rowOf : Cond.code y_ME_rowOf b_ME_rowOf 1 (Option.some Jvm.ClassFile.FieldType.int) ∈ gt_bl := gt_in (List.mem_of_getElem? (i := 336) rfl) rfl
theorem ks_ME_rowOf : KS y_ME_rowOf b_ME_rowOf 1 (Option.some Jvm.ClassFile.FieldType.int) 1 := ⟨mc_ME_rowOf, mw_268, mw_2, by decide +kernel⟩
abbrev b_PR_init : ByteArray := prog_10_method_1_code
def y_PR_init : MethodName := ⟨"PageMachine$Processor", "<init>", "(LPageMachine$Core;LPageMachine$Memory;LPageMachine$SystemRegisters;LPageMachine$Tlb;LPageMachine$AddressSpace;)V"⟩
set_option maxRecDepth 20000 in
theorem mc_PR_init : Cond.code y_PR_init b_PR_init 6 (Option.none : Option Jvm.ClassFile.FieldType) ∈ gt_bl := gt_in (List.mem_of_getElem? (i := 220) rfl) rfl
abbrev b_PR_steps : ByteArray := prog_10_method_2_code
def y_PR_steps : MethodName := ⟨"PageMachine$Processor", "steps", "()I"⟩
set_option maxRecDepth 20000 in
theorem mc_PR_steps : Cond.code y_PR_steps b_PR_steps 1 (Option.some Jvm.ClassFile.FieldType.int) ∈ gt_bl := gt_in (List.mem_of_getElem? (i := 939) rfl) rfl
theorem kv_PR_steps : KV y_PR_steps b_PR_steps 1 (Option.some Jvm.ClassFile.FieldType.int) 0 := ⟨mc_PR_steps, mw_870, mw_871, mw_7, by decide +kernel⟩
abbrev b_PR_faultsWith : ByteArray := prog_10_method_3_code
def y_PR_faultsWith : MethodName := ⟨"PageMachine$Processor", "faultsWith", "(I)I"⟩
set_option maxRecDepth 20000 in
theorem mc_PR_faultsWith : Cond.code y_PR_faultsWith b_PR_faultsWith 2 (Option.some Jvm.ClassFile.FieldType.int) ∈ gt_bl := gt_in (List.mem_of_getElem? (i := 943) rfl) rfl
theorem kv_PR_faultsWith : KV y_PR_faultsWith b_PR_faultsWith 2 (Option.some Jvm.ClassFile.FieldType.int) 1 := ⟨mc_PR_faultsWith, mw_874, mw_875, mw_7, by decide +kernel⟩
abbrev b_PR_stepWasFault : ByteArray := prog_10_method_4_code
def y_PR_stepWasFault : MethodName := ⟨"PageMachine$Processor", "stepWasFault", "()Z"⟩
set_option maxRecDepth 20000 in
theorem mc_PR_stepWasFault : Cond.code y_PR_stepWasFault b_PR_stepWasFault 2 (Option.some Jvm.ClassFile.FieldType.boolean) ∈ gt_bl := gt_in (List.mem_of_getElem? (i := 514) rfl) rfl
theorem kv_PR_stepWasFault : KV y_PR_stepWasFault b_PR_stepWasFault 2 (Option.some Jvm.ClassFile.FieldType.boolean) 0 := ⟨mc_PR_stepWasFault, mw_445, mw_446, mw_7, by decide +kernel⟩
abbrev b_PR_enter : ByteArray := prog_10_method_5_code
def y_PR_enter : MethodName := ⟨"PageMachine$Processor", "enter", "(I)V"⟩
set_option maxRecDepth 20000 in
theorem mc_PR_enter : Cond.code y_PR_enter b_PR_enter 3 (Option.none : Option Jvm.ClassFile.FieldType) ∈ gt_bl := gt_in (List.mem_of_getElem? (i := 528) rfl) rfl
theorem kv_PR_enter : KV y_PR_enter b_PR_enter 3 (Option.none : Option Jvm.ClassFile.FieldType) 1 := ⟨mc_PR_enter, mw_460, mp_2, mw_7, by decide +kernel⟩
abbrev b_PR_fetch : ByteArray := prog_10_method_6_code
def y_PR_fetch : MethodName := ⟨"PageMachine$Processor", "fetch", "()I"⟩
set_option maxRecDepth 20000 in
theorem mc_PR_fetch : Cond.code y_PR_fetch b_PR_fetch 3 (Option.some Jvm.ClassFile.FieldType.int) ∈ gt_bl := gt_in (List.mem_of_getElem? (i := 559) rfl) rfl
theorem kv_PR_fetch : KV y_PR_fetch b_PR_fetch 3 (Option.some Jvm.ClassFile.FieldType.int) 0 := ⟨mc_PR_fetch, mw_491, mp_4, mw_7, by decide +kernel⟩
abbrev b_PR_perform : ByteArray := prog_10_method_7_code
def y_PR_perform : MethodName := ⟨"PageMachine$Processor", "perform", "(I)I"⟩
set_option maxRecDepth 20000 in
theorem mc_PR_perform : Cond.code y_PR_perform b_PR_perform 2 (Option.some Jvm.ClassFile.FieldType.int) ∈ gt_bl := gt_in (List.mem_of_getElem? (i := 606) rfl) rfl
theorem kv_PR_perform : KV y_PR_perform b_PR_perform 2 (Option.some Jvm.ClassFile.FieldType.int) 1 := ⟨mc_PR_perform, mw_538, mp_6, mw_7, by decide +kernel⟩
abbrev b_PR_performOp0 : ByteArray := prog_10_method_8_code
def y_PR_performOp0 : MethodName := ⟨"PageMachine$Processor", "performOp0", "()I"⟩
set_option maxRecDepth 20000 in
theorem mc_PR_performOp0 : Cond.code y_PR_performOp0 b_PR_performOp0 1 (Option.some Jvm.ClassFile.FieldType.int) ∈ gt_bl := gt_in (List.mem_of_getElem? (i := 610) rfl) rfl
theorem kv_PR_performOp0 : KV y_PR_performOp0 b_PR_performOp0 1 (Option.some Jvm.ClassFile.FieldType.int) 0 := ⟨mc_PR_performOp0, mw_542, mp_7, mw_7, by decide +kernel⟩
abbrev b_PR_performOp1 : ByteArray := prog_10_method_9_code
def y_PR_performOp1 : MethodName := ⟨"PageMachine$Processor", "performOp1", "()I"⟩
set_option maxRecDepth 20000 in
theorem mc_PR_performOp1 : Cond.code y_PR_performOp1 b_PR_performOp1 1 (Option.some Jvm.ClassFile.FieldType.int) ∈ gt_bl := gt_in (List.mem_of_getElem? (i := 710) rfl) rfl
theorem kv_PR_performOp1 : KV y_PR_performOp1 b_PR_performOp1 1 (Option.some Jvm.ClassFile.FieldType.int) 0 := ⟨mc_PR_performOp1, mw_642, mp_19, mw_7, by decide +kernel⟩
abbrev b_SR_init : ByteArray := prog_11_method_1_code
def y_SR_init : MethodName := ⟨"PageMachine$SystemRegisters", "<init>", "()V"⟩
set_option maxRecDepth 20000 in
theorem mc_SR_init : Cond.code y_SR_init b_SR_init 1 (Option.none : Option Jvm.ClassFile.FieldType) ∈ gt_bl := gt_in (List.mem_of_getElem? (i := 111) rfl) rfl
abbrev b_SR_read : ByteArray := prog_11_method_2_code
def y_SR_read : MethodName := ⟨"PageMachine$SystemRegisters", "read", "(I)I"⟩
set_option maxRecDepth 20000 in
theorem mc_SR_read : Cond.code y_SR_read b_SR_read 3 (Option.some Jvm.ClassFile.FieldType.int) ∈ gt_bl := gt_in (List.mem_of_getElem? (i := 485) rfl) rfl
theorem kv_SR_read : KV y_SR_read b_SR_read 3 (Option.some Jvm.ClassFile.FieldType.int) 1 := ⟨mc_SR_read, mw_416, mw_417, mw_3, by decide +kernel⟩
abbrev b_SR_write : ByteArray := prog_11_method_3_code
def y_SR_write : MethodName := ⟨"PageMachine$SystemRegisters", "write", "(II)V"⟩
set_option maxRecDepth 20000 in
theorem mc_SR_write : Cond.code y_SR_write b_SR_write 5 (Option.none : Option Jvm.ClassFile.FieldType) ∈ gt_bl := gt_in (List.mem_of_getElem? (i := 464) rfl) rfl
theorem kv_SR_write : KV y_SR_write b_SR_write 5 (Option.none : Option Jvm.ClassFile.FieldType) 2 := ⟨mc_SR_write, mw_395, mw_396, mw_3, by decide +kernel⟩
abbrev b_SR_switchLine : ByteArray := prog_11_method_4_code
def y_SR_switchLine : MethodName := ⟨"PageMachine$SystemRegisters", "switchLine", "(IZ)Z"⟩
set_option maxRecDepth 20000 in
theorem mc_SR_switchLine : Cond.code y_SR_switchLine b_SR_switchLine 5 (Option.some Jvm.ClassFile.FieldType.boolean) ∈ gt_bl := gt_in (List.mem_of_getElem? (i := 502) rfl) rfl
theorem kv_SR_switchLine : KV y_SR_switchLine b_SR_switchLine 5 (Option.some Jvm.ClassFile.FieldType.boolean) 2 := ⟨mc_SR_switchLine, mw_433, mw_434, mw_3, by decide +kernel⟩
abbrev b_SR_tick : ByteArray := prog_11_method_5_code
def y_SR_tick : MethodName := ⟨"PageMachine$SystemRegisters", "tick", "()V"⟩
set_option maxRecDepth 20000 in
theorem mc_SR_tick : Cond.code y_SR_tick b_SR_tick 1 (Option.none : Option Jvm.ClassFile.FieldType) ∈ gt_bl := gt_in (List.mem_of_getElem? (i := 518) rfl) rfl
theorem kv_SR_tick : KV y_SR_tick b_SR_tick 1 (Option.none : Option Jvm.ClassFile.FieldType) 0 := ⟨mc_SR_tick, mw_449, mw_450, mw_3, by decide +kernel⟩
abbrev b_SR_interruptIsDue : ByteArray := prog_11_method_6_code
def y_SR_interruptIsDue : MethodName := ⟨"PageMachine$SystemRegisters", "interruptIsDue", "()Z"⟩
set_option maxRecDepth 20000 in
theorem mc_SR_interruptIsDue : Cond.code y_SR_interruptIsDue b_SR_interruptIsDue 2 (Option.some Jvm.ClassFile.FieldType.boolean) ∈ gt_bl := gt_in (List.mem_of_getElem? (i := 522) rfl) rfl
theorem kv_SR_interruptIsDue : KV y_SR_interruptIsDue b_SR_interruptIsDue 2 (Option.some Jvm.ClassFile.FieldType.boolean) 0 := ⟨mc_SR_interruptIsDue, mw_453, mw_454, mw_3, by decide +kernel⟩
abbrev b_SR_moveRandom : ByteArray := prog_11_method_7_code
def y_SR_moveRandom : MethodName := ⟨"PageMachine$SystemRegisters", "moveRandom", "()V"⟩
set_option maxRecDepth 20000 in
theorem mc_SR_moveRandom : Cond.code y_SR_moveRandom b_SR_moveRandom 2 (Option.none : Option Jvm.ClassFile.FieldType) ∈ gt_bl := gt_in (List.mem_of_getElem? (i := 903) rfl) rfl
theorem kv_SR_moveRandom : KV y_SR_moveRandom b_SR_moveRandom 2 (Option.none : Option Jvm.ClassFile.FieldType) 0 := ⟨mc_SR_moveRandom, mw_834, mw_835, mw_3, by decide +kernel⟩
abbrev b_SR_inUserMode : ByteArray := prog_11_method_8_code
def y_SR_inUserMode : MethodName := ⟨"PageMachine$SystemRegisters", "inUserMode", "()Z"⟩
set_option maxRecDepth 20000 in
theorem mc_SR_inUserMode : Cond.code y_SR_inUserMode b_SR_inUserMode 1 (Option.some Jvm.ClassFile.FieldType.boolean) ∈ gt_bl := gt_in (List.mem_of_getElem? (i := 574) rfl) rfl
theorem kv_SR_inUserMode : KV y_SR_inUserMode b_SR_inUserMode 1 (Option.some Jvm.ClassFile.FieldType.boolean) 0 := ⟨mc_SR_inUserMode, mw_505, mw_506, mw_3, by decide +kernel⟩
abbrev b_SR_mayUseSystem : ByteArray := prog_11_method_9_code
def y_SR_mayUseSystem : MethodName := ⟨"PageMachine$SystemRegisters", "mayUseSystem", "()Z"⟩
set_option maxRecDepth 20000 in
theorem mc_SR_mayUseSystem : Cond.code y_SR_mayUseSystem b_SR_mayUseSystem 1 (Option.some Jvm.ClassFile.FieldType.boolean) ∈ gt_bl := gt_in (List.mem_of_getElem? (i := 774) rfl) rfl
theorem kv_SR_mayUseSystem : KV y_SR_mayUseSystem b_SR_mayUseSystem 1 (Option.some Jvm.ClassFile.FieldType.boolean) 0 := ⟨mc_SR_mayUseSystem, mw_705, mw_706, mw_3, by decide +kernel⟩
abbrev b_SR_noteProbe : ByteArray := prog_11_method_10_code
def y_SR_noteProbe : MethodName := ⟨"PageMachine$SystemRegisters", "noteProbe", "(I)V"⟩
set_option maxRecDepth 20000 in
theorem mc_SR_noteProbe : Cond.code y_SR_noteProbe b_SR_noteProbe 2 (Option.none : Option Jvm.ClassFile.FieldType) ∈ gt_bl := gt_in (List.mem_of_getElem? (i := 829) rfl) rfl
theorem kv_SR_noteProbe : KV y_SR_noteProbe b_SR_noteProbe 2 (Option.none : Option Jvm.ClassFile.FieldType) 1 := ⟨mc_SR_noteProbe, mw_760, mw_761, mw_3, by decide +kernel⟩
abbrev b_SR_loadEntry : ByteArray := prog_11_method_11_code
def y_SR_loadEntry : MethodName := ⟨"PageMachine$SystemRegisters", "loadEntry", "(III)V"⟩
set_option maxRecDepth 20000 in
theorem mc_SR_loadEntry : Cond.code y_SR_loadEntry b_SR_loadEntry 4 (Option.none : Option Jvm.ClassFile.FieldType) ∈ gt_bl := gt_in (List.mem_of_getElem? (i := 811) rfl) rfl
theorem kv_SR_loadEntry : KV y_SR_loadEntry b_SR_loadEntry 4 (Option.none : Option Jvm.ClassFile.FieldType) 3 := ⟨mc_SR_loadEntry, mw_742, mw_743, mw_3, by decide +kernel⟩
abbrev b_SR_leaveFault : ByteArray := prog_11_method_12_code
def y_SR_leaveFault : MethodName := ⟨"PageMachine$SystemRegisters", "leaveFault", "()I"⟩
set_option maxRecDepth 20000 in
theorem mc_SR_leaveFault : Cond.code y_SR_leaveFault b_SR_leaveFault 1 (Option.some Jvm.ClassFile.FieldType.int) ∈ gt_bl := gt_in (List.mem_of_getElem? (i := 837) rfl) rfl
theorem kv_SR_leaveFault : KV y_SR_leaveFault b_SR_leaveFault 1 (Option.some Jvm.ClassFile.FieldType.int) 0 := ⟨mc_SR_leaveFault, mw_768, mw_769, mw_3, by decide +kernel⟩
abbrev b_SR_enterFault : ByteArray := prog_11_method_13_code
def y_SR_enterFault : MethodName := ⟨"PageMachine$SystemRegisters", "enterFault", "(IIZI)I"⟩
set_option maxRecDepth 20000 in
theorem mc_SR_enterFault : Cond.code y_SR_enterFault b_SR_enterFault 7 (Option.some Jvm.ClassFile.FieldType.int) ∈ gt_bl := gt_in (List.mem_of_getElem? (i := 539) rfl) rfl
theorem kv_SR_enterFault : KV y_SR_enterFault b_SR_enterFault 7 (Option.some Jvm.ClassFile.FieldType.int) 4 := ⟨mc_SR_enterFault, mw_470, mw_471, mw_3, by decide +kernel⟩
abbrev b_SR_noteAddress : ByteArray := prog_11_method_14_code
def y_SR_noteAddress : MethodName := ⟨"PageMachine$SystemRegisters", "noteAddress", "(II)V"⟩
set_option maxRecDepth 20000 in
theorem mc_SR_noteAddress : Cond.code y_SR_noteAddress b_SR_noteAddress 4 (Option.none : Option Jvm.ClassFile.FieldType) ∈ gt_bl := gt_in (List.mem_of_getElem? (i := 550) rfl) rfl
theorem kv_SR_noteAddress : KV y_SR_noteAddress b_SR_noteAddress 4 (Option.none : Option Jvm.ClassFile.FieldType) 2 := ⟨mc_SR_noteAddress, mw_482, mp_3, mw_3, by decide +kernel⟩
abbrev b_TL_init : ByteArray := prog_12_method_1_code
def y_TL_init : MethodName := ⟨"PageMachine$Tlb", "<init>", "()V"⟩
set_option maxRecDepth 20000 in
theorem mc_TL_init : Cond.code y_TL_init b_TL_init 1 (Option.none : Option Jvm.ClassFile.FieldType) ∈ gt_bl := gt_in (List.mem_of_getElem? (i := 128) rfl) rfl
abbrev b_TL_pageOf : ByteArray := prog_12_method_2_code
def y_TL_pageOf : MethodName := ⟨"PageMachine$Tlb", "pageOf", "(I)I"⟩
set_option maxRecDepth 20000 in
theorem mc_TL_pageOf : Cond.code y_TL_pageOf b_TL_pageOf 2 (Option.some Jvm.ClassFile.FieldType.int) ∈ gt_bl := gt_in (List.mem_of_getElem? (i := 802) rfl) rfl
theorem kv_TL_pageOf : KV y_TL_pageOf b_TL_pageOf 2 (Option.some Jvm.ClassFile.FieldType.int) 1 := ⟨mc_TL_pageOf, mw_733, mw_734, mw_4, by decide +kernel⟩
abbrev b_TL_asidOf : ByteArray := prog_12_method_3_code
def y_TL_asidOf : MethodName := ⟨"PageMachine$Tlb", "asidOf", "(I)I"⟩
set_option maxRecDepth 20000 in
theorem mc_TL_asidOf : Cond.code y_TL_asidOf b_TL_asidOf 2 (Option.some Jvm.ClassFile.FieldType.int) ∈ gt_bl := gt_in (List.mem_of_getElem? (i := 806) rfl) rfl
theorem kv_TL_asidOf : KV y_TL_asidOf b_TL_asidOf 2 (Option.some Jvm.ClassFile.FieldType.int) 1 := ⟨mc_TL_asidOf, mw_737, mw_738, mw_4, by decide +kernel⟩
abbrev b_TL_globalOf : ByteArray := prog_12_method_4_code
def y_TL_globalOf : MethodName := ⟨"PageMachine$Tlb", "globalOf", "(I)I"⟩
set_option maxRecDepth 20000 in
theorem mc_TL_globalOf : Cond.code y_TL_globalOf b_TL_globalOf 2 (Option.some Jvm.ClassFile.FieldType.int) ∈ gt_bl := gt_in (List.mem_of_getElem? (i := 798) rfl) rfl
theorem kv_TL_globalOf : KV y_TL_globalOf b_TL_globalOf 2 (Option.some Jvm.ClassFile.FieldType.int) 1 := ⟨mc_TL_globalOf, mw_729, mw_730, mw_4, by decide +kernel⟩
abbrev b_TL_halfOf : ByteArray := prog_12_method_5_code
def y_TL_halfOf : MethodName := ⟨"PageMachine$Tlb", "halfOf", "(II)I"⟩
set_option maxRecDepth 20000 in
theorem mc_TL_halfOf : Cond.code y_TL_halfOf b_TL_halfOf 3 (Option.some Jvm.ClassFile.FieldType.int) ∈ gt_bl := gt_in (List.mem_of_getElem? (i := 588) rfl) rfl
theorem kv_TL_halfOf : KV y_TL_halfOf b_TL_halfOf 3 (Option.some Jvm.ClassFile.FieldType.int) 2 := ⟨mc_TL_halfOf, mw_519, mw_520, mw_4, by decide +kernel⟩
abbrev b_TL_fill : ByteArray := prog_12_method_6_code
def y_TL_fill : MethodName := ⟨"PageMachine$Tlb", "fill", "(IIII)V"⟩
set_option maxRecDepth 20000 in
theorem mc_TL_fill : Cond.code y_TL_fill b_TL_fill 6 (Option.none : Option Jvm.ClassFile.FieldType) ∈ gt_bl := gt_in (List.mem_of_getElem? (i := 819) rfl) rfl
theorem kv_TL_fill : KV y_TL_fill b_TL_fill 6 (Option.none : Option Jvm.ClassFile.FieldType) 4 := ⟨mc_TL_fill, mw_750, mw_751, mw_4, by decide +kernel⟩
abbrev b_TL_match : ByteArray := prog_12_method_7_code
def y_TL_match : MethodName := ⟨"PageMachine$Tlb", "match", "(II)I"⟩
set_option maxRecDepth 20000 in
theorem mc_TL_match : Cond.code y_TL_match b_TL_match 6 (Option.some Jvm.ClassFile.FieldType.int) ∈ gt_bl := gt_in (List.mem_of_getElem? (i := 584) rfl) rfl
theorem kv_TL_match : KV y_TL_match b_TL_match 6 (Option.some Jvm.ClassFile.FieldType.int) 2 := ⟨mc_TL_match, mw_515, mw_516, mw_4, by decide +kernel⟩
abbrev b_IN_numberOfLeadingZeros : ByteArray := prog_18_method_47_code
def y_IN_numberOfLeadingZeros : MethodName := ⟨"java/lang/Integer", "numberOfLeadingZeros", "(I)I"⟩
set_option maxRecDepth 20000 in
theorem mc_IN_numberOfLeadingZeros : Cond.code y_IN_numberOfLeadingZeros b_IN_numberOfLeadingZeros 2 (Option.some Jvm.ClassFile.FieldType.int) ∈ gt_bl := gt_in (List.mem_of_getElem? (i := 855) rfl) rfl
theorem ks_IN_numberOfLeadingZeros : KS y_IN_numberOfLeadingZeros b_IN_numberOfLeadingZeros 2 (Option.some Jvm.ClassFile.FieldType.int) 1 := ⟨mc_IN_numberOfLeadingZeros, mw_787, mw_19, by decide +kernel⟩
end
section
abbrev XS : Type := (Int32) × (Int32) × (Int32) × (Int32) × (Int32) × (Int32) × (Int32) × (Int32) × (Int32) × (Int32) × (Bool) × (Bool) × (Bool) × (Nat → Int32) × (Nat → Int32) × (Nat → Int32) × (Nat → Int32) × (Nat → Int32) × (Nat → Int32) × (Nat → Int32) × (Nat → Int32) × (Nat → Int32)
abbrev x_hi (σ : XS) : Int32 := σ.1
abbrev x_lo (σ : XS) : Int32 := σ.2.1
abbrev x_pc (σ : XS) : Int32 := σ.2.2.1
abbrev x_link (σ : XS) : Int32 := σ.2.2.2.1
abbrev x_behind (σ : XS) : Int32 := σ.2.2.2.2.1
abbrev x_instr (σ : XS) : Int32 := σ.2.2.2.2.2.1
abbrev x_nextPc (σ : XS) : Int32 := σ.2.2.2.2.2.2.1
abbrev x_lines (σ : XS) : Int32 := σ.2.2.2.2.2.2.2.1
abbrev x_asked (σ : XS) : Int32 := σ.2.2.2.2.2.2.2.2.1
abbrev x_steps (σ : XS) : Int32 := σ.2.2.2.2.2.2.2.2.2.1
abbrev x_inds (σ : XS) : Bool := σ.2.2.2.2.2.2.2.2.2.2.1
abbrev x_nextds (σ : XS) : Bool := σ.2.2.2.2.2.2.2.2.2.2.2.1
abbrev x_timer (σ : XS) : Bool := σ.2.2.2.2.2.2.2.2.2.2.2.2.1
abbrev x_words (σ : XS) : Nat → Int32 := σ.2.2.2.2.2.2.2.2.2.2.2.2.2.1
abbrev x_values (σ : XS) : Nat → Int32 := σ.2.2.2.2.2.2.2.2.2.2.2.2.2.2.1
abbrev x_pages (σ : XS) : Nat → Int32 := σ.2.2.2.2.2.2.2.2.2.2.2.2.2.2.2.1
abbrev x_asids (σ : XS) : Nat → Int32 := σ.2.2.2.2.2.2.2.2.2.2.2.2.2.2.2.2.1
abbrev x_globals (σ : XS) : Nat → Int32 := σ.2.2.2.2.2.2.2.2.2.2.2.2.2.2.2.2.2.1
abbrev x_even (σ : XS) : Nat → Int32 := σ.2.2.2.2.2.2.2.2.2.2.2.2.2.2.2.2.2.2.1
abbrev x_odd (σ : XS) : Nat → Int32 := σ.2.2.2.2.2.2.2.2.2.2.2.2.2.2.2.2.2.2.2.1
abbrev x_regs (σ : XS) : Nat → Int32 := σ.2.2.2.2.2.2.2.2.2.2.2.2.2.2.2.2.2.2.2.2.1
abbrev x_fbc (σ : XS) : Nat → Int32 := σ.2.2.2.2.2.2.2.2.2.2.2.2.2.2.2.2.2.2.2.2.2
def xs_hi (σ : XS) (v : Int32) : XS := (v, σ.2)
def xs_lo (σ : XS) (v : Int32) : XS := (σ.1, v, σ.2.2)
def xs_pc (σ : XS) (v : Int32) : XS := (σ.1, σ.2.1, v, σ.2.2.2)
def xs_link (σ : XS) (v : Int32) : XS := (σ.1, σ.2.1, σ.2.2.1, v, σ.2.2.2.2)
def xs_behind (σ : XS) (v : Int32) : XS := (σ.1, σ.2.1, σ.2.2.1, σ.2.2.2.1, v, σ.2.2.2.2.2)
def xs_instr (σ : XS) (v : Int32) : XS := (σ.1, σ.2.1, σ.2.2.1, σ.2.2.2.1, σ.2.2.2.2.1, v, σ.2.2.2.2.2.2)
def xs_nextPc (σ : XS) (v : Int32) : XS := (σ.1, σ.2.1, σ.2.2.1, σ.2.2.2.1, σ.2.2.2.2.1, σ.2.2.2.2.2.1, v, σ.2.2.2.2.2.2.2)
def xs_lines (σ : XS) (v : Int32) : XS := (σ.1, σ.2.1, σ.2.2.1, σ.2.2.2.1, σ.2.2.2.2.1, σ.2.2.2.2.2.1, σ.2.2.2.2.2.2.1, v, σ.2.2.2.2.2.2.2.2)
def xs_asked (σ : XS) (v : Int32) : XS := (σ.1, σ.2.1, σ.2.2.1, σ.2.2.2.1, σ.2.2.2.2.1, σ.2.2.2.2.2.1, σ.2.2.2.2.2.2.1, σ.2.2.2.2.2.2.2.1, v, σ.2.2.2.2.2.2.2.2.2)
def xs_steps (σ : XS) (v : Int32) : XS := (σ.1, σ.2.1, σ.2.2.1, σ.2.2.2.1, σ.2.2.2.2.1, σ.2.2.2.2.2.1, σ.2.2.2.2.2.2.1, σ.2.2.2.2.2.2.2.1, σ.2.2.2.2.2.2.2.2.1, v, σ.2.2.2.2.2.2.2.2.2.2)
def xs_inds (σ : XS) (v : Bool) : XS := (σ.1, σ.2.1, σ.2.2.1, σ.2.2.2.1, σ.2.2.2.2.1, σ.2.2.2.2.2.1, σ.2.2.2.2.2.2.1, σ.2.2.2.2.2.2.2.1, σ.2.2.2.2.2.2.2.2.1, σ.2.2.2.2.2.2.2.2.2.1, v, σ.2.2.2.2.2.2.2.2.2.2.2)
def xs_nextds (σ : XS) (v : Bool) : XS := (σ.1, σ.2.1, σ.2.2.1, σ.2.2.2.1, σ.2.2.2.2.1, σ.2.2.2.2.2.1, σ.2.2.2.2.2.2.1, σ.2.2.2.2.2.2.2.1, σ.2.2.2.2.2.2.2.2.1, σ.2.2.2.2.2.2.2.2.2.1, σ.2.2.2.2.2.2.2.2.2.2.1, v, σ.2.2.2.2.2.2.2.2.2.2.2.2)
def xs_timer (σ : XS) (v : Bool) : XS := (σ.1, σ.2.1, σ.2.2.1, σ.2.2.2.1, σ.2.2.2.2.1, σ.2.2.2.2.2.1, σ.2.2.2.2.2.2.1, σ.2.2.2.2.2.2.2.1, σ.2.2.2.2.2.2.2.2.1, σ.2.2.2.2.2.2.2.2.2.1, σ.2.2.2.2.2.2.2.2.2.2.1, σ.2.2.2.2.2.2.2.2.2.2.2.1, v, σ.2.2.2.2.2.2.2.2.2.2.2.2.2)
def xs_words (σ : XS) (v : Nat → Int32) : XS := (σ.1, σ.2.1, σ.2.2.1, σ.2.2.2.1, σ.2.2.2.2.1, σ.2.2.2.2.2.1, σ.2.2.2.2.2.2.1, σ.2.2.2.2.2.2.2.1, σ.2.2.2.2.2.2.2.2.1, σ.2.2.2.2.2.2.2.2.2.1, σ.2.2.2.2.2.2.2.2.2.2.1, σ.2.2.2.2.2.2.2.2.2.2.2.1, σ.2.2.2.2.2.2.2.2.2.2.2.2.1, v, σ.2.2.2.2.2.2.2.2.2.2.2.2.2.2)
def xs_values (σ : XS) (v : Nat → Int32) : XS := (σ.1, σ.2.1, σ.2.2.1, σ.2.2.2.1, σ.2.2.2.2.1, σ.2.2.2.2.2.1, σ.2.2.2.2.2.2.1, σ.2.2.2.2.2.2.2.1, σ.2.2.2.2.2.2.2.2.1, σ.2.2.2.2.2.2.2.2.2.1, σ.2.2.2.2.2.2.2.2.2.2.1, σ.2.2.2.2.2.2.2.2.2.2.2.1, σ.2.2.2.2.2.2.2.2.2.2.2.2.1, σ.2.2.2.2.2.2.2.2.2.2.2.2.2.1, v, σ.2.2.2.2.2.2.2.2.2.2.2.2.2.2.2)
def xs_pages (σ : XS) (v : Nat → Int32) : XS := (σ.1, σ.2.1, σ.2.2.1, σ.2.2.2.1, σ.2.2.2.2.1, σ.2.2.2.2.2.1, σ.2.2.2.2.2.2.1, σ.2.2.2.2.2.2.2.1, σ.2.2.2.2.2.2.2.2.1, σ.2.2.2.2.2.2.2.2.2.1, σ.2.2.2.2.2.2.2.2.2.2.1, σ.2.2.2.2.2.2.2.2.2.2.2.1, σ.2.2.2.2.2.2.2.2.2.2.2.2.1, σ.2.2.2.2.2.2.2.2.2.2.2.2.2.1, σ.2.2.2.2.2.2.2.2.2.2.2.2.2.2.1, v, σ.2.2.2.2.2.2.2.2.2.2.2.2.2.2.2.2)
def xs_asids (σ : XS) (v : Nat → Int32) : XS := (σ.1, σ.2.1, σ.2.2.1, σ.2.2.2.1, σ.2.2.2.2.1, σ.2.2.2.2.2.1, σ.2.2.2.2.2.2.1, σ.2.2.2.2.2.2.2.1, σ.2.2.2.2.2.2.2.2.1, σ.2.2.2.2.2.2.2.2.2.1, σ.2.2.2.2.2.2.2.2.2.2.1, σ.2.2.2.2.2.2.2.2.2.2.2.1, σ.2.2.2.2.2.2.2.2.2.2.2.2.1, σ.2.2.2.2.2.2.2.2.2.2.2.2.2.1, σ.2.2.2.2.2.2.2.2.2.2.2.2.2.2.1, σ.2.2.2.2.2.2.2.2.2.2.2.2.2.2.2.1, v, σ.2.2.2.2.2.2.2.2.2.2.2.2.2.2.2.2.2)
def xs_globals (σ : XS) (v : Nat → Int32) : XS := (σ.1, σ.2.1, σ.2.2.1, σ.2.2.2.1, σ.2.2.2.2.1, σ.2.2.2.2.2.1, σ.2.2.2.2.2.2.1, σ.2.2.2.2.2.2.2.1, σ.2.2.2.2.2.2.2.2.1, σ.2.2.2.2.2.2.2.2.2.1, σ.2.2.2.2.2.2.2.2.2.2.1, σ.2.2.2.2.2.2.2.2.2.2.2.1, σ.2.2.2.2.2.2.2.2.2.2.2.2.1, σ.2.2.2.2.2.2.2.2.2.2.2.2.2.1, σ.2.2.2.2.2.2.2.2.2.2.2.2.2.2.1, σ.2.2.2.2.2.2.2.2.2.2.2.2.2.2.2.1, σ.2.2.2.2.2.2.2.2.2.2.2.2.2.2.2.2.1, v, σ.2.2.2.2.2.2.2.2.2.2.2.2.2.2.2.2.2.2)
def xs_even (σ : XS) (v : Nat → Int32) : XS := (σ.1, σ.2.1, σ.2.2.1, σ.2.2.2.1, σ.2.2.2.2.1, σ.2.2.2.2.2.1, σ.2.2.2.2.2.2.1, σ.2.2.2.2.2.2.2.1, σ.2.2.2.2.2.2.2.2.1, σ.2.2.2.2.2.2.2.2.2.1, σ.2.2.2.2.2.2.2.2.2.2.1, σ.2.2.2.2.2.2.2.2.2.2.2.1, σ.2.2.2.2.2.2.2.2.2.2.2.2.1, σ.2.2.2.2.2.2.2.2.2.2.2.2.2.1, σ.2.2.2.2.2.2.2.2.2.2.2.2.2.2.1, σ.2.2.2.2.2.2.2.2.2.2.2.2.2.2.2.1, σ.2.2.2.2.2.2.2.2.2.2.2.2.2.2.2.2.1, σ.2.2.2.2.2.2.2.2.2.2.2.2.2.2.2.2.2.1, v, σ.2.2.2.2.2.2.2.2.2.2.2.2.2.2.2.2.2.2.2)
def xs_odd (σ : XS) (v : Nat → Int32) : XS := (σ.1, σ.2.1, σ.2.2.1, σ.2.2.2.1, σ.2.2.2.2.1, σ.2.2.2.2.2.1, σ.2.2.2.2.2.2.1, σ.2.2.2.2.2.2.2.1, σ.2.2.2.2.2.2.2.2.1, σ.2.2.2.2.2.2.2.2.2.1, σ.2.2.2.2.2.2.2.2.2.2.1, σ.2.2.2.2.2.2.2.2.2.2.2.1, σ.2.2.2.2.2.2.2.2.2.2.2.2.1, σ.2.2.2.2.2.2.2.2.2.2.2.2.2.1, σ.2.2.2.2.2.2.2.2.2.2.2.2.2.2.1, σ.2.2.2.2.2.2.2.2.2.2.2.2.2.2.2.1, σ.2.2.2.2.2.2.2.2.2.2.2.2.2.2.2.2.1, σ.2.2.2.2.2.2.2.2.2.2.2.2.2.2.2.2.2.1, σ.2.2.2.2.2.2.2.2.2.2.2.2.2.2.2.2.2.2.1, v, σ.2.2.2.2.2.2.2.2.2.2.2.2.2.2.2.2.2.2.2.2)
def xs_regs (σ : XS) (v : Nat → Int32) : XS := (σ.1, σ.2.1, σ.2.2.1, σ.2.2.2.1, σ.2.2.2.2.1, σ.2.2.2.2.2.1, σ.2.2.2.2.2.2.1, σ.2.2.2.2.2.2.2.1, σ.2.2.2.2.2.2.2.2.1, σ.2.2.2.2.2.2.2.2.2.1, σ.2.2.2.2.2.2.2.2.2.2.1, σ.2.2.2.2.2.2.2.2.2.2.2.1, σ.2.2.2.2.2.2.2.2.2.2.2.2.1, σ.2.2.2.2.2.2.2.2.2.2.2.2.2.1, σ.2.2.2.2.2.2.2.2.2.2.2.2.2.2.1, σ.2.2.2.2.2.2.2.2.2.2.2.2.2.2.2.1, σ.2.2.2.2.2.2.2.2.2.2.2.2.2.2.2.2.1, σ.2.2.2.2.2.2.2.2.2.2.2.2.2.2.2.2.2.1, σ.2.2.2.2.2.2.2.2.2.2.2.2.2.2.2.2.2.2.1, σ.2.2.2.2.2.2.2.2.2.2.2.2.2.2.2.2.2.2.2.1, v, σ.2.2.2.2.2.2.2.2.2.2.2.2.2.2.2.2.2.2.2.2.2)
def xs_fbc (σ : XS) (v : Nat → Int32) : XS := (σ.1, σ.2.1, σ.2.2.1, σ.2.2.2.1, σ.2.2.2.2.1, σ.2.2.2.2.2.1, σ.2.2.2.2.2.2.1, σ.2.2.2.2.2.2.2.1, σ.2.2.2.2.2.2.2.2.1, σ.2.2.2.2.2.2.2.2.2.1, σ.2.2.2.2.2.2.2.2.2.2.1, σ.2.2.2.2.2.2.2.2.2.2.2.1, σ.2.2.2.2.2.2.2.2.2.2.2.2.1, σ.2.2.2.2.2.2.2.2.2.2.2.2.2.1, σ.2.2.2.2.2.2.2.2.2.2.2.2.2.2.1, σ.2.2.2.2.2.2.2.2.2.2.2.2.2.2.2.1, σ.2.2.2.2.2.2.2.2.2.2.2.2.2.2.2.2.1, σ.2.2.2.2.2.2.2.2.2.2.2.2.2.2.2.2.2.1, σ.2.2.2.2.2.2.2.2.2.2.2.2.2.2.2.2.2.2.1, σ.2.2.2.2.2.2.2.2.2.2.2.2.2.2.2.2.2.2.2.1, σ.2.2.2.2.2.2.2.2.2.2.2.2.2.2.2.2.2.2.2.2.1, v)
def xW (E : Ev) (ad : Nat → Nat) (σ : XS) : va_W := [(ad 0, .inr (0, [.ref (ad 1), .ref (ad 2), .ref (ad 3), .ref (ad 4), .ref (ad 5), .ref (ad 6)])), (ad 1, .inr (1, [.ref (ad 11)])), (ad 2, .inr (2, [.ref (ad 12), .int (x_lines σ), .int (zb (x_timer σ))])), (ad 3, .inr (3, [.ref (ad 13), .ref (ad 14), .ref (ad 15), .ref (ad 16), .ref (ad 17)])), (ad 4, .inr (4, [.ref (ad 1), .ref (ad 2), .ref (ad 3), .int (x_asked σ)])), (ad 5, .inr (5, [.int (x_hi σ), .int (x_lo σ), .int (x_pc σ), .int (x_link σ), .int (zb (x_inds σ)), .ref (ad 18), .int (x_behind σ), .int (x_instr σ), .int (x_nextPc σ), .int (zb (x_nextds σ))])), (ad 6, .inr (6, [.ref (ad 5), .ref (ad 1), .ref (ad 2), .ref (ad 4), .ref (ad 7), .ref (ad 8), .ref (ad 9), .ref (ad 10), .ref (ad 19), .int (x_steps σ)])), (ad 7, .inr (7, [.ref (ad 5)])), (ad 8, .inr (8, [.ref (ad 5)])), (ad 9, .inr (9, [.ref (ad 5), .ref (ad 1), .ref (ad 4)])), (ad 10, .inr (10, [.ref (ad 5), .ref (ad 2), .ref (ad 3)])), (ad 11, .inl (E.2.1.1, 65536, .inl (x_words σ))), (ad 12, .inl (E.2.1.1, 32, .inl (x_values σ))), (ad 13, .inl (E.2.1.1, 32, .inl (x_pages σ))), (ad 14, .inl (E.2.1.1, 32, .inl (x_asids σ))), (ad 15, .inl (E.2.1.1, 32, .inl (x_globals σ))), (ad 16, .inl (E.2.1.1, 32, .inl (x_even σ))), (ad 17, .inl (E.2.1.1, 32, .inl (x_odd σ))), (ad 18, .inl (E.2.1.1, 32, .inl (x_regs σ))), (ad 19, .inl (E.2.1.1, 14, .inl (x_fbc σ)))]
abbrev MS : Type := (Int32) × (Int32) × (Int32) × (Int32) × (Int32) × (Int32) × (Int32) × (Int32) × (Int32) × (Int32) × (Int32) × (Bool) × (Bool) × (Bool) × (Bool) × (Bool) × (Nat → Int32) × (Nat → Int32) × (Nat → Int32) × (Nat → Int32) × (Nat → Int32) × (Nat → Int32) × (Nat → Int32) × (Nat → Bool) × (Nat → Bool)
abbrev m_thrown (σ : MS) : Int32 := σ.1
abbrev m_hi (σ : MS) : Int32 := σ.2.1
abbrev m_lo (σ : MS) : Int32 := σ.2.2.1
abbrev m_pc (σ : MS) : Int32 := σ.2.2.2.1
abbrev m_target (σ : MS) : Int32 := σ.2.2.2.2.1
abbrev m_link (σ : MS) : Int32 := σ.2.2.2.2.2.1
abbrev m_steps (σ : MS) : Int32 := σ.2.2.2.2.2.2.1
abbrev m_fault (σ : MS) : Int32 := σ.2.2.2.2.2.2.2.1
abbrev m_faultAt (σ : MS) : Int32 := σ.2.2.2.2.2.2.2.2.1
abbrev m_unit (σ : MS) : Int32 := σ.2.2.2.2.2.2.2.2.2.1
abbrev m_next (σ : MS) : Int32 := σ.2.2.2.2.2.2.2.2.2.2.1
abbrev m_slot (σ : MS) : Bool := σ.2.2.2.2.2.2.2.2.2.2.2.1
abbrev m_timer (σ : MS) : Bool := σ.2.2.2.2.2.2.2.2.2.2.2.2.1
abbrev m_hasAddress (σ : MS) : Bool := σ.2.2.2.2.2.2.2.2.2.2.2.2.2.1
abbrev m_refills (σ : MS) : Bool := σ.2.2.2.2.2.2.2.2.2.2.2.2.2.2.1
abbrev m_nextSlot (σ : MS) : Bool := σ.2.2.2.2.2.2.2.2.2.2.2.2.2.2.2.1
abbrev m_memory (σ : MS) : Nat → Int32 := σ.2.2.2.2.2.2.2.2.2.2.2.2.2.2.2.2.1
abbrev m_r (σ : MS) : Nat → Int32 := σ.2.2.2.2.2.2.2.2.2.2.2.2.2.2.2.2.2.1
abbrev m_sys (σ : MS) : Nat → Int32 := σ.2.2.2.2.2.2.2.2.2.2.2.2.2.2.2.2.2.2.1
abbrev m_pages (σ : MS) : Nat → Int32 := σ.2.2.2.2.2.2.2.2.2.2.2.2.2.2.2.2.2.2.2.1
abbrev m_spaces (σ : MS) : Nat → Int32 := σ.2.2.2.2.2.2.2.2.2.2.2.2.2.2.2.2.2.2.2.2.1
abbrev m_halves (σ : MS) : Nat → Int32 := σ.2.2.2.2.2.2.2.2.2.2.2.2.2.2.2.2.2.2.2.2.2.1
abbrev m_faults (σ : MS) : Nat → Int32 := σ.2.2.2.2.2.2.2.2.2.2.2.2.2.2.2.2.2.2.2.2.2.2.1
abbrev m_lines (σ : MS) : Nat → Bool := σ.2.2.2.2.2.2.2.2.2.2.2.2.2.2.2.2.2.2.2.2.2.2.2.1
abbrev m_all (σ : MS) : Nat → Bool := σ.2.2.2.2.2.2.2.2.2.2.2.2.2.2.2.2.2.2.2.2.2.2.2.2
def ms_thrown (σ : MS) (v : Int32) : MS := (v, σ.2)
def ms_hi (σ : MS) (v : Int32) : MS := (σ.1, v, σ.2.2)
def ms_lo (σ : MS) (v : Int32) : MS := (σ.1, σ.2.1, v, σ.2.2.2)
def ms_pc (σ : MS) (v : Int32) : MS := (σ.1, σ.2.1, σ.2.2.1, v, σ.2.2.2.2)
def ms_target (σ : MS) (v : Int32) : MS := (σ.1, σ.2.1, σ.2.2.1, σ.2.2.2.1, v, σ.2.2.2.2.2)
def ms_link (σ : MS) (v : Int32) : MS := (σ.1, σ.2.1, σ.2.2.1, σ.2.2.2.1, σ.2.2.2.2.1, v, σ.2.2.2.2.2.2)
def ms_steps (σ : MS) (v : Int32) : MS := (σ.1, σ.2.1, σ.2.2.1, σ.2.2.2.1, σ.2.2.2.2.1, σ.2.2.2.2.2.1, v, σ.2.2.2.2.2.2.2)
def ms_fault (σ : MS) (v : Int32) : MS := (σ.1, σ.2.1, σ.2.2.1, σ.2.2.2.1, σ.2.2.2.2.1, σ.2.2.2.2.2.1, σ.2.2.2.2.2.2.1, v, σ.2.2.2.2.2.2.2.2)
def ms_faultAt (σ : MS) (v : Int32) : MS := (σ.1, σ.2.1, σ.2.2.1, σ.2.2.2.1, σ.2.2.2.2.1, σ.2.2.2.2.2.1, σ.2.2.2.2.2.2.1, σ.2.2.2.2.2.2.2.1, v, σ.2.2.2.2.2.2.2.2.2)
def ms_unit (σ : MS) (v : Int32) : MS := (σ.1, σ.2.1, σ.2.2.1, σ.2.2.2.1, σ.2.2.2.2.1, σ.2.2.2.2.2.1, σ.2.2.2.2.2.2.1, σ.2.2.2.2.2.2.2.1, σ.2.2.2.2.2.2.2.2.1, v, σ.2.2.2.2.2.2.2.2.2.2)
def ms_next (σ : MS) (v : Int32) : MS := (σ.1, σ.2.1, σ.2.2.1, σ.2.2.2.1, σ.2.2.2.2.1, σ.2.2.2.2.2.1, σ.2.2.2.2.2.2.1, σ.2.2.2.2.2.2.2.1, σ.2.2.2.2.2.2.2.2.1, σ.2.2.2.2.2.2.2.2.2.1, v, σ.2.2.2.2.2.2.2.2.2.2.2)
def ms_slot (σ : MS) (v : Bool) : MS := (σ.1, σ.2.1, σ.2.2.1, σ.2.2.2.1, σ.2.2.2.2.1, σ.2.2.2.2.2.1, σ.2.2.2.2.2.2.1, σ.2.2.2.2.2.2.2.1, σ.2.2.2.2.2.2.2.2.1, σ.2.2.2.2.2.2.2.2.2.1, σ.2.2.2.2.2.2.2.2.2.2.1, v, σ.2.2.2.2.2.2.2.2.2.2.2.2)
def ms_timer (σ : MS) (v : Bool) : MS := (σ.1, σ.2.1, σ.2.2.1, σ.2.2.2.1, σ.2.2.2.2.1, σ.2.2.2.2.2.1, σ.2.2.2.2.2.2.1, σ.2.2.2.2.2.2.2.1, σ.2.2.2.2.2.2.2.2.1, σ.2.2.2.2.2.2.2.2.2.1, σ.2.2.2.2.2.2.2.2.2.2.1, σ.2.2.2.2.2.2.2.2.2.2.2.1, v, σ.2.2.2.2.2.2.2.2.2.2.2.2.2)
def ms_hasAddress (σ : MS) (v : Bool) : MS := (σ.1, σ.2.1, σ.2.2.1, σ.2.2.2.1, σ.2.2.2.2.1, σ.2.2.2.2.2.1, σ.2.2.2.2.2.2.1, σ.2.2.2.2.2.2.2.1, σ.2.2.2.2.2.2.2.2.1, σ.2.2.2.2.2.2.2.2.2.1, σ.2.2.2.2.2.2.2.2.2.2.1, σ.2.2.2.2.2.2.2.2.2.2.2.1, σ.2.2.2.2.2.2.2.2.2.2.2.2.1, v, σ.2.2.2.2.2.2.2.2.2.2.2.2.2.2)
def ms_refills (σ : MS) (v : Bool) : MS := (σ.1, σ.2.1, σ.2.2.1, σ.2.2.2.1, σ.2.2.2.2.1, σ.2.2.2.2.2.1, σ.2.2.2.2.2.2.1, σ.2.2.2.2.2.2.2.1, σ.2.2.2.2.2.2.2.2.1, σ.2.2.2.2.2.2.2.2.2.1, σ.2.2.2.2.2.2.2.2.2.2.1, σ.2.2.2.2.2.2.2.2.2.2.2.1, σ.2.2.2.2.2.2.2.2.2.2.2.2.1, σ.2.2.2.2.2.2.2.2.2.2.2.2.2.1, v, σ.2.2.2.2.2.2.2.2.2.2.2.2.2.2.2)
def ms_nextSlot (σ : MS) (v : Bool) : MS := (σ.1, σ.2.1, σ.2.2.1, σ.2.2.2.1, σ.2.2.2.2.1, σ.2.2.2.2.2.1, σ.2.2.2.2.2.2.1, σ.2.2.2.2.2.2.2.1, σ.2.2.2.2.2.2.2.2.1, σ.2.2.2.2.2.2.2.2.2.1, σ.2.2.2.2.2.2.2.2.2.2.1, σ.2.2.2.2.2.2.2.2.2.2.2.1, σ.2.2.2.2.2.2.2.2.2.2.2.2.1, σ.2.2.2.2.2.2.2.2.2.2.2.2.2.1, σ.2.2.2.2.2.2.2.2.2.2.2.2.2.2.1, v, σ.2.2.2.2.2.2.2.2.2.2.2.2.2.2.2.2)
def ms_memory (σ : MS) (v : Nat → Int32) : MS := (σ.1, σ.2.1, σ.2.2.1, σ.2.2.2.1, σ.2.2.2.2.1, σ.2.2.2.2.2.1, σ.2.2.2.2.2.2.1, σ.2.2.2.2.2.2.2.1, σ.2.2.2.2.2.2.2.2.1, σ.2.2.2.2.2.2.2.2.2.1, σ.2.2.2.2.2.2.2.2.2.2.1, σ.2.2.2.2.2.2.2.2.2.2.2.1, σ.2.2.2.2.2.2.2.2.2.2.2.2.1, σ.2.2.2.2.2.2.2.2.2.2.2.2.2.1, σ.2.2.2.2.2.2.2.2.2.2.2.2.2.2.1, σ.2.2.2.2.2.2.2.2.2.2.2.2.2.2.2.1, v, σ.2.2.2.2.2.2.2.2.2.2.2.2.2.2.2.2.2)
def ms_r (σ : MS) (v : Nat → Int32) : MS := (σ.1, σ.2.1, σ.2.2.1, σ.2.2.2.1, σ.2.2.2.2.1, σ.2.2.2.2.2.1, σ.2.2.2.2.2.2.1, σ.2.2.2.2.2.2.2.1, σ.2.2.2.2.2.2.2.2.1, σ.2.2.2.2.2.2.2.2.2.1, σ.2.2.2.2.2.2.2.2.2.2.1, σ.2.2.2.2.2.2.2.2.2.2.2.1, σ.2.2.2.2.2.2.2.2.2.2.2.2.1, σ.2.2.2.2.2.2.2.2.2.2.2.2.2.1, σ.2.2.2.2.2.2.2.2.2.2.2.2.2.2.1, σ.2.2.2.2.2.2.2.2.2.2.2.2.2.2.2.1, σ.2.2.2.2.2.2.2.2.2.2.2.2.2.2.2.2.1, v, σ.2.2.2.2.2.2.2.2.2.2.2.2.2.2.2.2.2.2)
def ms_sys (σ : MS) (v : Nat → Int32) : MS := (σ.1, σ.2.1, σ.2.2.1, σ.2.2.2.1, σ.2.2.2.2.1, σ.2.2.2.2.2.1, σ.2.2.2.2.2.2.1, σ.2.2.2.2.2.2.2.1, σ.2.2.2.2.2.2.2.2.1, σ.2.2.2.2.2.2.2.2.2.1, σ.2.2.2.2.2.2.2.2.2.2.1, σ.2.2.2.2.2.2.2.2.2.2.2.1, σ.2.2.2.2.2.2.2.2.2.2.2.2.1, σ.2.2.2.2.2.2.2.2.2.2.2.2.2.1, σ.2.2.2.2.2.2.2.2.2.2.2.2.2.2.1, σ.2.2.2.2.2.2.2.2.2.2.2.2.2.2.2.1, σ.2.2.2.2.2.2.2.2.2.2.2.2.2.2.2.2.1, σ.2.2.2.2.2.2.2.2.2.2.2.2.2.2.2.2.2.1, v, σ.2.2.2.2.2.2.2.2.2.2.2.2.2.2.2.2.2.2.2)
def ms_pages (σ : MS) (v : Nat → Int32) : MS := (σ.1, σ.2.1, σ.2.2.1, σ.2.2.2.1, σ.2.2.2.2.1, σ.2.2.2.2.2.1, σ.2.2.2.2.2.2.1, σ.2.2.2.2.2.2.2.1, σ.2.2.2.2.2.2.2.2.1, σ.2.2.2.2.2.2.2.2.2.1, σ.2.2.2.2.2.2.2.2.2.2.1, σ.2.2.2.2.2.2.2.2.2.2.2.1, σ.2.2.2.2.2.2.2.2.2.2.2.2.1, σ.2.2.2.2.2.2.2.2.2.2.2.2.2.1, σ.2.2.2.2.2.2.2.2.2.2.2.2.2.2.1, σ.2.2.2.2.2.2.2.2.2.2.2.2.2.2.2.1, σ.2.2.2.2.2.2.2.2.2.2.2.2.2.2.2.2.1, σ.2.2.2.2.2.2.2.2.2.2.2.2.2.2.2.2.2.1, σ.2.2.2.2.2.2.2.2.2.2.2.2.2.2.2.2.2.2.1, v, σ.2.2.2.2.2.2.2.2.2.2.2.2.2.2.2.2.2.2.2.2)
def ms_spaces (σ : MS) (v : Nat → Int32) : MS := (σ.1, σ.2.1, σ.2.2.1, σ.2.2.2.1, σ.2.2.2.2.1, σ.2.2.2.2.2.1, σ.2.2.2.2.2.2.1, σ.2.2.2.2.2.2.2.1, σ.2.2.2.2.2.2.2.2.1, σ.2.2.2.2.2.2.2.2.2.1, σ.2.2.2.2.2.2.2.2.2.2.1, σ.2.2.2.2.2.2.2.2.2.2.2.1, σ.2.2.2.2.2.2.2.2.2.2.2.2.1, σ.2.2.2.2.2.2.2.2.2.2.2.2.2.1, σ.2.2.2.2.2.2.2.2.2.2.2.2.2.2.1, σ.2.2.2.2.2.2.2.2.2.2.2.2.2.2.2.1, σ.2.2.2.2.2.2.2.2.2.2.2.2.2.2.2.2.1, σ.2.2.2.2.2.2.2.2.2.2.2.2.2.2.2.2.2.1, σ.2.2.2.2.2.2.2.2.2.2.2.2.2.2.2.2.2.2.1, σ.2.2.2.2.2.2.2.2.2.2.2.2.2.2.2.2.2.2.2.1, v, σ.2.2.2.2.2.2.2.2.2.2.2.2.2.2.2.2.2.2.2.2.2)
def ms_halves (σ : MS) (v : Nat → Int32) : MS := (σ.1, σ.2.1, σ.2.2.1, σ.2.2.2.1, σ.2.2.2.2.1, σ.2.2.2.2.2.1, σ.2.2.2.2.2.2.1, σ.2.2.2.2.2.2.2.1, σ.2.2.2.2.2.2.2.2.1, σ.2.2.2.2.2.2.2.2.2.1, σ.2.2.2.2.2.2.2.2.2.2.1, σ.2.2.2.2.2.2.2.2.2.2.2.1, σ.2.2.2.2.2.2.2.2.2.2.2.2.1, σ.2.2.2.2.2.2.2.2.2.2.2.2.2.1, σ.2.2.2.2.2.2.2.2.2.2.2.2.2.2.1, σ.2.2.2.2.2.2.2.2.2.2.2.2.2.2.2.1, σ.2.2.2.2.2.2.2.2.2.2.2.2.2.2.2.2.1, σ.2.2.2.2.2.2.2.2.2.2.2.2.2.2.2.2.2.1, σ.2.2.2.2.2.2.2.2.2.2.2.2.2.2.2.2.2.2.1, σ.2.2.2.2.2.2.2.2.2.2.2.2.2.2.2.2.2.2.2.1, σ.2.2.2.2.2.2.2.2.2.2.2.2.2.2.2.2.2.2.2.2.1, v, σ.2.2.2.2.2.2.2.2.2.2.2.2.2.2.2.2.2.2.2.2.2.2)
def ms_faults (σ : MS) (v : Nat → Int32) : MS := (σ.1, σ.2.1, σ.2.2.1, σ.2.2.2.1, σ.2.2.2.2.1, σ.2.2.2.2.2.1, σ.2.2.2.2.2.2.1, σ.2.2.2.2.2.2.2.1, σ.2.2.2.2.2.2.2.2.1, σ.2.2.2.2.2.2.2.2.2.1, σ.2.2.2.2.2.2.2.2.2.2.1, σ.2.2.2.2.2.2.2.2.2.2.2.1, σ.2.2.2.2.2.2.2.2.2.2.2.2.1, σ.2.2.2.2.2.2.2.2.2.2.2.2.2.1, σ.2.2.2.2.2.2.2.2.2.2.2.2.2.2.1, σ.2.2.2.2.2.2.2.2.2.2.2.2.2.2.2.1, σ.2.2.2.2.2.2.2.2.2.2.2.2.2.2.2.2.1, σ.2.2.2.2.2.2.2.2.2.2.2.2.2.2.2.2.2.1, σ.2.2.2.2.2.2.2.2.2.2.2.2.2.2.2.2.2.2.1, σ.2.2.2.2.2.2.2.2.2.2.2.2.2.2.2.2.2.2.2.1, σ.2.2.2.2.2.2.2.2.2.2.2.2.2.2.2.2.2.2.2.2.1, σ.2.2.2.2.2.2.2.2.2.2.2.2.2.2.2.2.2.2.2.2.2.1, v, σ.2.2.2.2.2.2.2.2.2.2.2.2.2.2.2.2.2.2.2.2.2.2.2)
def ms_lines (σ : MS) (v : Nat → Bool) : MS := (σ.1, σ.2.1, σ.2.2.1, σ.2.2.2.1, σ.2.2.2.2.1, σ.2.2.2.2.2.1, σ.2.2.2.2.2.2.1, σ.2.2.2.2.2.2.2.1, σ.2.2.2.2.2.2.2.2.1, σ.2.2.2.2.2.2.2.2.2.1, σ.2.2.2.2.2.2.2.2.2.2.1, σ.2.2.2.2.2.2.2.2.2.2.2.1, σ.2.2.2.2.2.2.2.2.2.2.2.2.1, σ.2.2.2.2.2.2.2.2.2.2.2.2.2.1, σ.2.2.2.2.2.2.2.2.2.2.2.2.2.2.1, σ.2.2.2.2.2.2.2.2.2.2.2.2.2.2.2.1, σ.2.2.2.2.2.2.2.2.2.2.2.2.2.2.2.2.1, σ.2.2.2.2.2.2.2.2.2.2.2.2.2.2.2.2.2.1, σ.2.2.2.2.2.2.2.2.2.2.2.2.2.2.2.2.2.2.1, σ.2.2.2.2.2.2.2.2.2.2.2.2.2.2.2.2.2.2.2.1, σ.2.2.2.2.2.2.2.2.2.2.2.2.2.2.2.2.2.2.2.2.1, σ.2.2.2.2.2.2.2.2.2.2.2.2.2.2.2.2.2.2.2.2.2.1, σ.2.2.2.2.2.2.2.2.2.2.2.2.2.2.2.2.2.2.2.2.2.2.1, v, σ.2.2.2.2.2.2.2.2.2.2.2.2.2.2.2.2.2.2.2.2.2.2.2.2)
def ms_all (σ : MS) (v : Nat → Bool) : MS := (σ.1, σ.2.1, σ.2.2.1, σ.2.2.2.1, σ.2.2.2.2.1, σ.2.2.2.2.2.1, σ.2.2.2.2.2.2.1, σ.2.2.2.2.2.2.2.1, σ.2.2.2.2.2.2.2.2.1, σ.2.2.2.2.2.2.2.2.2.1, σ.2.2.2.2.2.2.2.2.2.2.1, σ.2.2.2.2.2.2.2.2.2.2.2.1, σ.2.2.2.2.2.2.2.2.2.2.2.2.1, σ.2.2.2.2.2.2.2.2.2.2.2.2.2.1, σ.2.2.2.2.2.2.2.2.2.2.2.2.2.2.1, σ.2.2.2.2.2.2.2.2.2.2.2.2.2.2.2.1, σ.2.2.2.2.2.2.2.2.2.2.2.2.2.2.2.2.1, σ.2.2.2.2.2.2.2.2.2.2.2.2.2.2.2.2.2.1, σ.2.2.2.2.2.2.2.2.2.2.2.2.2.2.2.2.2.2.1, σ.2.2.2.2.2.2.2.2.2.2.2.2.2.2.2.2.2.2.2.1, σ.2.2.2.2.2.2.2.2.2.2.2.2.2.2.2.2.2.2.2.2.1, σ.2.2.2.2.2.2.2.2.2.2.2.2.2.2.2.2.2.2.2.2.2.1, σ.2.2.2.2.2.2.2.2.2.2.2.2.2.2.2.2.2.2.2.2.2.2.1, σ.2.2.2.2.2.2.2.2.2.2.2.2.2.2.2.2.2.2.2.2.2.2.2.1, v)
def mW (E : Ev) (ad : Nat → Nat) (σ : MS) : va_W := [(ad 0, .inr (11, [.int (m_thrown σ), .ref (ad 1), .ref (ad 2), .int (m_hi σ), .int (m_lo σ), .int (m_pc σ), .int (m_target σ), .int (m_link σ), .int (zb (m_slot σ)), .ref (ad 3), .int (zb (m_timer σ)), .ref (ad 8), .ref (ad 4), .ref (ad 5), .ref (ad 9), .ref (ad 6), .int (m_steps σ), .ref (ad 7), .int (m_fault σ), .int (m_faultAt σ), .int (m_unit σ), .int (zb (m_hasAddress σ)), .int (zb (m_refills σ)), .int (m_next σ), .int (zb (m_nextSlot σ))])), (ad 1, .inl (E.2.1.1, 65536, .inl (m_memory σ))), (ad 2, .inl (E.2.1.1, 32, .inl (m_r σ))), (ad 3, .inl (E.2.1.1, 32, .inl (m_sys σ))), (ad 4, .inl (E.2.1.1, 32, .inl (m_pages σ))), (ad 5, .inl (E.2.1.1, 32, .inl (m_spaces σ))), (ad 6, .inl (E.2.1.1, 64, .inl (m_halves σ))), (ad 7, .inl (E.2.1.1, 14, .inl (m_faults σ))), (ad 8, .inl (E.2.1.2.1, 6, .inl (fun j => zb (m_lines σ j)))), (ad 9, .inl (E.2.1.2.1, 32, .inl (fun j => zb (m_all σ j))))]
section RLx
variable {p : Program} {l : Launch} {e : Env} {R : Room} {s : State} {m : MethodId} {args : Array Value} {below : List Frame} {meth : Method} {c : Code} {H : Heap} {locs : List Loc} {cells slots : Nat} {Q : State → Prop}
variable {E : Ev} {A : Nat → Prop} {b : ByteArray} {n : Nat} {r : Option FieldType} {own : String} {pc index : Nat} {ls : Array Slot} {rest : List Value} {ad : Nat → Nat}
variable {σ : XS}
theorem g_PM_memory (hc : Cx xCl E A p s m args meth c b n r own) (w : Wd xCl E A s.heap H locs (xW E ad σ)) (hl : Cond.fieldLink own index "PageMachine" "memory" "LPageMachine$Memory;" ∈ gt_bl) (hdg : decode b pc = .ok (.getfield index, 3)) (kk : W p l e R s m args below meth c H locs cells slots Q (F0 m (pc + 3) ls (.ref (ad 1) :: rest))) : W p l e R s m args below meth c H locs cells slots Q (F0 m pc ls (.ref (ad 0) :: rest)) :=
  rg hc w i_PM 0 rfl rfl 0 (by decide) rfl hl hdg kk
theorem g_PM_system (hc : Cx xCl E A p s m args meth c b n r own) (w : Wd xCl E A s.heap H locs (xW E ad σ)) (hl : Cond.fieldLink own index "PageMachine" "system" "LPageMachine$SystemRegisters;" ∈ gt_bl) (hdg : decode b pc = .ok (.getfield index, 3)) (kk : W p l e R s m args below meth c H locs cells slots Q (F0 m (pc + 3) ls (.ref (ad 2) :: rest))) : W p l e R s m args below meth c H locs cells slots Q (F0 m pc ls (.ref (ad 0) :: rest)) :=
  rg hc w i_PM 0 rfl rfl 1 (by decide) rfl hl hdg kk
theorem g_PM_tlb (hc : Cx xCl E A p s m args meth c b n r own) (w : Wd xCl E A s.heap H locs (xW E ad σ)) (hl : Cond.fieldLink own index "PageMachine" "tlb" "LPageMachine$Tlb;" ∈ gt_bl) (hdg : decode b pc = .ok (.getfield index, 3)) (kk : W p l e R s m args below meth c H locs cells slots Q (F0 m (pc + 3) ls (.ref (ad 3) :: rest))) : W p l e R s m args below meth c H locs cells slots Q (F0 m pc ls (.ref (ad 0) :: rest)) :=
  rg hc w i_PM 0 rfl rfl 2 (by decide) rfl hl hdg kk
theorem g_PM_space (hc : Cx xCl E A p s m args meth c b n r own) (w : Wd xCl E A s.heap H locs (xW E ad σ)) (hl : Cond.fieldLink own index "PageMachine" "space" "LPageMachine$AddressSpace;" ∈ gt_bl) (hdg : decode b pc = .ok (.getfield index, 3)) (kk : W p l e R s m args below meth c H locs cells slots Q (F0 m (pc + 3) ls (.ref (ad 4) :: rest))) : W p l e R s m args below meth c H locs cells slots Q (F0 m pc ls (.ref (ad 0) :: rest)) :=
  rg hc w i_PM 0 rfl rfl 3 (by decide) rfl hl hdg kk
theorem g_PM_core (hc : Cx xCl E A p s m args meth c b n r own) (w : Wd xCl E A s.heap H locs (xW E ad σ)) (hl : Cond.fieldLink own index "PageMachine" "core" "LPageMachine$Core;" ∈ gt_bl) (hdg : decode b pc = .ok (.getfield index, 3)) (kk : W p l e R s m args below meth c H locs cells slots Q (F0 m (pc + 3) ls (.ref (ad 5) :: rest))) : W p l e R s m args below meth c H locs cells slots Q (F0 m pc ls (.ref (ad 0) :: rest)) :=
  rg hc w i_PM 0 rfl rfl 4 (by decide) rfl hl hdg kk
theorem g_PM_processor (hc : Cx xCl E A p s m args meth c b n r own) (w : Wd xCl E A s.heap H locs (xW E ad σ)) (hl : Cond.fieldLink own index "PageMachine" "processor" "LPageMachine$Processor;" ∈ gt_bl) (hdg : decode b pc = .ok (.getfield index, 3)) (kk : W p l e R s m args below meth c H locs cells slots Q (F0 m (pc + 3) ls (.ref (ad 6) :: rest))) : W p l e R s m args below meth c H locs cells slots Q (F0 m pc ls (.ref (ad 0) :: rest)) :=
  rg hc w i_PM 0 rfl rfl 5 (by decide) rfl hl hdg kk
theorem g_ME_words (hc : Cx xCl E A p s m args meth c b n r own) (w : Wd xCl E A s.heap H locs (xW E ad σ)) (hl : Cond.fieldLink own index "PageMachine$Memory" "words" "[I" ∈ gt_bl) (hdg : decode b pc = .ok (.getfield index, 3)) (kk : W p l e R s m args below meth c H locs cells slots Q (F0 m (pc + 3) ls (.ref (ad 11) :: rest))) : W p l e R s m args below meth c H locs cells slots Q (F0 m pc ls (.ref (ad 1) :: rest)) :=
  rg hc w i_ME 1 rfl rfl 0 (by decide) rfl hl hdg kk
theorem g_SR_values (hc : Cx xCl E A p s m args meth c b n r own) (w : Wd xCl E A s.heap H locs (xW E ad σ)) (hl : Cond.fieldLink own index "PageMachine$SystemRegisters" "values" "[I" ∈ gt_bl) (hdg : decode b pc = .ok (.getfield index, 3)) (kk : W p l e R s m args below meth c H locs cells slots Q (F0 m (pc + 3) ls (.ref (ad 12) :: rest))) : W p l e R s m args below meth c H locs cells slots Q (F0 m pc ls (.ref (ad 2) :: rest)) :=
  rg hc w i_SR 2 rfl rfl 0 (by decide) rfl hl hdg kk
theorem g_SR_lines (hc : Cx xCl E A p s m args meth c b n r own) (w : Wd xCl E A s.heap H locs (xW E ad σ)) (hl : Cond.fieldLink own index "PageMachine$SystemRegisters" "lines" "I" ∈ gt_bl) (hdg : decode b pc = .ok (.getfield index, 3)) (kk : W p l e R s m args below meth c H locs cells slots Q (F0 m (pc + 3) ls (.int (x_lines σ) :: rest))) : W p l e R s m args below meth c H locs cells slots Q (F0 m pc ls (.ref (ad 2) :: rest)) :=
  rg hc w i_SR 2 rfl rfl 1 (by decide) rfl hl hdg kk
theorem p_SR_lines {v : Int32} (hc : Cx xCl E A p s m args meth c b n r own) (w : Wd xCl E A s.heap H locs (xW E ad σ)) (hl : Cond.fieldLink own index "PageMachine$SystemRegisters" "lines" "I" ∈ gt_bl) (hdg : decode b pc = .ok (.putfield index, 3)) (kk : ∀ (σ1 : XS) (H1 : Heap) (locs1 : List Loc), xs_lines σ v = σ1 → Wd xCl E A s.heap H1 locs1 (xW E ad σ1) → W p l e R s m args below meth c H1 locs1 cells slots Q (F0 m (pc + 3) ls rest)) : W p l e R s m args below meth c H locs cells slots Q (F0 m pc ls (.int v :: .ref (ad 2) :: rest)) :=
  rp (ty := .int) hc w i_SR ty_SR tyok_SR nm_SR 2 rfl rfl 1 (by decide) rfl (by decide +kernel) rfl rfl (Nat.le_of_ble_eq_true rfl) (ws' := xW E ad (xs_lines σ v)) rfl hl hdg (fun H1 locs1 w1 => kk _ H1 locs1 rfl w1)
theorem g_SR_timerIsDue (hc : Cx xCl E A p s m args meth c b n r own) (w : Wd xCl E A s.heap H locs (xW E ad σ)) (hl : Cond.fieldLink own index "PageMachine$SystemRegisters" "timerIsDue" "Z" ∈ gt_bl) (hdg : decode b pc = .ok (.getfield index, 3)) (kk : W p l e R s m args below meth c H locs cells slots Q (F0 m (pc + 3) ls (.int (zb (x_timer σ)) :: rest))) : W p l e R s m args below meth c H locs cells slots Q (F0 m pc ls (.ref (ad 2) :: rest)) :=
  rg hc w i_SR 2 rfl rfl 2 (by decide) rfl hl hdg kk
theorem p_SR_timerIsDue {v : Bool} (hc : Cx xCl E A p s m args meth c b n r own) (w : Wd xCl E A s.heap H locs (xW E ad σ)) (hl : Cond.fieldLink own index "PageMachine$SystemRegisters" "timerIsDue" "Z" ∈ gt_bl) (hdg : decode b pc = .ok (.putfield index, 3)) (kk : ∀ (σ1 : XS) (H1 : Heap) (locs1 : List Loc), xs_timer σ v = σ1 → Wd xCl E A s.heap H1 locs1 (xW E ad σ1) → W p l e R s m args below meth c H1 locs1 cells slots Q (F0 m (pc + 3) ls rest)) : W p l e R s m args below meth c H locs cells slots Q (F0 m pc ls (.int (zb v) :: .ref (ad 2) :: rest)) :=
  rp (ty := .boolean) hc w i_SR ty_SR tyok_SR nm_SR 2 rfl rfl 2 (by decide) rfl (by decide +kernel) (zb_n v) (zb_f v) (Nat.le_of_ble_eq_true rfl) (ws' := xW E ad (xs_timer σ v)) rfl hl hdg (fun H1 locs1 w1 => kk _ H1 locs1 rfl w1)
theorem g_TL_pages (hc : Cx xCl E A p s m args meth c b n r own) (w : Wd xCl E A s.heap H locs (xW E ad σ)) (hl : Cond.fieldLink own index "PageMachine$Tlb" "pages" "[I" ∈ gt_bl) (hdg : decode b pc = .ok (.getfield index, 3)) (kk : W p l e R s m args below meth c H locs cells slots Q (F0 m (pc + 3) ls (.ref (ad 13) :: rest))) : W p l e R s m args below meth c H locs cells slots Q (F0 m pc ls (.ref (ad 3) :: rest)) :=
  rg hc w i_TL 3 rfl rfl 0 (by decide) rfl hl hdg kk
theorem g_TL_asids (hc : Cx xCl E A p s m args meth c b n r own) (w : Wd xCl E A s.heap H locs (xW E ad σ)) (hl : Cond.fieldLink own index "PageMachine$Tlb" "asids" "[I" ∈ gt_bl) (hdg : decode b pc = .ok (.getfield index, 3)) (kk : W p l e R s m args below meth c H locs cells slots Q (F0 m (pc + 3) ls (.ref (ad 14) :: rest))) : W p l e R s m args below meth c H locs cells slots Q (F0 m pc ls (.ref (ad 3) :: rest)) :=
  rg hc w i_TL 3 rfl rfl 1 (by decide) rfl hl hdg kk
theorem g_TL_globals (hc : Cx xCl E A p s m args meth c b n r own) (w : Wd xCl E A s.heap H locs (xW E ad σ)) (hl : Cond.fieldLink own index "PageMachine$Tlb" "globals" "[I" ∈ gt_bl) (hdg : decode b pc = .ok (.getfield index, 3)) (kk : W p l e R s m args below meth c H locs cells slots Q (F0 m (pc + 3) ls (.ref (ad 15) :: rest))) : W p l e R s m args below meth c H locs cells slots Q (F0 m pc ls (.ref (ad 3) :: rest)) :=
  rg hc w i_TL 3 rfl rfl 2 (by decide) rfl hl hdg kk
theorem g_TL_evenHalves (hc : Cx xCl E A p s m args meth c b n r own) (w : Wd xCl E A s.heap H locs (xW E ad σ)) (hl : Cond.fieldLink own index "PageMachine$Tlb" "evenHalves" "[I" ∈ gt_bl) (hdg : decode b pc = .ok (.getfield index, 3)) (kk : W p l e R s m args below meth c H locs cells slots Q (F0 m (pc + 3) ls (.ref (ad 16) :: rest))) : W p l e R s m args below meth c H locs cells slots Q (F0 m pc ls (.ref (ad 3) :: rest)) :=
  rg hc w i_TL 3 rfl rfl 3 (by decide) rfl hl hdg kk
theorem g_TL_oddHalves (hc : Cx xCl E A p s m args meth c b n r own) (w : Wd xCl E A s.heap H locs (xW E ad σ)) (hl : Cond.fieldLink own index "PageMachine$Tlb" "oddHalves" "[I" ∈ gt_bl) (hdg : decode b pc = .ok (.getfield index, 3)) (kk : W p l e R s m args below meth c H locs cells slots Q (F0 m (pc + 3) ls (.ref (ad 17) :: rest))) : W p l e R s m args below meth c H locs cells slots Q (F0 m pc ls (.ref (ad 3) :: rest)) :=
  rg hc w i_TL 3 rfl rfl 4 (by decide) rfl hl hdg kk
theorem g_AS_memory (hc : Cx xCl E A p s m args meth c b n r own) (w : Wd xCl E A s.heap H locs (xW E ad σ)) (hl : Cond.fieldLink own index "PageMachine$AddressSpace" "memory" "LPageMachine$Memory;" ∈ gt_bl) (hdg : decode b pc = .ok (.getfield index, 3)) (kk : W p l e R s m args below meth c H locs cells slots Q (F0 m (pc + 3) ls (.ref (ad 1) :: rest))) : W p l e R s m args below meth c H locs cells slots Q (F0 m pc ls (.ref (ad 4) :: rest)) :=
  rg hc w i_AS 4 rfl rfl 0 (by decide) rfl hl hdg kk
theorem g_AS_system (hc : Cx xCl E A p s m args meth c b n r own) (w : Wd xCl E A s.heap H locs (xW E ad σ)) (hl : Cond.fieldLink own index "PageMachine$AddressSpace" "system" "LPageMachine$SystemRegisters;" ∈ gt_bl) (hdg : decode b pc = .ok (.getfield index, 3)) (kk : W p l e R s m args below meth c H locs cells slots Q (F0 m (pc + 3) ls (.ref (ad 2) :: rest))) : W p l e R s m args below meth c H locs cells slots Q (F0 m pc ls (.ref (ad 4) :: rest)) :=
  rg hc w i_AS 4 rfl rfl 1 (by decide) rfl hl hdg kk
theorem g_AS_tlb (hc : Cx xCl E A p s m args meth c b n r own) (w : Wd xCl E A s.heap H locs (xW E ad σ)) (hl : Cond.fieldLink own index "PageMachine$AddressSpace" "tlb" "LPageMachine$Tlb;" ∈ gt_bl) (hdg : decode b pc = .ok (.getfield index, 3)) (kk : W p l e R s m args below meth c H locs cells slots Q (F0 m (pc + 3) ls (.ref (ad 3) :: rest))) : W p l e R s m args below meth c H locs cells slots Q (F0 m pc ls (.ref (ad 4) :: rest)) :=
  rg hc w i_AS 4 rfl rfl 2 (by decide) rfl hl hdg kk
theorem g_AS_asked (hc : Cx xCl E A p s m args meth c b n r own) (w : Wd xCl E A s.heap H locs (xW E ad σ)) (hl : Cond.fieldLink own index "PageMachine$AddressSpace" "asked" "I" ∈ gt_bl) (hdg : decode b pc = .ok (.getfield index, 3)) (kk : W p l e R s m args below meth c H locs cells slots Q (F0 m (pc + 3) ls (.int (x_asked σ) :: rest))) : W p l e R s m args below meth c H locs cells slots Q (F0 m pc ls (.ref (ad 4) :: rest)) :=
  rg hc w i_AS 4 rfl rfl 3 (by decide) rfl hl hdg kk
theorem p_AS_asked {v : Int32} (hc : Cx xCl E A p s m args meth c b n r own) (w : Wd xCl E A s.heap H locs (xW E ad σ)) (hl : Cond.fieldLink own index "PageMachine$AddressSpace" "asked" "I" ∈ gt_bl) (hdg : decode b pc = .ok (.putfield index, 3)) (kk : ∀ (σ1 : XS) (H1 : Heap) (locs1 : List Loc), xs_asked σ v = σ1 → Wd xCl E A s.heap H1 locs1 (xW E ad σ1) → W p l e R s m args below meth c H1 locs1 cells slots Q (F0 m (pc + 3) ls rest)) : W p l e R s m args below meth c H locs cells slots Q (F0 m pc ls (.int v :: .ref (ad 4) :: rest)) :=
  rp (ty := .int) hc w i_AS ty_AS tyok_AS nm_AS 4 rfl rfl 3 (by decide) rfl (by decide +kernel) rfl rfl (Nat.le_of_ble_eq_true rfl) (ws' := xW E ad (xs_asked σ v)) rfl hl hdg (fun H1 locs1 w1 => kk _ H1 locs1 rfl w1)
theorem g_CO_hi (hc : Cx xCl E A p s m args meth c b n r own) (w : Wd xCl E A s.heap H locs (xW E ad σ)) (hl : Cond.fieldLink own index "PageMachine$Core" "hi" "I" ∈ gt_bl) (hdg : decode b pc = .ok (.getfield index, 3)) (kk : W p l e R s m args below meth c H locs cells slots Q (F0 m (pc + 3) ls (.int (x_hi σ) :: rest))) : W p l e R s m args below meth c H locs cells slots Q (F0 m pc ls (.ref (ad 5) :: rest)) :=
  rg hc w i_CO 5 rfl rfl 0 (by decide) rfl hl hdg kk
theorem p_CO_hi {v : Int32} (hc : Cx xCl E A p s m args meth c b n r own) (w : Wd xCl E A s.heap H locs (xW E ad σ)) (hl : Cond.fieldLink own index "PageMachine$Core" "hi" "I" ∈ gt_bl) (hdg : decode b pc = .ok (.putfield index, 3)) (kk : ∀ (σ1 : XS) (H1 : Heap) (locs1 : List Loc), xs_hi σ v = σ1 → Wd xCl E A s.heap H1 locs1 (xW E ad σ1) → W p l e R s m args below meth c H1 locs1 cells slots Q (F0 m (pc + 3) ls rest)) : W p l e R s m args below meth c H locs cells slots Q (F0 m pc ls (.int v :: .ref (ad 5) :: rest)) :=
  rp (ty := .int) hc w i_CO ty_CO tyok_CO nm_CO 5 rfl rfl 0 (by decide) rfl (by decide +kernel) rfl rfl (Nat.le_of_ble_eq_true rfl) (ws' := xW E ad (xs_hi σ v)) rfl hl hdg (fun H1 locs1 w1 => kk _ H1 locs1 rfl w1)
theorem g_CO_lo (hc : Cx xCl E A p s m args meth c b n r own) (w : Wd xCl E A s.heap H locs (xW E ad σ)) (hl : Cond.fieldLink own index "PageMachine$Core" "lo" "I" ∈ gt_bl) (hdg : decode b pc = .ok (.getfield index, 3)) (kk : W p l e R s m args below meth c H locs cells slots Q (F0 m (pc + 3) ls (.int (x_lo σ) :: rest))) : W p l e R s m args below meth c H locs cells slots Q (F0 m pc ls (.ref (ad 5) :: rest)) :=
  rg hc w i_CO 5 rfl rfl 1 (by decide) rfl hl hdg kk
theorem p_CO_lo {v : Int32} (hc : Cx xCl E A p s m args meth c b n r own) (w : Wd xCl E A s.heap H locs (xW E ad σ)) (hl : Cond.fieldLink own index "PageMachine$Core" "lo" "I" ∈ gt_bl) (hdg : decode b pc = .ok (.putfield index, 3)) (kk : ∀ (σ1 : XS) (H1 : Heap) (locs1 : List Loc), xs_lo σ v = σ1 → Wd xCl E A s.heap H1 locs1 (xW E ad σ1) → W p l e R s m args below meth c H1 locs1 cells slots Q (F0 m (pc + 3) ls rest)) : W p l e R s m args below meth c H locs cells slots Q (F0 m pc ls (.int v :: .ref (ad 5) :: rest)) :=
  rp (ty := .int) hc w i_CO ty_CO tyok_CO nm_CO 5 rfl rfl 1 (by decide) rfl (by decide +kernel) rfl rfl (Nat.le_of_ble_eq_true rfl) (ws' := xW E ad (xs_lo σ v)) rfl hl hdg (fun H1 locs1 w1 => kk _ H1 locs1 rfl w1)
theorem g_CO_pc (hc : Cx xCl E A p s m args meth c b n r own) (w : Wd xCl E A s.heap H locs (xW E ad σ)) (hl : Cond.fieldLink own index "PageMachine$Core" "pc" "I" ∈ gt_bl) (hdg : decode b pc = .ok (.getfield index, 3)) (kk : W p l e R s m args below meth c H locs cells slots Q (F0 m (pc + 3) ls (.int (x_pc σ) :: rest))) : W p l e R s m args below meth c H locs cells slots Q (F0 m pc ls (.ref (ad 5) :: rest)) :=
  rg hc w i_CO 5 rfl rfl 2 (by decide) rfl hl hdg kk
theorem p_CO_pc {v : Int32} (hc : Cx xCl E A p s m args meth c b n r own) (w : Wd xCl E A s.heap H locs (xW E ad σ)) (hl : Cond.fieldLink own index "PageMachine$Core" "pc" "I" ∈ gt_bl) (hdg : decode b pc = .ok (.putfield index, 3)) (kk : ∀ (σ1 : XS) (H1 : Heap) (locs1 : List Loc), xs_pc σ v = σ1 → Wd xCl E A s.heap H1 locs1 (xW E ad σ1) → W p l e R s m args below meth c H1 locs1 cells slots Q (F0 m (pc + 3) ls rest)) : W p l e R s m args below meth c H locs cells slots Q (F0 m pc ls (.int v :: .ref (ad 5) :: rest)) :=
  rp (ty := .int) hc w i_CO ty_CO tyok_CO nm_CO 5 rfl rfl 2 (by decide) rfl (by decide +kernel) rfl rfl (Nat.le_of_ble_eq_true rfl) (ws' := xW E ad (xs_pc σ v)) rfl hl hdg (fun H1 locs1 w1 => kk _ H1 locs1 rfl w1)
theorem g_CO_link (hc : Cx xCl E A p s m args meth c b n r own) (w : Wd xCl E A s.heap H locs (xW E ad σ)) (hl : Cond.fieldLink own index "PageMachine$Core" "link" "I" ∈ gt_bl) (hdg : decode b pc = .ok (.getfield index, 3)) (kk : W p l e R s m args below meth c H locs cells slots Q (F0 m (pc + 3) ls (.int (x_link σ) :: rest))) : W p l e R s m args below meth c H locs cells slots Q (F0 m pc ls (.ref (ad 5) :: rest)) :=
  rg hc w i_CO 5 rfl rfl 3 (by decide) rfl hl hdg kk
theorem p_CO_link {v : Int32} (hc : Cx xCl E A p s m args meth c b n r own) (w : Wd xCl E A s.heap H locs (xW E ad σ)) (hl : Cond.fieldLink own index "PageMachine$Core" "link" "I" ∈ gt_bl) (hdg : decode b pc = .ok (.putfield index, 3)) (kk : ∀ (σ1 : XS) (H1 : Heap) (locs1 : List Loc), xs_link σ v = σ1 → Wd xCl E A s.heap H1 locs1 (xW E ad σ1) → W p l e R s m args below meth c H1 locs1 cells slots Q (F0 m (pc + 3) ls rest)) : W p l e R s m args below meth c H locs cells slots Q (F0 m pc ls (.int v :: .ref (ad 5) :: rest)) :=
  rp (ty := .int) hc w i_CO ty_CO tyok_CO nm_CO 5 rfl rfl 3 (by decide) rfl (by decide +kernel) rfl rfl (Nat.le_of_ble_eq_true rfl) (ws' := xW E ad (xs_link σ v)) rfl hl hdg (fun H1 locs1 w1 => kk _ H1 locs1 rfl w1)
theorem g_CO_inDelaySlot (hc : Cx xCl E A p s m args meth c b n r own) (w : Wd xCl E A s.heap H locs (xW E ad σ)) (hl : Cond.fieldLink own index "PageMachine$Core" "inDelaySlot" "Z" ∈ gt_bl) (hdg : decode b pc = .ok (.getfield index, 3)) (kk : W p l e R s m args below meth c H locs cells slots Q (F0 m (pc + 3) ls (.int (zb (x_inds σ)) :: rest))) : W p l e R s m args below meth c H locs cells slots Q (F0 m pc ls (.ref (ad 5) :: rest)) :=
  rg hc w i_CO 5 rfl rfl 4 (by decide) rfl hl hdg kk
theorem p_CO_inDelaySlot {v : Bool} (hc : Cx xCl E A p s m args meth c b n r own) (w : Wd xCl E A s.heap H locs (xW E ad σ)) (hl : Cond.fieldLink own index "PageMachine$Core" "inDelaySlot" "Z" ∈ gt_bl) (hdg : decode b pc = .ok (.putfield index, 3)) (kk : ∀ (σ1 : XS) (H1 : Heap) (locs1 : List Loc), xs_inds σ v = σ1 → Wd xCl E A s.heap H1 locs1 (xW E ad σ1) → W p l e R s m args below meth c H1 locs1 cells slots Q (F0 m (pc + 3) ls rest)) : W p l e R s m args below meth c H locs cells slots Q (F0 m pc ls (.int (zb v) :: .ref (ad 5) :: rest)) :=
  rp (ty := .boolean) hc w i_CO ty_CO tyok_CO nm_CO 5 rfl rfl 4 (by decide) rfl (by decide +kernel) (zb_n v) (zb_f v) (Nat.le_of_ble_eq_true rfl) (ws' := xW E ad (xs_inds σ v)) rfl hl hdg (fun H1 locs1 w1 => kk _ H1 locs1 rfl w1)
theorem g_CO_registers (hc : Cx xCl E A p s m args meth c b n r own) (w : Wd xCl E A s.heap H locs (xW E ad σ)) (hl : Cond.fieldLink own index "PageMachine$Core" "registers" "[I" ∈ gt_bl) (hdg : decode b pc = .ok (.getfield index, 3)) (kk : W p l e R s m args below meth c H locs cells slots Q (F0 m (pc + 3) ls (.ref (ad 18) :: rest))) : W p l e R s m args below meth c H locs cells slots Q (F0 m pc ls (.ref (ad 5) :: rest)) :=
  rg hc w i_CO 5 rfl rfl 5 (by decide) rfl hl hdg kk
theorem g_CO_behindSlot (hc : Cx xCl E A p s m args meth c b n r own) (w : Wd xCl E A s.heap H locs (xW E ad σ)) (hl : Cond.fieldLink own index "PageMachine$Core" "behindSlot" "I" ∈ gt_bl) (hdg : decode b pc = .ok (.getfield index, 3)) (kk : W p l e R s m args below meth c H locs cells slots Q (F0 m (pc + 3) ls (.int (x_behind σ) :: rest))) : W p l e R s m args below meth c H locs cells slots Q (F0 m pc ls (.ref (ad 5) :: rest)) :=
  rg hc w i_CO 5 rfl rfl 6 (by decide) rfl hl hdg kk
theorem p_CO_behindSlot {v : Int32} (hc : Cx xCl E A p s m args meth c b n r own) (w : Wd xCl E A s.heap H locs (xW E ad σ)) (hl : Cond.fieldLink own index "PageMachine$Core" "behindSlot" "I" ∈ gt_bl) (hdg : decode b pc = .ok (.putfield index, 3)) (kk : ∀ (σ1 : XS) (H1 : Heap) (locs1 : List Loc), xs_behind σ v = σ1 → Wd xCl E A s.heap H1 locs1 (xW E ad σ1) → W p l e R s m args below meth c H1 locs1 cells slots Q (F0 m (pc + 3) ls rest)) : W p l e R s m args below meth c H locs cells slots Q (F0 m pc ls (.int v :: .ref (ad 5) :: rest)) :=
  rp (ty := .int) hc w i_CO ty_CO tyok_CO nm_CO 5 rfl rfl 6 (by decide) rfl (by decide +kernel) rfl rfl (Nat.le_of_ble_eq_true rfl) (ws' := xW E ad (xs_behind σ v)) rfl hl hdg (fun H1 locs1 w1 => kk _ H1 locs1 rfl w1)
theorem g_CO_instruction (hc : Cx xCl E A p s m args meth c b n r own) (w : Wd xCl E A s.heap H locs (xW E ad σ)) (hl : Cond.fieldLink own index "PageMachine$Core" "instruction" "I" ∈ gt_bl) (hdg : decode b pc = .ok (.getfield index, 3)) (kk : W p l e R s m args below meth c H locs cells slots Q (F0 m (pc + 3) ls (.int (x_instr σ) :: rest))) : W p l e R s m args below meth c H locs cells slots Q (F0 m pc ls (.ref (ad 5) :: rest)) :=
  rg hc w i_CO 5 rfl rfl 7 (by decide) rfl hl hdg kk
theorem p_CO_instruction {v : Int32} (hc : Cx xCl E A p s m args meth c b n r own) (w : Wd xCl E A s.heap H locs (xW E ad σ)) (hl : Cond.fieldLink own index "PageMachine$Core" "instruction" "I" ∈ gt_bl) (hdg : decode b pc = .ok (.putfield index, 3)) (kk : ∀ (σ1 : XS) (H1 : Heap) (locs1 : List Loc), xs_instr σ v = σ1 → Wd xCl E A s.heap H1 locs1 (xW E ad σ1) → W p l e R s m args below meth c H1 locs1 cells slots Q (F0 m (pc + 3) ls rest)) : W p l e R s m args below meth c H locs cells slots Q (F0 m pc ls (.int v :: .ref (ad 5) :: rest)) :=
  rp (ty := .int) hc w i_CO ty_CO tyok_CO nm_CO 5 rfl rfl 7 (by decide) rfl (by decide +kernel) rfl rfl (Nat.le_of_ble_eq_true rfl) (ws' := xW E ad (xs_instr σ v)) rfl hl hdg (fun H1 locs1 w1 => kk _ H1 locs1 rfl w1)
theorem g_CO_nextPc (hc : Cx xCl E A p s m args meth c b n r own) (w : Wd xCl E A s.heap H locs (xW E ad σ)) (hl : Cond.fieldLink own index "PageMachine$Core" "nextPc" "I" ∈ gt_bl) (hdg : decode b pc = .ok (.getfield index, 3)) (kk : W p l e R s m args below meth c H locs cells slots Q (F0 m (pc + 3) ls (.int (x_nextPc σ) :: rest))) : W p l e R s m args below meth c H locs cells slots Q (F0 m pc ls (.ref (ad 5) :: rest)) :=
  rg hc w i_CO 5 rfl rfl 8 (by decide) rfl hl hdg kk
theorem p_CO_nextPc {v : Int32} (hc : Cx xCl E A p s m args meth c b n r own) (w : Wd xCl E A s.heap H locs (xW E ad σ)) (hl : Cond.fieldLink own index "PageMachine$Core" "nextPc" "I" ∈ gt_bl) (hdg : decode b pc = .ok (.putfield index, 3)) (kk : ∀ (σ1 : XS) (H1 : Heap) (locs1 : List Loc), xs_nextPc σ v = σ1 → Wd xCl E A s.heap H1 locs1 (xW E ad σ1) → W p l e R s m args below meth c H1 locs1 cells slots Q (F0 m (pc + 3) ls rest)) : W p l e R s m args below meth c H locs cells slots Q (F0 m pc ls (.int v :: .ref (ad 5) :: rest)) :=
  rp (ty := .int) hc w i_CO ty_CO tyok_CO nm_CO 5 rfl rfl 8 (by decide) rfl (by decide +kernel) rfl rfl (Nat.le_of_ble_eq_true rfl) (ws' := xW E ad (xs_nextPc σ v)) rfl hl hdg (fun H1 locs1 w1 => kk _ H1 locs1 rfl w1)
theorem g_CO_nextInDelaySlot (hc : Cx xCl E A p s m args meth c b n r own) (w : Wd xCl E A s.heap H locs (xW E ad σ)) (hl : Cond.fieldLink own index "PageMachine$Core" "nextInDelaySlot" "Z" ∈ gt_bl) (hdg : decode b pc = .ok (.getfield index, 3)) (kk : W p l e R s m args below meth c H locs cells slots Q (F0 m (pc + 3) ls (.int (zb (x_nextds σ)) :: rest))) : W p l e R s m args below meth c H locs cells slots Q (F0 m pc ls (.ref (ad 5) :: rest)) :=
  rg hc w i_CO 5 rfl rfl 9 (by decide) rfl hl hdg kk
theorem p_CO_nextInDelaySlot {v : Bool} (hc : Cx xCl E A p s m args meth c b n r own) (w : Wd xCl E A s.heap H locs (xW E ad σ)) (hl : Cond.fieldLink own index "PageMachine$Core" "nextInDelaySlot" "Z" ∈ gt_bl) (hdg : decode b pc = .ok (.putfield index, 3)) (kk : ∀ (σ1 : XS) (H1 : Heap) (locs1 : List Loc), xs_nextds σ v = σ1 → Wd xCl E A s.heap H1 locs1 (xW E ad σ1) → W p l e R s m args below meth c H1 locs1 cells slots Q (F0 m (pc + 3) ls rest)) : W p l e R s m args below meth c H locs cells slots Q (F0 m pc ls (.int (zb v) :: .ref (ad 5) :: rest)) :=
  rp (ty := .boolean) hc w i_CO ty_CO tyok_CO nm_CO 5 rfl rfl 9 (by decide) rfl (by decide +kernel) (zb_n v) (zb_f v) (Nat.le_of_ble_eq_true rfl) (ws' := xW E ad (xs_nextds σ v)) rfl hl hdg (fun H1 locs1 w1 => kk _ H1 locs1 rfl w1)
theorem g_PR_core (hc : Cx xCl E A p s m args meth c b n r own) (w : Wd xCl E A s.heap H locs (xW E ad σ)) (hl : Cond.fieldLink own index "PageMachine$Processor" "core" "LPageMachine$Core;" ∈ gt_bl) (hdg : decode b pc = .ok (.getfield index, 3)) (kk : W p l e R s m args below meth c H locs cells slots Q (F0 m (pc + 3) ls (.ref (ad 5) :: rest))) : W p l e R s m args below meth c H locs cells slots Q (F0 m pc ls (.ref (ad 6) :: rest)) :=
  rg hc w i_PR 6 rfl rfl 0 (by decide) rfl hl hdg kk
theorem g_PR_memory (hc : Cx xCl E A p s m args meth c b n r own) (w : Wd xCl E A s.heap H locs (xW E ad σ)) (hl : Cond.fieldLink own index "PageMachine$Processor" "memory" "LPageMachine$Memory;" ∈ gt_bl) (hdg : decode b pc = .ok (.getfield index, 3)) (kk : W p l e R s m args below meth c H locs cells slots Q (F0 m (pc + 3) ls (.ref (ad 1) :: rest))) : W p l e R s m args below meth c H locs cells slots Q (F0 m pc ls (.ref (ad 6) :: rest)) :=
  rg hc w i_PR 6 rfl rfl 1 (by decide) rfl hl hdg kk
theorem g_PR_system (hc : Cx xCl E A p s m args meth c b n r own) (w : Wd xCl E A s.heap H locs (xW E ad σ)) (hl : Cond.fieldLink own index "PageMachine$Processor" "system" "LPageMachine$SystemRegisters;" ∈ gt_bl) (hdg : decode b pc = .ok (.getfield index, 3)) (kk : W p l e R s m args below meth c H locs cells slots Q (F0 m (pc + 3) ls (.ref (ad 2) :: rest))) : W p l e R s m args below meth c H locs cells slots Q (F0 m pc ls (.ref (ad 6) :: rest)) :=
  rg hc w i_PR 6 rfl rfl 2 (by decide) rfl hl hdg kk
theorem g_PR_space (hc : Cx xCl E A p s m args meth c b n r own) (w : Wd xCl E A s.heap H locs (xW E ad σ)) (hl : Cond.fieldLink own index "PageMachine$Processor" "space" "LPageMachine$AddressSpace;" ∈ gt_bl) (hdg : decode b pc = .ok (.getfield index, 3)) (kk : W p l e R s m args below meth c H locs cells slots Q (F0 m (pc + 3) ls (.ref (ad 4) :: rest))) : W p l e R s m args below meth c H locs cells slots Q (F0 m pc ls (.ref (ad 6) :: rest)) :=
  rg hc w i_PR 6 rfl rfl 3 (by decide) rfl hl hdg kk
theorem g_PR_arithmetic (hc : Cx xCl E A p s m args meth c b n r own) (w : Wd xCl E A s.heap H locs (xW E ad σ)) (hl : Cond.fieldLink own index "PageMachine$Processor" "arithmetic" "LPageMachine$Arithmetic;" ∈ gt_bl) (hdg : decode b pc = .ok (.getfield index, 3)) (kk : W p l e R s m args below meth c H locs cells slots Q (F0 m (pc + 3) ls (.ref (ad 7) :: rest))) : W p l e R s m args below meth c H locs cells slots Q (F0 m pc ls (.ref (ad 6) :: rest)) :=
  rg hc w i_PR 6 rfl rfl 4 (by decide) rfl hl hdg kk
theorem g_PR_branches (hc : Cx xCl E A p s m args meth c b n r own) (w : Wd xCl E A s.heap H locs (xW E ad σ)) (hl : Cond.fieldLink own index "PageMachine$Processor" "branches" "LPageMachine$Branches;" ∈ gt_bl) (hdg : decode b pc = .ok (.getfield index, 3)) (kk : W p l e R s m args below meth c H locs cells slots Q (F0 m (pc + 3) ls (.ref (ad 8) :: rest))) : W p l e R s m args below meth c H locs cells slots Q (F0 m pc ls (.ref (ad 6) :: rest)) :=
  rg hc w i_PR 6 rfl rfl 5 (by decide) rfl hl hdg kk
theorem g_PR_loadsAndStores (hc : Cx xCl E A p s m args meth c b n r own) (w : Wd xCl E A s.heap H locs (xW E ad σ)) (hl : Cond.fieldLink own index "PageMachine$Processor" "loadsAndStores" "LPageMachine$LoadsAndStores;" ∈ gt_bl) (hdg : decode b pc = .ok (.getfield index, 3)) (kk : W p l e R s m args below meth c H locs cells slots Q (F0 m (pc + 3) ls (.ref (ad 9) :: rest))) : W p l e R s m args below meth c H locs cells slots Q (F0 m pc ls (.ref (ad 6) :: rest)) :=
  rg hc w i_PR 6 rfl rfl 6 (by decide) rfl hl hdg kk
theorem g_PR_coprocessor (hc : Cx xCl E A p s m args meth c b n r own) (w : Wd xCl E A s.heap H locs (xW E ad σ)) (hl : Cond.fieldLink own index "PageMachine$Processor" "coprocessor" "LPageMachine$Coprocessor;" ∈ gt_bl) (hdg : decode b pc = .ok (.getfield index, 3)) (kk : W p l e R s m args below meth c H locs cells slots Q (F0 m (pc + 3) ls (.ref (ad 10) :: rest))) : W p l e R s m args below meth c H locs cells slots Q (F0 m pc ls (.ref (ad 6) :: rest)) :=
  rg hc w i_PR 6 rfl rfl 7 (by decide) rfl hl hdg kk
theorem g_PR_faultsByCode (hc : Cx xCl E A p s m args meth c b n r own) (w : Wd xCl E A s.heap H locs (xW E ad σ)) (hl : Cond.fieldLink own index "PageMachine$Processor" "faultsByCode" "[I" ∈ gt_bl) (hdg : decode b pc = .ok (.getfield index, 3)) (kk : W p l e R s m args below meth c H locs cells slots Q (F0 m (pc + 3) ls (.ref (ad 19) :: rest))) : W p l e R s m args below meth c H locs cells slots Q (F0 m pc ls (.ref (ad 6) :: rest)) :=
  rg hc w i_PR 6 rfl rfl 8 (by decide) rfl hl hdg kk
theorem g_PR_stepsDone (hc : Cx xCl E A p s m args meth c b n r own) (w : Wd xCl E A s.heap H locs (xW E ad σ)) (hl : Cond.fieldLink own index "PageMachine$Processor" "stepsDone" "I" ∈ gt_bl) (hdg : decode b pc = .ok (.getfield index, 3)) (kk : W p l e R s m args below meth c H locs cells slots Q (F0 m (pc + 3) ls (.int (x_steps σ) :: rest))) : W p l e R s m args below meth c H locs cells slots Q (F0 m pc ls (.ref (ad 6) :: rest)) :=
  rg hc w i_PR 6 rfl rfl 9 (by decide) rfl hl hdg kk
theorem p_PR_stepsDone {v : Int32} (hc : Cx xCl E A p s m args meth c b n r own) (w : Wd xCl E A s.heap H locs (xW E ad σ)) (hl : Cond.fieldLink own index "PageMachine$Processor" "stepsDone" "I" ∈ gt_bl) (hdg : decode b pc = .ok (.putfield index, 3)) (kk : ∀ (σ1 : XS) (H1 : Heap) (locs1 : List Loc), xs_steps σ v = σ1 → Wd xCl E A s.heap H1 locs1 (xW E ad σ1) → W p l e R s m args below meth c H1 locs1 cells slots Q (F0 m (pc + 3) ls rest)) : W p l e R s m args below meth c H locs cells slots Q (F0 m pc ls (.int v :: .ref (ad 6) :: rest)) :=
  rp (ty := .int) hc w i_PR ty_PR tyok_PR nm_PR 6 rfl rfl 9 (by decide) rfl (by decide +kernel) rfl rfl (Nat.le_of_ble_eq_true rfl) (ws' := xW E ad (xs_steps σ v)) rfl hl hdg (fun H1 locs1 w1 => kk _ H1 locs1 rfl w1)
theorem g_AR_core (hc : Cx xCl E A p s m args meth c b n r own) (w : Wd xCl E A s.heap H locs (xW E ad σ)) (hl : Cond.fieldLink own index "PageMachine$Arithmetic" "core" "LPageMachine$Core;" ∈ gt_bl) (hdg : decode b pc = .ok (.getfield index, 3)) (kk : W p l e R s m args below meth c H locs cells slots Q (F0 m (pc + 3) ls (.ref (ad 5) :: rest))) : W p l e R s m args below meth c H locs cells slots Q (F0 m pc ls (.ref (ad 7) :: rest)) :=
  rg hc w i_AR 7 rfl rfl 0 (by decide) rfl hl hdg kk
theorem g_BR_core (hc : Cx xCl E A p s m args meth c b n r own) (w : Wd xCl E A s.heap H locs (xW E ad σ)) (hl : Cond.fieldLink own index "PageMachine$Branches" "core" "LPageMachine$Core;" ∈ gt_bl) (hdg : decode b pc = .ok (.getfield index, 3)) (kk : W p l e R s m args below meth c H locs cells slots Q (F0 m (pc + 3) ls (.ref (ad 5) :: rest))) : W p l e R s m args below meth c H locs cells slots Q (F0 m pc ls (.ref (ad 8) :: rest)) :=
  rg hc w i_BR 8 rfl rfl 0 (by decide) rfl hl hdg kk
theorem g_LS_core (hc : Cx xCl E A p s m args meth c b n r own) (w : Wd xCl E A s.heap H locs (xW E ad σ)) (hl : Cond.fieldLink own index "PageMachine$LoadsAndStores" "core" "LPageMachine$Core;" ∈ gt_bl) (hdg : decode b pc = .ok (.getfield index, 3)) (kk : W p l e R s m args below meth c H locs cells slots Q (F0 m (pc + 3) ls (.ref (ad 5) :: rest))) : W p l e R s m args below meth c H locs cells slots Q (F0 m pc ls (.ref (ad 9) :: rest)) :=
  rg hc w i_LS 9 rfl rfl 0 (by decide) rfl hl hdg kk
theorem g_LS_memory (hc : Cx xCl E A p s m args meth c b n r own) (w : Wd xCl E A s.heap H locs (xW E ad σ)) (hl : Cond.fieldLink own index "PageMachine$LoadsAndStores" "memory" "LPageMachine$Memory;" ∈ gt_bl) (hdg : decode b pc = .ok (.getfield index, 3)) (kk : W p l e R s m args below meth c H locs cells slots Q (F0 m (pc + 3) ls (.ref (ad 1) :: rest))) : W p l e R s m args below meth c H locs cells slots Q (F0 m pc ls (.ref (ad 9) :: rest)) :=
  rg hc w i_LS 9 rfl rfl 1 (by decide) rfl hl hdg kk
theorem g_LS_space (hc : Cx xCl E A p s m args meth c b n r own) (w : Wd xCl E A s.heap H locs (xW E ad σ)) (hl : Cond.fieldLink own index "PageMachine$LoadsAndStores" "space" "LPageMachine$AddressSpace;" ∈ gt_bl) (hdg : decode b pc = .ok (.getfield index, 3)) (kk : W p l e R s m args below meth c H locs cells slots Q (F0 m (pc + 3) ls (.ref (ad 4) :: rest))) : W p l e R s m args below meth c H locs cells slots Q (F0 m pc ls (.ref (ad 9) :: rest)) :=
  rg hc w i_LS 9 rfl rfl 2 (by decide) rfl hl hdg kk
theorem g_CP_core (hc : Cx xCl E A p s m args meth c b n r own) (w : Wd xCl E A s.heap H locs (xW E ad σ)) (hl : Cond.fieldLink own index "PageMachine$Coprocessor" "core" "LPageMachine$Core;" ∈ gt_bl) (hdg : decode b pc = .ok (.getfield index, 3)) (kk : W p l e R s m args below meth c H locs cells slots Q (F0 m (pc + 3) ls (.ref (ad 5) :: rest))) : W p l e R s m args below meth c H locs cells slots Q (F0 m pc ls (.ref (ad 10) :: rest)) :=
  rg hc w i_CP 10 rfl rfl 0 (by decide) rfl hl hdg kk
theorem g_CP_system (hc : Cx xCl E A p s m args meth c b n r own) (w : Wd xCl E A s.heap H locs (xW E ad σ)) (hl : Cond.fieldLink own index "PageMachine$Coprocessor" "system" "LPageMachine$SystemRegisters;" ∈ gt_bl) (hdg : decode b pc = .ok (.getfield index, 3)) (kk : W p l e R s m args below meth c H locs cells slots Q (F0 m (pc + 3) ls (.ref (ad 2) :: rest))) : W p l e R s m args below meth c H locs cells slots Q (F0 m pc ls (.ref (ad 10) :: rest)) :=
  rg hc w i_CP 10 rfl rfl 1 (by decide) rfl hl hdg kk
theorem g_CP_tlb (hc : Cx xCl E A p s m args meth c b n r own) (w : Wd xCl E A s.heap H locs (xW E ad σ)) (hl : Cond.fieldLink own index "PageMachine$Coprocessor" "tlb" "LPageMachine$Tlb;" ∈ gt_bl) (hdg : decode b pc = .ok (.getfield index, 3)) (kk : W p l e R s m args below meth c H locs cells slots Q (F0 m (pc + 3) ls (.ref (ad 3) :: rest))) : W p l e R s m args below meth c H locs cells slots Q (F0 m pc ls (.ref (ad 10) :: rest)) :=
  rg hc w i_CP 10 rfl rfl 2 (by decide) rfl hl hdg kk
theorem a_ME_words {i : Int32} (hc : Cx xCl E A p s m args meth c b n r own) (w : Wd xCl E A s.heap H locs (xW E ad σ)) (hin : vp_in i 65536) (hdg : decode b pc = .ok (.iaload, 1)) (kk : W p l e R s m args below meth c H locs cells slots Q (F0 m (pc + 1) ls (.int (x_words σ i.toNatClampNeg) :: rest))) : W p l e R s m args below meth c H locs cells slots Q (F0 m pc ls (.int i :: .ref (ad 11) :: rest)) :=
  ra hc w 11 rfl hin hdg kk
theorem s_ME_words {i v : Int32} (hc : Cx xCl E A p s m args meth c b n r own) (w : Wd xCl E A s.heap H locs (xW E ad σ)) (hin : vp_in i 65536) (hdg : decode b pc = .ok (.iastore, 1)) (kk : ∀ (σ1 : XS) (H1 : Heap) (locs1 : List Loc), xs_words σ (upd (x_words σ) i.toNatClampNeg v) = σ1 → Wd xCl E A s.heap H1 locs1 (xW E ad σ1) → W p l e R s m args below meth c H1 locs1 cells slots Q (F0 m (pc + 1) ls rest)) : W p l e R s m args below meth c H locs cells slots Q (F0 m pc ls (.int v :: .int i :: .ref (ad 11) :: rest)) :=
  rs hc w 11 rfl (ws' := xW E ad (xs_words σ (upd (x_words σ) i.toNatClampNeg v))) rfl hin hdg (fun H1 locs1 w1 => kk _ H1 locs1 rfl w1)
theorem a_SR_values {i : Int32} (hc : Cx xCl E A p s m args meth c b n r own) (w : Wd xCl E A s.heap H locs (xW E ad σ)) (hin : vp_in i 32) (hdg : decode b pc = .ok (.iaload, 1)) (kk : W p l e R s m args below meth c H locs cells slots Q (F0 m (pc + 1) ls (.int (x_values σ i.toNatClampNeg) :: rest))) : W p l e R s m args below meth c H locs cells slots Q (F0 m pc ls (.int i :: .ref (ad 12) :: rest)) :=
  ra hc w 12 rfl hin hdg kk
theorem s_SR_values {i v : Int32} (hc : Cx xCl E A p s m args meth c b n r own) (w : Wd xCl E A s.heap H locs (xW E ad σ)) (hin : vp_in i 32) (hdg : decode b pc = .ok (.iastore, 1)) (kk : ∀ (σ1 : XS) (H1 : Heap) (locs1 : List Loc), xs_values σ (upd (x_values σ) i.toNatClampNeg v) = σ1 → Wd xCl E A s.heap H1 locs1 (xW E ad σ1) → W p l e R s m args below meth c H1 locs1 cells slots Q (F0 m (pc + 1) ls rest)) : W p l e R s m args below meth c H locs cells slots Q (F0 m pc ls (.int v :: .int i :: .ref (ad 12) :: rest)) :=
  rs hc w 12 rfl (ws' := xW E ad (xs_values σ (upd (x_values σ) i.toNatClampNeg v))) rfl hin hdg (fun H1 locs1 w1 => kk _ H1 locs1 rfl w1)
theorem a_TL_pages {i : Int32} (hc : Cx xCl E A p s m args meth c b n r own) (w : Wd xCl E A s.heap H locs (xW E ad σ)) (hin : vp_in i 32) (hdg : decode b pc = .ok (.iaload, 1)) (kk : W p l e R s m args below meth c H locs cells slots Q (F0 m (pc + 1) ls (.int (x_pages σ i.toNatClampNeg) :: rest))) : W p l e R s m args below meth c H locs cells slots Q (F0 m pc ls (.int i :: .ref (ad 13) :: rest)) :=
  ra hc w 13 rfl hin hdg kk
theorem s_TL_pages {i v : Int32} (hc : Cx xCl E A p s m args meth c b n r own) (w : Wd xCl E A s.heap H locs (xW E ad σ)) (hin : vp_in i 32) (hdg : decode b pc = .ok (.iastore, 1)) (kk : ∀ (σ1 : XS) (H1 : Heap) (locs1 : List Loc), xs_pages σ (upd (x_pages σ) i.toNatClampNeg v) = σ1 → Wd xCl E A s.heap H1 locs1 (xW E ad σ1) → W p l e R s m args below meth c H1 locs1 cells slots Q (F0 m (pc + 1) ls rest)) : W p l e R s m args below meth c H locs cells slots Q (F0 m pc ls (.int v :: .int i :: .ref (ad 13) :: rest)) :=
  rs hc w 13 rfl (ws' := xW E ad (xs_pages σ (upd (x_pages σ) i.toNatClampNeg v))) rfl hin hdg (fun H1 locs1 w1 => kk _ H1 locs1 rfl w1)
theorem a_TL_asids {i : Int32} (hc : Cx xCl E A p s m args meth c b n r own) (w : Wd xCl E A s.heap H locs (xW E ad σ)) (hin : vp_in i 32) (hdg : decode b pc = .ok (.iaload, 1)) (kk : W p l e R s m args below meth c H locs cells slots Q (F0 m (pc + 1) ls (.int (x_asids σ i.toNatClampNeg) :: rest))) : W p l e R s m args below meth c H locs cells slots Q (F0 m pc ls (.int i :: .ref (ad 14) :: rest)) :=
  ra hc w 14 rfl hin hdg kk
theorem s_TL_asids {i v : Int32} (hc : Cx xCl E A p s m args meth c b n r own) (w : Wd xCl E A s.heap H locs (xW E ad σ)) (hin : vp_in i 32) (hdg : decode b pc = .ok (.iastore, 1)) (kk : ∀ (σ1 : XS) (H1 : Heap) (locs1 : List Loc), xs_asids σ (upd (x_asids σ) i.toNatClampNeg v) = σ1 → Wd xCl E A s.heap H1 locs1 (xW E ad σ1) → W p l e R s m args below meth c H1 locs1 cells slots Q (F0 m (pc + 1) ls rest)) : W p l e R s m args below meth c H locs cells slots Q (F0 m pc ls (.int v :: .int i :: .ref (ad 14) :: rest)) :=
  rs hc w 14 rfl (ws' := xW E ad (xs_asids σ (upd (x_asids σ) i.toNatClampNeg v))) rfl hin hdg (fun H1 locs1 w1 => kk _ H1 locs1 rfl w1)
theorem a_TL_globals {i : Int32} (hc : Cx xCl E A p s m args meth c b n r own) (w : Wd xCl E A s.heap H locs (xW E ad σ)) (hin : vp_in i 32) (hdg : decode b pc = .ok (.iaload, 1)) (kk : W p l e R s m args below meth c H locs cells slots Q (F0 m (pc + 1) ls (.int (x_globals σ i.toNatClampNeg) :: rest))) : W p l e R s m args below meth c H locs cells slots Q (F0 m pc ls (.int i :: .ref (ad 15) :: rest)) :=
  ra hc w 15 rfl hin hdg kk
theorem s_TL_globals {i v : Int32} (hc : Cx xCl E A p s m args meth c b n r own) (w : Wd xCl E A s.heap H locs (xW E ad σ)) (hin : vp_in i 32) (hdg : decode b pc = .ok (.iastore, 1)) (kk : ∀ (σ1 : XS) (H1 : Heap) (locs1 : List Loc), xs_globals σ (upd (x_globals σ) i.toNatClampNeg v) = σ1 → Wd xCl E A s.heap H1 locs1 (xW E ad σ1) → W p l e R s m args below meth c H1 locs1 cells slots Q (F0 m (pc + 1) ls rest)) : W p l e R s m args below meth c H locs cells slots Q (F0 m pc ls (.int v :: .int i :: .ref (ad 15) :: rest)) :=
  rs hc w 15 rfl (ws' := xW E ad (xs_globals σ (upd (x_globals σ) i.toNatClampNeg v))) rfl hin hdg (fun H1 locs1 w1 => kk _ H1 locs1 rfl w1)
theorem a_TL_evenHalves {i : Int32} (hc : Cx xCl E A p s m args meth c b n r own) (w : Wd xCl E A s.heap H locs (xW E ad σ)) (hin : vp_in i 32) (hdg : decode b pc = .ok (.iaload, 1)) (kk : W p l e R s m args below meth c H locs cells slots Q (F0 m (pc + 1) ls (.int (x_even σ i.toNatClampNeg) :: rest))) : W p l e R s m args below meth c H locs cells slots Q (F0 m pc ls (.int i :: .ref (ad 16) :: rest)) :=
  ra hc w 16 rfl hin hdg kk
theorem s_TL_evenHalves {i v : Int32} (hc : Cx xCl E A p s m args meth c b n r own) (w : Wd xCl E A s.heap H locs (xW E ad σ)) (hin : vp_in i 32) (hdg : decode b pc = .ok (.iastore, 1)) (kk : ∀ (σ1 : XS) (H1 : Heap) (locs1 : List Loc), xs_even σ (upd (x_even σ) i.toNatClampNeg v) = σ1 → Wd xCl E A s.heap H1 locs1 (xW E ad σ1) → W p l e R s m args below meth c H1 locs1 cells slots Q (F0 m (pc + 1) ls rest)) : W p l e R s m args below meth c H locs cells slots Q (F0 m pc ls (.int v :: .int i :: .ref (ad 16) :: rest)) :=
  rs hc w 16 rfl (ws' := xW E ad (xs_even σ (upd (x_even σ) i.toNatClampNeg v))) rfl hin hdg (fun H1 locs1 w1 => kk _ H1 locs1 rfl w1)
theorem a_TL_oddHalves {i : Int32} (hc : Cx xCl E A p s m args meth c b n r own) (w : Wd xCl E A s.heap H locs (xW E ad σ)) (hin : vp_in i 32) (hdg : decode b pc = .ok (.iaload, 1)) (kk : W p l e R s m args below meth c H locs cells slots Q (F0 m (pc + 1) ls (.int (x_odd σ i.toNatClampNeg) :: rest))) : W p l e R s m args below meth c H locs cells slots Q (F0 m pc ls (.int i :: .ref (ad 17) :: rest)) :=
  ra hc w 17 rfl hin hdg kk
theorem s_TL_oddHalves {i v : Int32} (hc : Cx xCl E A p s m args meth c b n r own) (w : Wd xCl E A s.heap H locs (xW E ad σ)) (hin : vp_in i 32) (hdg : decode b pc = .ok (.iastore, 1)) (kk : ∀ (σ1 : XS) (H1 : Heap) (locs1 : List Loc), xs_odd σ (upd (x_odd σ) i.toNatClampNeg v) = σ1 → Wd xCl E A s.heap H1 locs1 (xW E ad σ1) → W p l e R s m args below meth c H1 locs1 cells slots Q (F0 m (pc + 1) ls rest)) : W p l e R s m args below meth c H locs cells slots Q (F0 m pc ls (.int v :: .int i :: .ref (ad 17) :: rest)) :=
  rs hc w 17 rfl (ws' := xW E ad (xs_odd σ (upd (x_odd σ) i.toNatClampNeg v))) rfl hin hdg (fun H1 locs1 w1 => kk _ H1 locs1 rfl w1)
theorem a_CO_registers {i : Int32} (hc : Cx xCl E A p s m args meth c b n r own) (w : Wd xCl E A s.heap H locs (xW E ad σ)) (hin : vp_in i 32) (hdg : decode b pc = .ok (.iaload, 1)) (kk : W p l e R s m args below meth c H locs cells slots Q (F0 m (pc + 1) ls (.int (x_regs σ i.toNatClampNeg) :: rest))) : W p l e R s m args below meth c H locs cells slots Q (F0 m pc ls (.int i :: .ref (ad 18) :: rest)) :=
  ra hc w 18 rfl hin hdg kk
theorem s_CO_registers {i v : Int32} (hc : Cx xCl E A p s m args meth c b n r own) (w : Wd xCl E A s.heap H locs (xW E ad σ)) (hin : vp_in i 32) (hdg : decode b pc = .ok (.iastore, 1)) (kk : ∀ (σ1 : XS) (H1 : Heap) (locs1 : List Loc), xs_regs σ (upd (x_regs σ) i.toNatClampNeg v) = σ1 → Wd xCl E A s.heap H1 locs1 (xW E ad σ1) → W p l e R s m args below meth c H1 locs1 cells slots Q (F0 m (pc + 1) ls rest)) : W p l e R s m args below meth c H locs cells slots Q (F0 m pc ls (.int v :: .int i :: .ref (ad 18) :: rest)) :=
  rs hc w 18 rfl (ws' := xW E ad (xs_regs σ (upd (x_regs σ) i.toNatClampNeg v))) rfl hin hdg (fun H1 locs1 w1 => kk _ H1 locs1 rfl w1)
theorem a_PR_faultsByCode {i : Int32} (hc : Cx xCl E A p s m args meth c b n r own) (w : Wd xCl E A s.heap H locs (xW E ad σ)) (hin : vp_in i 14) (hdg : decode b pc = .ok (.iaload, 1)) (kk : W p l e R s m args below meth c H locs cells slots Q (F0 m (pc + 1) ls (.int (x_fbc σ i.toNatClampNeg) :: rest))) : W p l e R s m args below meth c H locs cells slots Q (F0 m pc ls (.int i :: .ref (ad 19) :: rest)) :=
  ra hc w 19 rfl hin hdg kk
theorem s_PR_faultsByCode {i v : Int32} (hc : Cx xCl E A p s m args meth c b n r own) (w : Wd xCl E A s.heap H locs (xW E ad σ)) (hin : vp_in i 14) (hdg : decode b pc = .ok (.iastore, 1)) (kk : ∀ (σ1 : XS) (H1 : Heap) (locs1 : List Loc), xs_fbc σ (upd (x_fbc σ) i.toNatClampNeg v) = σ1 → Wd xCl E A s.heap H1 locs1 (xW E ad σ1) → W p l e R s m args below meth c H1 locs1 cells slots Q (F0 m (pc + 1) ls rest)) : W p l e R s m args below meth c H locs cells slots Q (F0 m pc ls (.int v :: .int i :: .ref (ad 19) :: rest)) :=
  rs hc w 19 rfl (ws' := xW E ad (xs_fbc σ (upd (x_fbc σ) i.toNatClampNeg v))) rfl hin hdg (fun H1 locs1 w1 => kk _ H1 locs1 rfl w1)
end RLx
section RLm
variable {p : Program} {l : Launch} {e : Env} {R : Room} {s : State} {m : MethodId} {args : Array Value} {below : List Frame} {meth : Method} {c : Code} {H : Heap} {locs : List Loc} {cells slots : Nat} {Q : State → Prop}
variable {E : Ev} {A : Nat → Prop} {b : ByteArray} {n : Nat} {r : Option FieldType} {own : String} {pc index : Nat} {ls : Array Slot} {rest : List Value} {ad : Nat → Nat}
variable {σ : MS}
theorem g_MO_thrown (hc : Cx xCl E A p s m args meth c b n r own) (w : Wd xCl E A s.heap H locs (mW E ad σ)) (hl : Cond.fieldLink own index "PageMachineModel" "thrown" "I" ∈ gt_bl) (hdg : decode b pc = .ok (.getfield index, 3)) (kk : W p l e R s m args below meth c H locs cells slots Q (F0 m (pc + 3) ls (.int (m_thrown σ) :: rest))) : W p l e R s m args below meth c H locs cells slots Q (F0 m pc ls (.ref (ad 0) :: rest)) :=
  rg hc w i_MO 0 rfl rfl 0 (by decide) rfl hl hdg kk
theorem p_MO_thrown {v : Int32} (hc : Cx xCl E A p s m args meth c b n r own) (w : Wd xCl E A s.heap H locs (mW E ad σ)) (hl : Cond.fieldLink own index "PageMachineModel" "thrown" "I" ∈ gt_bl) (hdg : decode b pc = .ok (.putfield index, 3)) (kk : ∀ (σ1 : MS) (H1 : Heap) (locs1 : List Loc), ms_thrown σ v = σ1 → Wd xCl E A s.heap H1 locs1 (mW E ad σ1) → W p l e R s m args below meth c H1 locs1 cells slots Q (F0 m (pc + 3) ls rest)) : W p l e R s m args below meth c H locs cells slots Q (F0 m pc ls (.int v :: .ref (ad 0) :: rest)) :=
  rp (ty := .int) hc w i_MO ty_MO tyok_MO nm_MO 0 rfl rfl 0 (by decide) rfl (by decide +kernel) rfl rfl (Nat.le_of_ble_eq_true rfl) (ws' := mW E ad (ms_thrown σ v)) rfl hl hdg (fun H1 locs1 w1 => kk _ H1 locs1 rfl w1)
theorem g_MO_memory (hc : Cx xCl E A p s m args meth c b n r own) (w : Wd xCl E A s.heap H locs (mW E ad σ)) (hl : Cond.fieldLink own index "PageMachineModel" "memory" "[I" ∈ gt_bl) (hdg : decode b pc = .ok (.getfield index, 3)) (kk : W p l e R s m args below meth c H locs cells slots Q (F0 m (pc + 3) ls (.ref (ad 1) :: rest))) : W p l e R s m args below meth c H locs cells slots Q (F0 m pc ls (.ref (ad 0) :: rest)) :=
  rg hc w i_MO 0 rfl rfl 1 (by decide) rfl hl hdg kk
theorem g_MO_r (hc : Cx xCl E A p s m args meth c b n r own) (w : Wd xCl E A s.heap H locs (mW E ad σ)) (hl : Cond.fieldLink own index "PageMachineModel" "\x72" "[I" ∈ gt_bl) (hdg : decode b pc = .ok (.getfield index, 3)) (kk : W p l e R s m args below meth c H locs cells slots Q (F0 m (pc + 3) ls (.ref (ad 2) :: rest))) : W p l e R s m args below meth c H locs cells slots Q (F0 m pc ls (.ref (ad 0) :: rest)) :=
  rg hc w i_MO 0 rfl rfl 2 (by decide) rfl hl hdg kk
theorem g_MO_hi (hc : Cx xCl E A p s m args meth c b n r own) (w : Wd xCl E A s.heap H locs (mW E ad σ)) (hl : Cond.fieldLink own index "PageMachineModel" "hi" "I" ∈ gt_bl) (hdg : decode b pc = .ok (.getfield index, 3)) (kk : W p l e R s m args below meth c H locs cells slots Q (F0 m (pc + 3) ls (.int (m_hi σ) :: rest))) : W p l e R s m args below meth c H locs cells slots Q (F0 m pc ls (.ref (ad 0) :: rest)) :=
  rg hc w i_MO 0 rfl rfl 3 (by decide) rfl hl hdg kk
theorem p_MO_hi {v : Int32} (hc : Cx xCl E A p s m args meth c b n r own) (w : Wd xCl E A s.heap H locs (mW E ad σ)) (hl : Cond.fieldLink own index "PageMachineModel" "hi" "I" ∈ gt_bl) (hdg : decode b pc = .ok (.putfield index, 3)) (kk : ∀ (σ1 : MS) (H1 : Heap) (locs1 : List Loc), ms_hi σ v = σ1 → Wd xCl E A s.heap H1 locs1 (mW E ad σ1) → W p l e R s m args below meth c H1 locs1 cells slots Q (F0 m (pc + 3) ls rest)) : W p l e R s m args below meth c H locs cells slots Q (F0 m pc ls (.int v :: .ref (ad 0) :: rest)) :=
  rp (ty := .int) hc w i_MO ty_MO tyok_MO nm_MO 0 rfl rfl 3 (by decide) rfl (by decide +kernel) rfl rfl (Nat.le_of_ble_eq_true rfl) (ws' := mW E ad (ms_hi σ v)) rfl hl hdg (fun H1 locs1 w1 => kk _ H1 locs1 rfl w1)
theorem g_MO_lo (hc : Cx xCl E A p s m args meth c b n r own) (w : Wd xCl E A s.heap H locs (mW E ad σ)) (hl : Cond.fieldLink own index "PageMachineModel" "lo" "I" ∈ gt_bl) (hdg : decode b pc = .ok (.getfield index, 3)) (kk : W p l e R s m args below meth c H locs cells slots Q (F0 m (pc + 3) ls (.int (m_lo σ) :: rest))) : W p l e R s m args below meth c H locs cells slots Q (F0 m pc ls (.ref (ad 0) :: rest)) :=
  rg hc w i_MO 0 rfl rfl 4 (by decide) rfl hl hdg kk
theorem p_MO_lo {v : Int32} (hc : Cx xCl E A p s m args meth c b n r own) (w : Wd xCl E A s.heap H locs (mW E ad σ)) (hl : Cond.fieldLink own index "PageMachineModel" "lo" "I" ∈ gt_bl) (hdg : decode b pc = .ok (.putfield index, 3)) (kk : ∀ (σ1 : MS) (H1 : Heap) (locs1 : List Loc), ms_lo σ v = σ1 → Wd xCl E A s.heap H1 locs1 (mW E ad σ1) → W p l e R s m args below meth c H1 locs1 cells slots Q (F0 m (pc + 3) ls rest)) : W p l e R s m args below meth c H locs cells slots Q (F0 m pc ls (.int v :: .ref (ad 0) :: rest)) :=
  rp (ty := .int) hc w i_MO ty_MO tyok_MO nm_MO 0 rfl rfl 4 (by decide) rfl (by decide +kernel) rfl rfl (Nat.le_of_ble_eq_true rfl) (ws' := mW E ad (ms_lo σ v)) rfl hl hdg (fun H1 locs1 w1 => kk _ H1 locs1 rfl w1)
theorem g_MO_pc (hc : Cx xCl E A p s m args meth c b n r own) (w : Wd xCl E A s.heap H locs (mW E ad σ)) (hl : Cond.fieldLink own index "PageMachineModel" "pc" "I" ∈ gt_bl) (hdg : decode b pc = .ok (.getfield index, 3)) (kk : W p l e R s m args below meth c H locs cells slots Q (F0 m (pc + 3) ls (.int (m_pc σ) :: rest))) : W p l e R s m args below meth c H locs cells slots Q (F0 m pc ls (.ref (ad 0) :: rest)) :=
  rg hc w i_MO 0 rfl rfl 5 (by decide) rfl hl hdg kk
theorem p_MO_pc {v : Int32} (hc : Cx xCl E A p s m args meth c b n r own) (w : Wd xCl E A s.heap H locs (mW E ad σ)) (hl : Cond.fieldLink own index "PageMachineModel" "pc" "I" ∈ gt_bl) (hdg : decode b pc = .ok (.putfield index, 3)) (kk : ∀ (σ1 : MS) (H1 : Heap) (locs1 : List Loc), ms_pc σ v = σ1 → Wd xCl E A s.heap H1 locs1 (mW E ad σ1) → W p l e R s m args below meth c H1 locs1 cells slots Q (F0 m (pc + 3) ls rest)) : W p l e R s m args below meth c H locs cells slots Q (F0 m pc ls (.int v :: .ref (ad 0) :: rest)) :=
  rp (ty := .int) hc w i_MO ty_MO tyok_MO nm_MO 0 rfl rfl 5 (by decide) rfl (by decide +kernel) rfl rfl (Nat.le_of_ble_eq_true rfl) (ws' := mW E ad (ms_pc σ v)) rfl hl hdg (fun H1 locs1 w1 => kk _ H1 locs1 rfl w1)
theorem g_MO_target (hc : Cx xCl E A p s m args meth c b n r own) (w : Wd xCl E A s.heap H locs (mW E ad σ)) (hl : Cond.fieldLink own index "PageMachineModel" "target" "I" ∈ gt_bl) (hdg : decode b pc = .ok (.getfield index, 3)) (kk : W p l e R s m args below meth c H locs cells slots Q (F0 m (pc + 3) ls (.int (m_target σ) :: rest))) : W p l e R s m args below meth c H locs cells slots Q (F0 m pc ls (.ref (ad 0) :: rest)) :=
  rg hc w i_MO 0 rfl rfl 6 (by decide) rfl hl hdg kk
theorem p_MO_target {v : Int32} (hc : Cx xCl E A p s m args meth c b n r own) (w : Wd xCl E A s.heap H locs (mW E ad σ)) (hl : Cond.fieldLink own index "PageMachineModel" "target" "I" ∈ gt_bl) (hdg : decode b pc = .ok (.putfield index, 3)) (kk : ∀ (σ1 : MS) (H1 : Heap) (locs1 : List Loc), ms_target σ v = σ1 → Wd xCl E A s.heap H1 locs1 (mW E ad σ1) → W p l e R s m args below meth c H1 locs1 cells slots Q (F0 m (pc + 3) ls rest)) : W p l e R s m args below meth c H locs cells slots Q (F0 m pc ls (.int v :: .ref (ad 0) :: rest)) :=
  rp (ty := .int) hc w i_MO ty_MO tyok_MO nm_MO 0 rfl rfl 6 (by decide) rfl (by decide +kernel) rfl rfl (Nat.le_of_ble_eq_true rfl) (ws' := mW E ad (ms_target σ v)) rfl hl hdg (fun H1 locs1 w1 => kk _ H1 locs1 rfl w1)
theorem g_MO_link (hc : Cx xCl E A p s m args meth c b n r own) (w : Wd xCl E A s.heap H locs (mW E ad σ)) (hl : Cond.fieldLink own index "PageMachineModel" "link" "I" ∈ gt_bl) (hdg : decode b pc = .ok (.getfield index, 3)) (kk : W p l e R s m args below meth c H locs cells slots Q (F0 m (pc + 3) ls (.int (m_link σ) :: rest))) : W p l e R s m args below meth c H locs cells slots Q (F0 m pc ls (.ref (ad 0) :: rest)) :=
  rg hc w i_MO 0 rfl rfl 7 (by decide) rfl hl hdg kk
theorem p_MO_link {v : Int32} (hc : Cx xCl E A p s m args meth c b n r own) (w : Wd xCl E A s.heap H locs (mW E ad σ)) (hl : Cond.fieldLink own index "PageMachineModel" "link" "I" ∈ gt_bl) (hdg : decode b pc = .ok (.putfield index, 3)) (kk : ∀ (σ1 : MS) (H1 : Heap) (locs1 : List Loc), ms_link σ v = σ1 → Wd xCl E A s.heap H1 locs1 (mW E ad σ1) → W p l e R s m args below meth c H1 locs1 cells slots Q (F0 m (pc + 3) ls rest)) : W p l e R s m args below meth c H locs cells slots Q (F0 m pc ls (.int v :: .ref (ad 0) :: rest)) :=
  rp (ty := .int) hc w i_MO ty_MO tyok_MO nm_MO 0 rfl rfl 7 (by decide) rfl (by decide +kernel) rfl rfl (Nat.le_of_ble_eq_true rfl) (ws' := mW E ad (ms_link σ v)) rfl hl hdg (fun H1 locs1 w1 => kk _ H1 locs1 rfl w1)
theorem g_MO_slot (hc : Cx xCl E A p s m args meth c b n r own) (w : Wd xCl E A s.heap H locs (mW E ad σ)) (hl : Cond.fieldLink own index "PageMachineModel" "slot" "Z" ∈ gt_bl) (hdg : decode b pc = .ok (.getfield index, 3)) (kk : W p l e R s m args below meth c H locs cells slots Q (F0 m (pc + 3) ls (.int (zb (m_slot σ)) :: rest))) : W p l e R s m args below meth c H locs cells slots Q (F0 m pc ls (.ref (ad 0) :: rest)) :=
  rg hc w i_MO 0 rfl rfl 8 (by decide) rfl hl hdg kk
theorem p_MO_slot {v : Bool} (hc : Cx xCl E A p s m args meth c b n r own) (w : Wd xCl E A s.heap H locs (mW E ad σ)) (hl : Cond.fieldLink own index "PageMachineModel" "slot" "Z" ∈ gt_bl) (hdg : decode b pc = .ok (.putfield index, 3)) (kk : ∀ (σ1 : MS) (H1 : Heap) (locs1 : List Loc), ms_slot σ v = σ1 → Wd xCl E A s.heap H1 locs1 (mW E ad σ1) → W p l e R s m args below meth c H1 locs1 cells slots Q (F0 m (pc + 3) ls rest)) : W p l e R s m args below meth c H locs cells slots Q (F0 m pc ls (.int (zb v) :: .ref (ad 0) :: rest)) :=
  rp (ty := .boolean) hc w i_MO ty_MO tyok_MO nm_MO 0 rfl rfl 8 (by decide) rfl (by decide +kernel) (zb_n v) (zb_f v) (Nat.le_of_ble_eq_true rfl) (ws' := mW E ad (ms_slot σ v)) rfl hl hdg (fun H1 locs1 w1 => kk _ H1 locs1 rfl w1)
theorem g_MO_sys (hc : Cx xCl E A p s m args meth c b n r own) (w : Wd xCl E A s.heap H locs (mW E ad σ)) (hl : Cond.fieldLink own index "PageMachineModel" "sys" "[I" ∈ gt_bl) (hdg : decode b pc = .ok (.getfield index, 3)) (kk : W p l e R s m args below meth c H locs cells slots Q (F0 m (pc + 3) ls (.ref (ad 3) :: rest))) : W p l e R s m args below meth c H locs cells slots Q (F0 m pc ls (.ref (ad 0) :: rest)) :=
  rg hc w i_MO 0 rfl rfl 9 (by decide) rfl hl hdg kk
theorem g_MO_timer (hc : Cx xCl E A p s m args meth c b n r own) (w : Wd xCl E A s.heap H locs (mW E ad σ)) (hl : Cond.fieldLink own index "PageMachineModel" "timer" "Z" ∈ gt_bl) (hdg : decode b pc = .ok (.getfield index, 3)) (kk : W p l e R s m args below meth c H locs cells slots Q (F0 m (pc + 3) ls (.int (zb (m_timer σ)) :: rest))) : W p l e R s m args below meth c H locs cells slots Q (F0 m pc ls (.ref (ad 0) :: rest)) :=
  rg hc w i_MO 0 rfl rfl 10 (by decide) rfl hl hdg kk
theorem p_MO_timer {v : Bool} (hc : Cx xCl E A p s m args meth c b n r own) (w : Wd xCl E A s.heap H locs (mW E ad σ)) (hl : Cond.fieldLink own index "PageMachineModel" "timer" "Z" ∈ gt_bl) (hdg : decode b pc = .ok (.putfield index, 3)) (kk : ∀ (σ1 : MS) (H1 : Heap) (locs1 : List Loc), ms_timer σ v = σ1 → Wd xCl E A s.heap H1 locs1 (mW E ad σ1) → W p l e R s m args below meth c H1 locs1 cells slots Q (F0 m (pc + 3) ls rest)) : W p l e R s m args below meth c H locs cells slots Q (F0 m pc ls (.int (zb v) :: .ref (ad 0) :: rest)) :=
  rp (ty := .boolean) hc w i_MO ty_MO tyok_MO nm_MO 0 rfl rfl 10 (by decide) rfl (by decide +kernel) (zb_n v) (zb_f v) (Nat.le_of_ble_eq_true rfl) (ws' := mW E ad (ms_timer σ v)) rfl hl hdg (fun H1 locs1 w1 => kk _ H1 locs1 rfl w1)
theorem g_MO_lines (hc : Cx xCl E A p s m args meth c b n r own) (w : Wd xCl E A s.heap H locs (mW E ad σ)) (hl : Cond.fieldLink own index "PageMachineModel" "lines" "[Z" ∈ gt_bl) (hdg : decode b pc = .ok (.getfield index, 3)) (kk : W p l e R s m args below meth c H locs cells slots Q (F0 m (pc + 3) ls (.ref (ad 8) :: rest))) : W p l e R s m args below meth c H locs cells slots Q (F0 m pc ls (.ref (ad 0) :: rest)) :=
  rg hc w i_MO 0 rfl rfl 11 (by decide) rfl hl hdg kk
theorem g_MO_pages (hc : Cx xCl E A p s m args meth c b n r own) (w : Wd xCl E A s.heap H locs (mW E ad σ)) (hl : Cond.fieldLink own index "PageMachineModel" "pages" "[I" ∈ gt_bl) (hdg : decode b pc = .ok (.getfield index, 3)) (kk : W p l e R s m args below meth c H locs cells slots Q (F0 m (pc + 3) ls (.ref (ad 4) :: rest))) : W p l e R s m args below meth c H locs cells slots Q (F0 m pc ls (.ref (ad 0) :: rest)) :=
  rg hc w i_MO 0 rfl rfl 12 (by decide) rfl hl hdg kk
theorem g_MO_spaces (hc : Cx xCl E A p s m args meth c b n r own) (w : Wd xCl E A s.heap H locs (mW E ad σ)) (hl : Cond.fieldLink own index "PageMachineModel" "spaces" "[I" ∈ gt_bl) (hdg : decode b pc = .ok (.getfield index, 3)) (kk : W p l e R s m args below meth c H locs cells slots Q (F0 m (pc + 3) ls (.ref (ad 5) :: rest))) : W p l e R s m args below meth c H locs cells slots Q (F0 m pc ls (.ref (ad 0) :: rest)) :=
  rg hc w i_MO 0 rfl rfl 13 (by decide) rfl hl hdg kk
theorem g_MO_all (hc : Cx xCl E A p s m args meth c b n r own) (w : Wd xCl E A s.heap H locs (mW E ad σ)) (hl : Cond.fieldLink own index "PageMachineModel" "all" "[Z" ∈ gt_bl) (hdg : decode b pc = .ok (.getfield index, 3)) (kk : W p l e R s m args below meth c H locs cells slots Q (F0 m (pc + 3) ls (.ref (ad 9) :: rest))) : W p l e R s m args below meth c H locs cells slots Q (F0 m pc ls (.ref (ad 0) :: rest)) :=
  rg hc w i_MO 0 rfl rfl 14 (by decide) rfl hl hdg kk
theorem g_MO_halves (hc : Cx xCl E A p s m args meth c b n r own) (w : Wd xCl E A s.heap H locs (mW E ad σ)) (hl : Cond.fieldLink own index "PageMachineModel" "halves" "[I" ∈ gt_bl) (hdg : decode b pc = .ok (.getfield index, 3)) (kk : W p l e R s m args below meth c H locs cells slots Q (F0 m (pc + 3) ls (.ref (ad 6) :: rest))) : W p l e R s m args below meth c H locs cells slots Q (F0 m pc ls (.ref (ad 0) :: rest)) :=
  rg hc w i_MO 0 rfl rfl 15 (by decide) rfl hl hdg kk
theorem g_MO_steps (hc : Cx xCl E A p s m args meth c b n r own) (w : Wd xCl E A s.heap H locs (mW E ad σ)) (hl : Cond.fieldLink own index "PageMachineModel" "steps" "I" ∈ gt_bl) (hdg : decode b pc = .ok (.getfield index, 3)) (kk : W p l e R s m args below meth c H locs cells slots Q (F0 m (pc + 3) ls (.int (m_steps σ) :: rest))) : W p l e R s m args below meth c H locs cells slots Q (F0 m pc ls (.ref (ad 0) :: rest)) :=
  rg hc w i_MO 0 rfl rfl 16 (by decide) rfl hl hdg kk
theorem p_MO_steps {v : Int32} (hc : Cx xCl E A p s m args meth c b n r own) (w : Wd xCl E A s.heap H locs (mW E ad σ)) (hl : Cond.fieldLink own index "PageMachineModel" "steps" "I" ∈ gt_bl) (hdg : decode b pc = .ok (.putfield index, 3)) (kk : ∀ (σ1 : MS) (H1 : Heap) (locs1 : List Loc), ms_steps σ v = σ1 → Wd xCl E A s.heap H1 locs1 (mW E ad σ1) → W p l e R s m args below meth c H1 locs1 cells slots Q (F0 m (pc + 3) ls rest)) : W p l e R s m args below meth c H locs cells slots Q (F0 m pc ls (.int v :: .ref (ad 0) :: rest)) :=
  rp (ty := .int) hc w i_MO ty_MO tyok_MO nm_MO 0 rfl rfl 16 (by decide) rfl (by decide +kernel) rfl rfl (Nat.le_of_ble_eq_true rfl) (ws' := mW E ad (ms_steps σ v)) rfl hl hdg (fun H1 locs1 w1 => kk _ H1 locs1 rfl w1)
theorem g_MO_faults (hc : Cx xCl E A p s m args meth c b n r own) (w : Wd xCl E A s.heap H locs (mW E ad σ)) (hl : Cond.fieldLink own index "PageMachineModel" "faults" "[I" ∈ gt_bl) (hdg : decode b pc = .ok (.getfield index, 3)) (kk : W p l e R s m args below meth c H locs cells slots Q (F0 m (pc + 3) ls (.ref (ad 7) :: rest))) : W p l e R s m args below meth c H locs cells slots Q (F0 m pc ls (.ref (ad 0) :: rest)) :=
  rg hc w i_MO 0 rfl rfl 17 (by decide) rfl hl hdg kk
theorem g_MO_fault (hc : Cx xCl E A p s m args meth c b n r own) (w : Wd xCl E A s.heap H locs (mW E ad σ)) (hl : Cond.fieldLink own index "PageMachineModel" "fault" "I" ∈ gt_bl) (hdg : decode b pc = .ok (.getfield index, 3)) (kk : W p l e R s m args below meth c H locs cells slots Q (F0 m (pc + 3) ls (.int (m_fault σ) :: rest))) : W p l e R s m args below meth c H locs cells slots Q (F0 m pc ls (.ref (ad 0) :: rest)) :=
  rg hc w i_MO 0 rfl rfl 18 (by decide) rfl hl hdg kk
theorem p_MO_fault {v : Int32} (hc : Cx xCl E A p s m args meth c b n r own) (w : Wd xCl E A s.heap H locs (mW E ad σ)) (hl : Cond.fieldLink own index "PageMachineModel" "fault" "I" ∈ gt_bl) (hdg : decode b pc = .ok (.putfield index, 3)) (kk : ∀ (σ1 : MS) (H1 : Heap) (locs1 : List Loc), ms_fault σ v = σ1 → Wd xCl E A s.heap H1 locs1 (mW E ad σ1) → W p l e R s m args below meth c H1 locs1 cells slots Q (F0 m (pc + 3) ls rest)) : W p l e R s m args below meth c H locs cells slots Q (F0 m pc ls (.int v :: .ref (ad 0) :: rest)) :=
  rp (ty := .int) hc w i_MO ty_MO tyok_MO nm_MO 0 rfl rfl 18 (by decide) rfl (by decide +kernel) rfl rfl (Nat.le_of_ble_eq_true rfl) (ws' := mW E ad (ms_fault σ v)) rfl hl hdg (fun H1 locs1 w1 => kk _ H1 locs1 rfl w1)
theorem g_MO_faultAt (hc : Cx xCl E A p s m args meth c b n r own) (w : Wd xCl E A s.heap H locs (mW E ad σ)) (hl : Cond.fieldLink own index "PageMachineModel" "faultAt" "I" ∈ gt_bl) (hdg : decode b pc = .ok (.getfield index, 3)) (kk : W p l e R s m args below meth c H locs cells slots Q (F0 m (pc + 3) ls (.int (m_faultAt σ) :: rest))) : W p l e R s m args below meth c H locs cells slots Q (F0 m pc ls (.ref (ad 0) :: rest)) :=
  rg hc w i_MO 0 rfl rfl 19 (by decide) rfl hl hdg kk
theorem p_MO_faultAt {v : Int32} (hc : Cx xCl E A p s m args meth c b n r own) (w : Wd xCl E A s.heap H locs (mW E ad σ)) (hl : Cond.fieldLink own index "PageMachineModel" "faultAt" "I" ∈ gt_bl) (hdg : decode b pc = .ok (.putfield index, 3)) (kk : ∀ (σ1 : MS) (H1 : Heap) (locs1 : List Loc), ms_faultAt σ v = σ1 → Wd xCl E A s.heap H1 locs1 (mW E ad σ1) → W p l e R s m args below meth c H1 locs1 cells slots Q (F0 m (pc + 3) ls rest)) : W p l e R s m args below meth c H locs cells slots Q (F0 m pc ls (.int v :: .ref (ad 0) :: rest)) :=
  rp (ty := .int) hc w i_MO ty_MO tyok_MO nm_MO 0 rfl rfl 19 (by decide) rfl (by decide +kernel) rfl rfl (Nat.le_of_ble_eq_true rfl) (ws' := mW E ad (ms_faultAt σ v)) rfl hl hdg (fun H1 locs1 w1 => kk _ H1 locs1 rfl w1)
theorem g_MO_unit (hc : Cx xCl E A p s m args meth c b n r own) (w : Wd xCl E A s.heap H locs (mW E ad σ)) (hl : Cond.fieldLink own index "PageMachineModel" "unit" "I" ∈ gt_bl) (hdg : decode b pc = .ok (.getfield index, 3)) (kk : W p l e R s m args below meth c H locs cells slots Q (F0 m (pc + 3) ls (.int (m_unit σ) :: rest))) : W p l e R s m args below meth c H locs cells slots Q (F0 m pc ls (.ref (ad 0) :: rest)) :=
  rg hc w i_MO 0 rfl rfl 20 (by decide) rfl hl hdg kk
theorem p_MO_unit {v : Int32} (hc : Cx xCl E A p s m args meth c b n r own) (w : Wd xCl E A s.heap H locs (mW E ad σ)) (hl : Cond.fieldLink own index "PageMachineModel" "unit" "I" ∈ gt_bl) (hdg : decode b pc = .ok (.putfield index, 3)) (kk : ∀ (σ1 : MS) (H1 : Heap) (locs1 : List Loc), ms_unit σ v = σ1 → Wd xCl E A s.heap H1 locs1 (mW E ad σ1) → W p l e R s m args below meth c H1 locs1 cells slots Q (F0 m (pc + 3) ls rest)) : W p l e R s m args below meth c H locs cells slots Q (F0 m pc ls (.int v :: .ref (ad 0) :: rest)) :=
  rp (ty := .int) hc w i_MO ty_MO tyok_MO nm_MO 0 rfl rfl 20 (by decide) rfl (by decide +kernel) rfl rfl (Nat.le_of_ble_eq_true rfl) (ws' := mW E ad (ms_unit σ v)) rfl hl hdg (fun H1 locs1 w1 => kk _ H1 locs1 rfl w1)
theorem g_MO_hasAddress (hc : Cx xCl E A p s m args meth c b n r own) (w : Wd xCl E A s.heap H locs (mW E ad σ)) (hl : Cond.fieldLink own index "PageMachineModel" "hasAddress" "Z" ∈ gt_bl) (hdg : decode b pc = .ok (.getfield index, 3)) (kk : W p l e R s m args below meth c H locs cells slots Q (F0 m (pc + 3) ls (.int (zb (m_hasAddress σ)) :: rest))) : W p l e R s m args below meth c H locs cells slots Q (F0 m pc ls (.ref (ad 0) :: rest)) :=
  rg hc w i_MO 0 rfl rfl 21 (by decide) rfl hl hdg kk
theorem p_MO_hasAddress {v : Bool} (hc : Cx xCl E A p s m args meth c b n r own) (w : Wd xCl E A s.heap H locs (mW E ad σ)) (hl : Cond.fieldLink own index "PageMachineModel" "hasAddress" "Z" ∈ gt_bl) (hdg : decode b pc = .ok (.putfield index, 3)) (kk : ∀ (σ1 : MS) (H1 : Heap) (locs1 : List Loc), ms_hasAddress σ v = σ1 → Wd xCl E A s.heap H1 locs1 (mW E ad σ1) → W p l e R s m args below meth c H1 locs1 cells slots Q (F0 m (pc + 3) ls rest)) : W p l e R s m args below meth c H locs cells slots Q (F0 m pc ls (.int (zb v) :: .ref (ad 0) :: rest)) :=
  rp (ty := .boolean) hc w i_MO ty_MO tyok_MO nm_MO 0 rfl rfl 21 (by decide) rfl (by decide +kernel) (zb_n v) (zb_f v) (Nat.le_of_ble_eq_true rfl) (ws' := mW E ad (ms_hasAddress σ v)) rfl hl hdg (fun H1 locs1 w1 => kk _ H1 locs1 rfl w1)
theorem g_MO_refills (hc : Cx xCl E A p s m args meth c b n r own) (w : Wd xCl E A s.heap H locs (mW E ad σ)) (hl : Cond.fieldLink own index "PageMachineModel" "refills" "Z" ∈ gt_bl) (hdg : decode b pc = .ok (.getfield index, 3)) (kk : W p l e R s m args below meth c H locs cells slots Q (F0 m (pc + 3) ls (.int (zb (m_refills σ)) :: rest))) : W p l e R s m args below meth c H locs cells slots Q (F0 m pc ls (.ref (ad 0) :: rest)) :=
  rg hc w i_MO 0 rfl rfl 22 (by decide) rfl hl hdg kk
theorem p_MO_refills {v : Bool} (hc : Cx xCl E A p s m args meth c b n r own) (w : Wd xCl E A s.heap H locs (mW E ad σ)) (hl : Cond.fieldLink own index "PageMachineModel" "refills" "Z" ∈ gt_bl) (hdg : decode b pc = .ok (.putfield index, 3)) (kk : ∀ (σ1 : MS) (H1 : Heap) (locs1 : List Loc), ms_refills σ v = σ1 → Wd xCl E A s.heap H1 locs1 (mW E ad σ1) → W p l e R s m args below meth c H1 locs1 cells slots Q (F0 m (pc + 3) ls rest)) : W p l e R s m args below meth c H locs cells slots Q (F0 m pc ls (.int (zb v) :: .ref (ad 0) :: rest)) :=
  rp (ty := .boolean) hc w i_MO ty_MO tyok_MO nm_MO 0 rfl rfl 22 (by decide) rfl (by decide +kernel) (zb_n v) (zb_f v) (Nat.le_of_ble_eq_true rfl) (ws' := mW E ad (ms_refills σ v)) rfl hl hdg (fun H1 locs1 w1 => kk _ H1 locs1 rfl w1)
theorem g_MO_next (hc : Cx xCl E A p s m args meth c b n r own) (w : Wd xCl E A s.heap H locs (mW E ad σ)) (hl : Cond.fieldLink own index "PageMachineModel" "next" "I" ∈ gt_bl) (hdg : decode b pc = .ok (.getfield index, 3)) (kk : W p l e R s m args below meth c H locs cells slots Q (F0 m (pc + 3) ls (.int (m_next σ) :: rest))) : W p l e R s m args below meth c H locs cells slots Q (F0 m pc ls (.ref (ad 0) :: rest)) :=
  rg hc w i_MO 0 rfl rfl 23 (by decide) rfl hl hdg kk
theorem p_MO_next {v : Int32} (hc : Cx xCl E A p s m args meth c b n r own) (w : Wd xCl E A s.heap H locs (mW E ad σ)) (hl : Cond.fieldLink own index "PageMachineModel" "next" "I" ∈ gt_bl) (hdg : decode b pc = .ok (.putfield index, 3)) (kk : ∀ (σ1 : MS) (H1 : Heap) (locs1 : List Loc), ms_next σ v = σ1 → Wd xCl E A s.heap H1 locs1 (mW E ad σ1) → W p l e R s m args below meth c H1 locs1 cells slots Q (F0 m (pc + 3) ls rest)) : W p l e R s m args below meth c H locs cells slots Q (F0 m pc ls (.int v :: .ref (ad 0) :: rest)) :=
  rp (ty := .int) hc w i_MO ty_MO tyok_MO nm_MO 0 rfl rfl 23 (by decide) rfl (by decide +kernel) rfl rfl (Nat.le_of_ble_eq_true rfl) (ws' := mW E ad (ms_next σ v)) rfl hl hdg (fun H1 locs1 w1 => kk _ H1 locs1 rfl w1)
theorem g_MO_nextSlot (hc : Cx xCl E A p s m args meth c b n r own) (w : Wd xCl E A s.heap H locs (mW E ad σ)) (hl : Cond.fieldLink own index "PageMachineModel" "nextSlot" "Z" ∈ gt_bl) (hdg : decode b pc = .ok (.getfield index, 3)) (kk : W p l e R s m args below meth c H locs cells slots Q (F0 m (pc + 3) ls (.int (zb (m_nextSlot σ)) :: rest))) : W p l e R s m args below meth c H locs cells slots Q (F0 m pc ls (.ref (ad 0) :: rest)) :=
  rg hc w i_MO 0 rfl rfl 24 (by decide) rfl hl hdg kk
theorem p_MO_nextSlot {v : Bool} (hc : Cx xCl E A p s m args meth c b n r own) (w : Wd xCl E A s.heap H locs (mW E ad σ)) (hl : Cond.fieldLink own index "PageMachineModel" "nextSlot" "Z" ∈ gt_bl) (hdg : decode b pc = .ok (.putfield index, 3)) (kk : ∀ (σ1 : MS) (H1 : Heap) (locs1 : List Loc), ms_nextSlot σ v = σ1 → Wd xCl E A s.heap H1 locs1 (mW E ad σ1) → W p l e R s m args below meth c H1 locs1 cells slots Q (F0 m (pc + 3) ls rest)) : W p l e R s m args below meth c H locs cells slots Q (F0 m pc ls (.int (zb v) :: .ref (ad 0) :: rest)) :=
  rp (ty := .boolean) hc w i_MO ty_MO tyok_MO nm_MO 0 rfl rfl 24 (by decide) rfl (by decide +kernel) (zb_n v) (zb_f v) (Nat.le_of_ble_eq_true rfl) (ws' := mW E ad (ms_nextSlot σ v)) rfl hl hdg (fun H1 locs1 w1 => kk _ H1 locs1 rfl w1)
theorem a_MO_memory {i : Int32} (hc : Cx xCl E A p s m args meth c b n r own) (w : Wd xCl E A s.heap H locs (mW E ad σ)) (hin : vp_in i 65536) (hdg : decode b pc = .ok (.iaload, 1)) (kk : W p l e R s m args below meth c H locs cells slots Q (F0 m (pc + 1) ls (.int (m_memory σ i.toNatClampNeg) :: rest))) : W p l e R s m args below meth c H locs cells slots Q (F0 m pc ls (.int i :: .ref (ad 1) :: rest)) :=
  ra hc w 1 rfl hin hdg kk
theorem s_MO_memory {i v : Int32} (hc : Cx xCl E A p s m args meth c b n r own) (w : Wd xCl E A s.heap H locs (mW E ad σ)) (hin : vp_in i 65536) (hdg : decode b pc = .ok (.iastore, 1)) (kk : ∀ (σ1 : MS) (H1 : Heap) (locs1 : List Loc), ms_memory σ (upd (m_memory σ) i.toNatClampNeg v) = σ1 → Wd xCl E A s.heap H1 locs1 (mW E ad σ1) → W p l e R s m args below meth c H1 locs1 cells slots Q (F0 m (pc + 1) ls rest)) : W p l e R s m args below meth c H locs cells slots Q (F0 m pc ls (.int v :: .int i :: .ref (ad 1) :: rest)) :=
  rs hc w 1 rfl (ws' := mW E ad (ms_memory σ (upd (m_memory σ) i.toNatClampNeg v))) rfl hin hdg (fun H1 locs1 w1 => kk _ H1 locs1 rfl w1)
theorem a_MO_r {i : Int32} (hc : Cx xCl E A p s m args meth c b n r own) (w : Wd xCl E A s.heap H locs (mW E ad σ)) (hin : vp_in i 32) (hdg : decode b pc = .ok (.iaload, 1)) (kk : W p l e R s m args below meth c H locs cells slots Q (F0 m (pc + 1) ls (.int (m_r σ i.toNatClampNeg) :: rest))) : W p l e R s m args below meth c H locs cells slots Q (F0 m pc ls (.int i :: .ref (ad 2) :: rest)) :=
  ra hc w 2 rfl hin hdg kk
theorem s_MO_r {i v : Int32} (hc : Cx xCl E A p s m args meth c b n r own) (w : Wd xCl E A s.heap H locs (mW E ad σ)) (hin : vp_in i 32) (hdg : decode b pc = .ok (.iastore, 1)) (kk : ∀ (σ1 : MS) (H1 : Heap) (locs1 : List Loc), ms_r σ (upd (m_r σ) i.toNatClampNeg v) = σ1 → Wd xCl E A s.heap H1 locs1 (mW E ad σ1) → W p l e R s m args below meth c H1 locs1 cells slots Q (F0 m (pc + 1) ls rest)) : W p l e R s m args below meth c H locs cells slots Q (F0 m pc ls (.int v :: .int i :: .ref (ad 2) :: rest)) :=
  rs hc w 2 rfl (ws' := mW E ad (ms_r σ (upd (m_r σ) i.toNatClampNeg v))) rfl hin hdg (fun H1 locs1 w1 => kk _ H1 locs1 rfl w1)
theorem a_MO_sys {i : Int32} (hc : Cx xCl E A p s m args meth c b n r own) (w : Wd xCl E A s.heap H locs (mW E ad σ)) (hin : vp_in i 32) (hdg : decode b pc = .ok (.iaload, 1)) (kk : W p l e R s m args below meth c H locs cells slots Q (F0 m (pc + 1) ls (.int (m_sys σ i.toNatClampNeg) :: rest))) : W p l e R s m args below meth c H locs cells slots Q (F0 m pc ls (.int i :: .ref (ad 3) :: rest)) :=
  ra hc w 3 rfl hin hdg kk
theorem s_MO_sys {i v : Int32} (hc : Cx xCl E A p s m args meth c b n r own) (w : Wd xCl E A s.heap H locs (mW E ad σ)) (hin : vp_in i 32) (hdg : decode b pc = .ok (.iastore, 1)) (kk : ∀ (σ1 : MS) (H1 : Heap) (locs1 : List Loc), ms_sys σ (upd (m_sys σ) i.toNatClampNeg v) = σ1 → Wd xCl E A s.heap H1 locs1 (mW E ad σ1) → W p l e R s m args below meth c H1 locs1 cells slots Q (F0 m (pc + 1) ls rest)) : W p l e R s m args below meth c H locs cells slots Q (F0 m pc ls (.int v :: .int i :: .ref (ad 3) :: rest)) :=
  rs hc w 3 rfl (ws' := mW E ad (ms_sys σ (upd (m_sys σ) i.toNatClampNeg v))) rfl hin hdg (fun H1 locs1 w1 => kk _ H1 locs1 rfl w1)
theorem a_MO_pages {i : Int32} (hc : Cx xCl E A p s m args meth c b n r own) (w : Wd xCl E A s.heap H locs (mW E ad σ)) (hin : vp_in i 32) (hdg : decode b pc = .ok (.iaload, 1)) (kk : W p l e R s m args below meth c H locs cells slots Q (F0 m (pc + 1) ls (.int (m_pages σ i.toNatClampNeg) :: rest))) : W p l e R s m args below meth c H locs cells slots Q (F0 m pc ls (.int i :: .ref (ad 4) :: rest)) :=
  ra hc w 4 rfl hin hdg kk
theorem s_MO_pages {i v : Int32} (hc : Cx xCl E A p s m args meth c b n r own) (w : Wd xCl E A s.heap H locs (mW E ad σ)) (hin : vp_in i 32) (hdg : decode b pc = .ok (.iastore, 1)) (kk : ∀ (σ1 : MS) (H1 : Heap) (locs1 : List Loc), ms_pages σ (upd (m_pages σ) i.toNatClampNeg v) = σ1 → Wd xCl E A s.heap H1 locs1 (mW E ad σ1) → W p l e R s m args below meth c H1 locs1 cells slots Q (F0 m (pc + 1) ls rest)) : W p l e R s m args below meth c H locs cells slots Q (F0 m pc ls (.int v :: .int i :: .ref (ad 4) :: rest)) :=
  rs hc w 4 rfl (ws' := mW E ad (ms_pages σ (upd (m_pages σ) i.toNatClampNeg v))) rfl hin hdg (fun H1 locs1 w1 => kk _ H1 locs1 rfl w1)
theorem a_MO_spaces {i : Int32} (hc : Cx xCl E A p s m args meth c b n r own) (w : Wd xCl E A s.heap H locs (mW E ad σ)) (hin : vp_in i 32) (hdg : decode b pc = .ok (.iaload, 1)) (kk : W p l e R s m args below meth c H locs cells slots Q (F0 m (pc + 1) ls (.int (m_spaces σ i.toNatClampNeg) :: rest))) : W p l e R s m args below meth c H locs cells slots Q (F0 m pc ls (.int i :: .ref (ad 5) :: rest)) :=
  ra hc w 5 rfl hin hdg kk
theorem s_MO_spaces {i v : Int32} (hc : Cx xCl E A p s m args meth c b n r own) (w : Wd xCl E A s.heap H locs (mW E ad σ)) (hin : vp_in i 32) (hdg : decode b pc = .ok (.iastore, 1)) (kk : ∀ (σ1 : MS) (H1 : Heap) (locs1 : List Loc), ms_spaces σ (upd (m_spaces σ) i.toNatClampNeg v) = σ1 → Wd xCl E A s.heap H1 locs1 (mW E ad σ1) → W p l e R s m args below meth c H1 locs1 cells slots Q (F0 m (pc + 1) ls rest)) : W p l e R s m args below meth c H locs cells slots Q (F0 m pc ls (.int v :: .int i :: .ref (ad 5) :: rest)) :=
  rs hc w 5 rfl (ws' := mW E ad (ms_spaces σ (upd (m_spaces σ) i.toNatClampNeg v))) rfl hin hdg (fun H1 locs1 w1 => kk _ H1 locs1 rfl w1)
theorem a_MO_halves {i : Int32} (hc : Cx xCl E A p s m args meth c b n r own) (w : Wd xCl E A s.heap H locs (mW E ad σ)) (hin : vp_in i 64) (hdg : decode b pc = .ok (.iaload, 1)) (kk : W p l e R s m args below meth c H locs cells slots Q (F0 m (pc + 1) ls (.int (m_halves σ i.toNatClampNeg) :: rest))) : W p l e R s m args below meth c H locs cells slots Q (F0 m pc ls (.int i :: .ref (ad 6) :: rest)) :=
  ra hc w 6 rfl hin hdg kk
theorem s_MO_halves {i v : Int32} (hc : Cx xCl E A p s m args meth c b n r own) (w : Wd xCl E A s.heap H locs (mW E ad σ)) (hin : vp_in i 64) (hdg : decode b pc = .ok (.iastore, 1)) (kk : ∀ (σ1 : MS) (H1 : Heap) (locs1 : List Loc), ms_halves σ (upd (m_halves σ) i.toNatClampNeg v) = σ1 → Wd xCl E A s.heap H1 locs1 (mW E ad σ1) → W p l e R s m args below meth c H1 locs1 cells slots Q (F0 m (pc + 1) ls rest)) : W p l e R s m args below meth c H locs cells slots Q (F0 m pc ls (.int v :: .int i :: .ref (ad 6) :: rest)) :=
  rs hc w 6 rfl (ws' := mW E ad (ms_halves σ (upd (m_halves σ) i.toNatClampNeg v))) rfl hin hdg (fun H1 locs1 w1 => kk _ H1 locs1 rfl w1)
theorem a_MO_faults {i : Int32} (hc : Cx xCl E A p s m args meth c b n r own) (w : Wd xCl E A s.heap H locs (mW E ad σ)) (hin : vp_in i 14) (hdg : decode b pc = .ok (.iaload, 1)) (kk : W p l e R s m args below meth c H locs cells slots Q (F0 m (pc + 1) ls (.int (m_faults σ i.toNatClampNeg) :: rest))) : W p l e R s m args below meth c H locs cells slots Q (F0 m pc ls (.int i :: .ref (ad 7) :: rest)) :=
  ra hc w 7 rfl hin hdg kk
theorem s_MO_faults {i v : Int32} (hc : Cx xCl E A p s m args meth c b n r own) (w : Wd xCl E A s.heap H locs (mW E ad σ)) (hin : vp_in i 14) (hdg : decode b pc = .ok (.iastore, 1)) (kk : ∀ (σ1 : MS) (H1 : Heap) (locs1 : List Loc), ms_faults σ (upd (m_faults σ) i.toNatClampNeg v) = σ1 → Wd xCl E A s.heap H1 locs1 (mW E ad σ1) → W p l e R s m args below meth c H1 locs1 cells slots Q (F0 m (pc + 1) ls rest)) : W p l e R s m args below meth c H locs cells slots Q (F0 m pc ls (.int v :: .int i :: .ref (ad 7) :: rest)) :=
  rs hc w 7 rfl (ws' := mW E ad (ms_faults σ (upd (m_faults σ) i.toNatClampNeg v))) rfl hin hdg (fun H1 locs1 w1 => kk _ H1 locs1 rfl w1)
theorem a_MO_lines {i : Int32} (hc : Cx xCl E A p s m args meth c b n r own) (w : Wd xCl E A s.heap H locs (mW E ad σ)) (hin : vp_in i 6) (hdg : decode b pc = .ok (.baload, 1)) (kk : W p l e R s m args below meth c H locs cells slots Q (F0 m (pc + 1) ls (.int (zb (m_lines σ i.toNatClampNeg)) :: rest))) : W p l e R s m args below meth c H locs cells slots Q (F0 m pc ls (.int i :: .ref (ad 8) :: rest)) :=
  ra_z hc w 8 rfl hin hdg kk
theorem s_MO_lines {i : Int32} {v : Bool} (hc : Cx xCl E A p s m args meth c b n r own) (w : Wd xCl E A s.heap H locs (mW E ad σ)) (hin : vp_in i 6) (hdg : decode b pc = .ok (.bastore, 1)) (kk : ∀ (σ1 : MS) (H1 : Heap) (locs1 : List Loc), ms_lines σ (updB (m_lines σ) i.toNatClampNeg v) = σ1 → Wd xCl E A s.heap H1 locs1 (mW E ad σ1) → W p l e R s m args below meth c H1 locs1 cells slots Q (F0 m (pc + 1) ls rest)) : W p l e R s m args below meth c H locs cells slots Q (F0 m pc ls (.int (zb v) :: .int i :: .ref (ad 8) :: rest)) :=
  rs_z hc w 8 rfl (ws' := mW E ad (ms_lines σ (updB (m_lines σ) i.toNatClampNeg v))) rfl hin hdg (fun H1 locs1 w1 => kk _ H1 locs1 rfl w1)
theorem a_MO_all {i : Int32} (hc : Cx xCl E A p s m args meth c b n r own) (w : Wd xCl E A s.heap H locs (mW E ad σ)) (hin : vp_in i 32) (hdg : decode b pc = .ok (.baload, 1)) (kk : W p l e R s m args below meth c H locs cells slots Q (F0 m (pc + 1) ls (.int (zb (m_all σ i.toNatClampNeg)) :: rest))) : W p l e R s m args below meth c H locs cells slots Q (F0 m pc ls (.int i :: .ref (ad 9) :: rest)) :=
  ra_z hc w 9 rfl hin hdg kk
theorem s_MO_all {i : Int32} {v : Bool} (hc : Cx xCl E A p s m args meth c b n r own) (w : Wd xCl E A s.heap H locs (mW E ad σ)) (hin : vp_in i 32) (hdg : decode b pc = .ok (.bastore, 1)) (kk : ∀ (σ1 : MS) (H1 : Heap) (locs1 : List Loc), ms_all σ (updB (m_all σ) i.toNatClampNeg v) = σ1 → Wd xCl E A s.heap H1 locs1 (mW E ad σ1) → W p l e R s m args below meth c H1 locs1 cells slots Q (F0 m (pc + 1) ls rest)) : W p l e R s m args below meth c H locs cells slots Q (F0 m pc ls (.int (zb v) :: .int i :: .ref (ad 9) :: rest)) :=
  rs_z hc w 9 rfl (ws' := mW E ad (ms_all σ (updB (m_all σ) i.toNatClampNeg v))) rfl hin hdg (fun H1 locs1 w1 => kk _ H1 locs1 rfl w1)
end RLm
end
section
abbrev zI {S : Type} (z : S × Int32) : S × Option Value := (z.1, some (.int z.2))
abbrev zZ {S : Type} (z : S × Bool) : S × Option Value := (z.1, some (.int (zb z.2)))
abbrev zL {S : Type} (z : S × Int64) : S × Option Value := (z.1, some (.long z.2))
abbrev zV {S : Type} (z : S) : S × Option Value := (z, none)
theorem ne_k {x k : Int32} (h : ¬ x = k) {n : Int} (e : k.toInt = n) : ¬ x.toInt = n := fun h2 => h (Int32.toInt_inj.mp (h2.trans e.symm))
theorem bd31 (x : Int32) : vp_in (x &&& 31) 32 := pk_andIn x 5 (by decide) (by decide)
section RC2
variable {cl : List vw_C} {p : Program} {l : Launch} {e : Env} {R : Room} {s : State} {m : MethodId} {args : Array Value} {below : List Frame} {meth : Method} {c : Code} {H : Heap} {locs : List Loc} {cells slots : Nat} {Q : State → Prop}
variable {E : Ev} {A : Nat → Prop} {b : ByteArray} {n : Nat} {r : Option FieldType} {own : String} {pc : Nat} {ls : Array Slot} {rest : List Value} {a : Nat}
variable {S : Type} {wd : S → va_W} {σ : S} {y : MethodName} {b' : ByteArray} {n' f lo ci index : Nat} {r' : Option FieldType} {As st : List Value} {fs : List Value} {T : u_T} {N : Nat}
theorem cVI {F : S × Int32} (hc : Cx cl E A p s m args meth c b n r own) (w : Wd cl E A s.heap H locs (wd σ)) (hM : rC cl l E wd y b' n' r' (rmo f lo) (.ref a :: As) σ (zI F)) (kv : KV y b' n' r' As.length) (hl : Cond.methodLink own index y ∈ gt_bl) (q0 : Nat) (he : (wd σ)[q0]? = some (a, .inr (ci, fs))) (hcl : cl[ci]? = some (y.cls, T, N)) (hR : f + 1 ≤ R.frames ∧ 8 + (n' + 11) + lo ≤ R.locals) (hsz : ls.size = n) (hst : st = As.reverse ++ .ref a :: rest) (hcat : (rest.map fun v => v.category).sum ≤ 8) (hf : cells ≤ R.cells ∧ slots ≤ R.slots) (hdg : decode b pc = .ok (.invokevirtual index, 3))
    (kk : ∀ (z : S × Int32) (H1 : Heap) (locs1 : List Loc), F = z → Wd cl E A s.heap H1 locs1 (wd z.1) → W p l e R s m args below meth c H1 locs1 cells slots Q (F0 m (pc + 3) ls (.int z.2 :: rest))) : W p l e R s m args below meth c H locs cells slots Q (F0 m pc ls st) :=
  cV hc w hM kv hl q0 he hcl hR hsz hst hcat hf hdg (fun H1 locs1 w1 => kk F H1 locs1 rfl w1)
theorem cVZ {F : S × Bool} (hc : Cx cl E A p s m args meth c b n r own) (w : Wd cl E A s.heap H locs (wd σ)) (hM : rC cl l E wd y b' n' r' (rmo f lo) (.ref a :: As) σ (zZ F)) (kv : KV y b' n' r' As.length) (hl : Cond.methodLink own index y ∈ gt_bl) (q0 : Nat) (he : (wd σ)[q0]? = some (a, .inr (ci, fs))) (hcl : cl[ci]? = some (y.cls, T, N)) (hR : f + 1 ≤ R.frames ∧ 8 + (n' + 11) + lo ≤ R.locals) (hsz : ls.size = n) (hst : st = As.reverse ++ .ref a :: rest) (hcat : (rest.map fun v => v.category).sum ≤ 8) (hf : cells ≤ R.cells ∧ slots ≤ R.slots) (hdg : decode b pc = .ok (.invokevirtual index, 3))
    (kk : ∀ (z : S × Bool) (H1 : Heap) (locs1 : List Loc), F = z → Wd cl E A s.heap H1 locs1 (wd z.1) → W p l e R s m args below meth c H1 locs1 cells slots Q (F0 m (pc + 3) ls (.int (zb z.2) :: rest))) : W p l e R s m args below meth c H locs cells slots Q (F0 m pc ls st) :=
  cV hc w hM kv hl q0 he hcl hR hsz hst hcat hf hdg (fun H1 locs1 w1 => kk F H1 locs1 rfl w1)
theorem cVL {F : S × Int64} (hc : Cx cl E A p s m args meth c b n r own) (w : Wd cl E A s.heap H locs (wd σ)) (hM : rC cl l E wd y b' n' r' (rmo f lo) (.ref a :: As) σ (zL F)) (kv : KV y b' n' r' As.length) (hl : Cond.methodLink own index y ∈ gt_bl) (q0 : Nat) (he : (wd σ)[q0]? = some (a, .inr (ci, fs))) (hcl : cl[ci]? = some (y.cls, T, N)) (hR : f + 1 ≤ R.frames ∧ 8 + (n' + 11) + lo ≤ R.locals) (hsz : ls.size = n) (hst : st = As.reverse ++ .ref a :: rest) (hcat : (rest.map fun v => v.category).sum ≤ 8) (hf : cells ≤ R.cells ∧ slots ≤ R.slots) (hdg : decode b pc = .ok (.invokevirtual index, 3))
    (kk : ∀ (z : S × Int64) (H1 : Heap) (locs1 : List Loc), F = z → Wd cl E A s.heap H1 locs1 (wd z.1) → W p l e R s m args below meth c H1 locs1 cells slots Q (F0 m (pc + 3) ls (.long z.2 :: rest))) : W p l e R s m args below meth c H locs cells slots Q (F0 m pc ls st) :=
  cV hc w hM kv hl q0 he hcl hR hsz hst hcat hf hdg (fun H1 locs1 w1 => kk F H1 locs1 rfl w1)
theorem cVV {F : S} (hc : Cx cl E A p s m args meth c b n r own) (w : Wd cl E A s.heap H locs (wd σ)) (hM : rC cl l E wd y b' n' r' (rmo f lo) (.ref a :: As) σ (zV F)) (kv : KV y b' n' r' As.length) (hl : Cond.methodLink own index y ∈ gt_bl) (q0 : Nat) (he : (wd σ)[q0]? = some (a, .inr (ci, fs))) (hcl : cl[ci]? = some (y.cls, T, N)) (hR : f + 1 ≤ R.frames ∧ 8 + (n' + 11) + lo ≤ R.locals) (hsz : ls.size = n) (hst : st = As.reverse ++ .ref a :: rest) (hcat : (rest.map fun v => v.category).sum ≤ 8) (hf : cells ≤ R.cells ∧ slots ≤ R.slots) (hdg : decode b pc = .ok (.invokevirtual index, 3))
    (kk : ∀ (z : S) (H1 : Heap) (locs1 : List Loc), F = z → Wd cl E A s.heap H1 locs1 (wd z) → W p l e R s m args below meth c H1 locs1 cells slots Q (F0 m (pc + 3) ls (rest))) : W p l e R s m args below meth c H locs cells slots Q (F0 m pc ls st) :=
  cV hc w hM kv hl q0 he hcl hR hsz hst hcat hf hdg (fun H1 locs1 w1 => kk F H1 locs1 rfl w1)
theorem rVI {F : Int32} (hc : Cx cl E A p s m args meth c b n r own) (w : Wd cl E A s.heap H locs (wd σ)) (hM : rC cl l E wd y b' n' r' (rmo f lo) (.ref a :: As) σ (σ, some (.int F))) (kv : KV y b' n' r' As.length) (hl : Cond.methodLink own index y ∈ gt_bl) (q0 : Nat) (he : (wd σ)[q0]? = some (a, .inr (ci, fs))) (hcl : cl[ci]? = some (y.cls, T, N)) (hR : f + 1 ≤ R.frames ∧ 8 + (n' + 11) + lo ≤ R.locals) (hsz : ls.size = n) (hst : st = As.reverse ++ .ref a :: rest) (hcat : (rest.map fun v => v.category).sum ≤ 8) (hf : cells ≤ R.cells ∧ slots ≤ R.slots) (hdg : decode b pc = .ok (.invokevirtual index, 3))
    (kk : ∀ (H1 : Heap) (locs1 : List Loc), Wd cl E A s.heap H1 locs1 (wd σ) → W p l e R s m args below meth c H1 locs1 cells slots Q (F0 m (pc + 3) ls (.int F :: rest))) : W p l e R s m args below meth c H locs cells slots Q (F0 m pc ls st) :=
  cV hc w hM kv hl q0 he hcl hR hsz hst hcat hf hdg (fun H1 locs1 w1 => kk H1 locs1 w1)
theorem rVZ {F : Bool} (hc : Cx cl E A p s m args meth c b n r own) (w : Wd cl E A s.heap H locs (wd σ)) (hM : rC cl l E wd y b' n' r' (rmo f lo) (.ref a :: As) σ (σ, some (.int (zb F)))) (kv : KV y b' n' r' As.length) (hl : Cond.methodLink own index y ∈ gt_bl) (q0 : Nat) (he : (wd σ)[q0]? = some (a, .inr (ci, fs))) (hcl : cl[ci]? = some (y.cls, T, N)) (hR : f + 1 ≤ R.frames ∧ 8 + (n' + 11) + lo ≤ R.locals) (hsz : ls.size = n) (hst : st = As.reverse ++ .ref a :: rest) (hcat : (rest.map fun v => v.category).sum ≤ 8) (hf : cells ≤ R.cells ∧ slots ≤ R.slots) (hdg : decode b pc = .ok (.invokevirtual index, 3))
    (kk : ∀ (H1 : Heap) (locs1 : List Loc), Wd cl E A s.heap H1 locs1 (wd σ) → W p l e R s m args below meth c H1 locs1 cells slots Q (F0 m (pc + 3) ls (.int (zb F) :: rest))) : W p l e R s m args below meth c H locs cells slots Q (F0 m pc ls st) :=
  cV hc w hM kv hl q0 he hcl hR hsz hst hcat hf hdg (fun H1 locs1 w1 => kk H1 locs1 w1)
theorem rVL {F : Int64} (hc : Cx cl E A p s m args meth c b n r own) (w : Wd cl E A s.heap H locs (wd σ)) (hM : rC cl l E wd y b' n' r' (rmo f lo) (.ref a :: As) σ (σ, some (.long F))) (kv : KV y b' n' r' As.length) (hl : Cond.methodLink own index y ∈ gt_bl) (q0 : Nat) (he : (wd σ)[q0]? = some (a, .inr (ci, fs))) (hcl : cl[ci]? = some (y.cls, T, N)) (hR : f + 1 ≤ R.frames ∧ 8 + (n' + 11) + lo ≤ R.locals) (hsz : ls.size = n) (hst : st = As.reverse ++ .ref a :: rest) (hcat : (rest.map fun v => v.category).sum ≤ 8) (hf : cells ≤ R.cells ∧ slots ≤ R.slots) (hdg : decode b pc = .ok (.invokevirtual index, 3))
    (kk : ∀ (H1 : Heap) (locs1 : List Loc), Wd cl E A s.heap H1 locs1 (wd σ) → W p l e R s m args below meth c H1 locs1 cells slots Q (F0 m (pc + 3) ls (.long F :: rest))) : W p l e R s m args below meth c H locs cells slots Q (F0 m pc ls st) :=
  cV hc w hM kv hl q0 he hcl hR hsz hst hcat hf hdg (fun H1 locs1 w1 => kk H1 locs1 w1)
theorem cSI {F : S × Int32} (hc : Cx cl E A p s m args meth c b n r own) (w : Wd cl E A s.heap H locs (wd σ)) (hM : rC cl l E wd y b' n' r' (rmo f lo) As σ (zI F)) (kv : KS y b' n' r' As.length) (hl : Cond.methodLink own index y ∈ gt_bl) (hR : f + 1 ≤ R.frames ∧ 8 + (n' + 11) + lo ≤ R.locals) (hsz : ls.size = n) (hst : st = As.reverse ++ rest) (hcat : (rest.map fun v => v.category).sum ≤ 8) (hf : cells ≤ R.cells ∧ slots ≤ R.slots) (hdg : decode b pc = .ok (.invokestatic index, 3))
    (kk : ∀ (z : S × Int32) (H1 : Heap) (locs1 : List Loc), F = z → Wd cl E A s.heap H1 locs1 (wd z.1) → W p l e R s m args below meth c H1 locs1 cells slots Q (F0 m (pc + 3) ls (.int z.2 :: rest))) : W p l e R s m args below meth c H locs cells slots Q (F0 m pc ls st) :=
  cS hc w hM kv hl hR hsz hst hcat hf hdg (fun H1 locs1 w1 => kk F H1 locs1 rfl w1)
theorem cSZ {F : S × Bool} (hc : Cx cl E A p s m args meth c b n r own) (w : Wd cl E A s.heap H locs (wd σ)) (hM : rC cl l E wd y b' n' r' (rmo f lo) As σ (zZ F)) (kv : KS y b' n' r' As.length) (hl : Cond.methodLink own index y ∈ gt_bl) (hR : f + 1 ≤ R.frames ∧ 8 + (n' + 11) + lo ≤ R.locals) (hsz : ls.size = n) (hst : st = As.reverse ++ rest) (hcat : (rest.map fun v => v.category).sum ≤ 8) (hf : cells ≤ R.cells ∧ slots ≤ R.slots) (hdg : decode b pc = .ok (.invokestatic index, 3))
    (kk : ∀ (z : S × Bool) (H1 : Heap) (locs1 : List Loc), F = z → Wd cl E A s.heap H1 locs1 (wd z.1) → W p l e R s m args below meth c H1 locs1 cells slots Q (F0 m (pc + 3) ls (.int (zb z.2) :: rest))) : W p l e R s m args below meth c H locs cells slots Q (F0 m pc ls st) :=
  cS hc w hM kv hl hR hsz hst hcat hf hdg (fun H1 locs1 w1 => kk F H1 locs1 rfl w1)
theorem cSL {F : S × Int64} (hc : Cx cl E A p s m args meth c b n r own) (w : Wd cl E A s.heap H locs (wd σ)) (hM : rC cl l E wd y b' n' r' (rmo f lo) As σ (zL F)) (kv : KS y b' n' r' As.length) (hl : Cond.methodLink own index y ∈ gt_bl) (hR : f + 1 ≤ R.frames ∧ 8 + (n' + 11) + lo ≤ R.locals) (hsz : ls.size = n) (hst : st = As.reverse ++ rest) (hcat : (rest.map fun v => v.category).sum ≤ 8) (hf : cells ≤ R.cells ∧ slots ≤ R.slots) (hdg : decode b pc = .ok (.invokestatic index, 3))
    (kk : ∀ (z : S × Int64) (H1 : Heap) (locs1 : List Loc), F = z → Wd cl E A s.heap H1 locs1 (wd z.1) → W p l e R s m args below meth c H1 locs1 cells slots Q (F0 m (pc + 3) ls (.long z.2 :: rest))) : W p l e R s m args below meth c H locs cells slots Q (F0 m pc ls st) :=
  cS hc w hM kv hl hR hsz hst hcat hf hdg (fun H1 locs1 w1 => kk F H1 locs1 rfl w1)
theorem cSV {F : S} (hc : Cx cl E A p s m args meth c b n r own) (w : Wd cl E A s.heap H locs (wd σ)) (hM : rC cl l E wd y b' n' r' (rmo f lo) As σ (zV F)) (kv : KS y b' n' r' As.length) (hl : Cond.methodLink own index y ∈ gt_bl) (hR : f + 1 ≤ R.frames ∧ 8 + (n' + 11) + lo ≤ R.locals) (hsz : ls.size = n) (hst : st = As.reverse ++ rest) (hcat : (rest.map fun v => v.category).sum ≤ 8) (hf : cells ≤ R.cells ∧ slots ≤ R.slots) (hdg : decode b pc = .ok (.invokestatic index, 3))
    (kk : ∀ (z : S) (H1 : Heap) (locs1 : List Loc), F = z → Wd cl E A s.heap H1 locs1 (wd z) → W p l e R s m args below meth c H1 locs1 cells slots Q (F0 m (pc + 3) ls (rest))) : W p l e R s m args below meth c H locs cells slots Q (F0 m pc ls st) :=
  cS hc w hM kv hl hR hsz hst hcat hf hdg (fun H1 locs1 w1 => kk F H1 locs1 rfl w1)
theorem rSI {F : Int32} (hc : Cx cl E A p s m args meth c b n r own) (w : Wd cl E A s.heap H locs (wd σ)) (hM : rC cl l E wd y b' n' r' (rmo f lo) As σ (σ, some (.int F))) (kv : KS y b' n' r' As.length) (hl : Cond.methodLink own index y ∈ gt_bl) (hR : f + 1 ≤ R.frames ∧ 8 + (n' + 11) + lo ≤ R.locals) (hsz : ls.size = n) (hst : st = As.reverse ++ rest) (hcat : (rest.map fun v => v.category).sum ≤ 8) (hf : cells ≤ R.cells ∧ slots ≤ R.slots) (hdg : decode b pc = .ok (.invokestatic index, 3))
    (kk : ∀ (H1 : Heap) (locs1 : List Loc), Wd cl E A s.heap H1 locs1 (wd σ) → W p l e R s m args below meth c H1 locs1 cells slots Q (F0 m (pc + 3) ls (.int F :: rest))) : W p l e R s m args below meth c H locs cells slots Q (F0 m pc ls st) :=
  cS hc w hM kv hl hR hsz hst hcat hf hdg (fun H1 locs1 w1 => kk H1 locs1 w1)
theorem rSZ {F : Bool} (hc : Cx cl E A p s m args meth c b n r own) (w : Wd cl E A s.heap H locs (wd σ)) (hM : rC cl l E wd y b' n' r' (rmo f lo) As σ (σ, some (.int (zb F)))) (kv : KS y b' n' r' As.length) (hl : Cond.methodLink own index y ∈ gt_bl) (hR : f + 1 ≤ R.frames ∧ 8 + (n' + 11) + lo ≤ R.locals) (hsz : ls.size = n) (hst : st = As.reverse ++ rest) (hcat : (rest.map fun v => v.category).sum ≤ 8) (hf : cells ≤ R.cells ∧ slots ≤ R.slots) (hdg : decode b pc = .ok (.invokestatic index, 3))
    (kk : ∀ (H1 : Heap) (locs1 : List Loc), Wd cl E A s.heap H1 locs1 (wd σ) → W p l e R s m args below meth c H1 locs1 cells slots Q (F0 m (pc + 3) ls (.int (zb F) :: rest))) : W p l e R s m args below meth c H locs cells slots Q (F0 m pc ls st) :=
  cS hc w hM kv hl hR hsz hst hcat hf hdg (fun H1 locs1 w1 => kk H1 locs1 w1)
theorem rSL {F : Int64} (hc : Cx cl E A p s m args meth c b n r own) (w : Wd cl E A s.heap H locs (wd σ)) (hM : rC cl l E wd y b' n' r' (rmo f lo) As σ (σ, some (.long F))) (kv : KS y b' n' r' As.length) (hl : Cond.methodLink own index y ∈ gt_bl) (hR : f + 1 ≤ R.frames ∧ 8 + (n' + 11) + lo ≤ R.locals) (hsz : ls.size = n) (hst : st = As.reverse ++ rest) (hcat : (rest.map fun v => v.category).sum ≤ 8) (hf : cells ≤ R.cells ∧ slots ≤ R.slots) (hdg : decode b pc = .ok (.invokestatic index, 3))
    (kk : ∀ (H1 : Heap) (locs1 : List Loc), Wd cl E A s.heap H1 locs1 (wd σ) → W p l e R s m args below meth c H1 locs1 cells slots Q (F0 m (pc + 3) ls (.long F :: rest))) : W p l e R s m args below meth c H locs cells slots Q (F0 m pc ls st) :=
  cS hc w hM kv hl hR hsz hst hcat hf hdg (fun H1 locs1 w1 => kk H1 locs1 w1)
end RC2
end
section
-- FA_codeOf
def f_FA_codeOf (σ : XS) (a1 : Int32) : Int32 := a1 &&& (15 : Int32)
theorem d_FA_codeOf_0 : decode b_FA_codeOf 0 = .ok (.iload_n 0, 1) := by decide +kernel
theorem d_FA_codeOf_1 : decode b_FA_codeOf 1 = .ok (.bipush 15, 2) := by decide +kernel
theorem d_FA_codeOf_3 : decode b_FA_codeOf 3 = .ok (.iand, 1) := by decide +kernel
theorem d_FA_codeOf_4 : decode b_FA_codeOf 4 = .ok (.ireturn, 1) := by decide +kernel
set_option maxHeartbeats 4000000 in
set_option maxRecDepth 100000 in
theorem c_FA_codeOf (l : Launch) (E : Ev) (ad : Nat → Nat) (σ : XS) (a1 : Int32) : rC xCl l E (xW E ad) y_FA_codeOf b_FA_codeOf 1 (Option.some Jvm.ClassFile.FieldType.int) (rmo 0 0) [.int a1] σ ((σ, some (Value.int (f_FA_codeOf σ a1)))) := by
  refine rC.of (by decide) (Nat.le_of_ble_eq_true rfl) ?_
  intro p e s m below meth c A ls hc w hl
  generalize e0 : (σ, some (Value.int (f_FA_codeOf σ a1))) = Z
  have hc : Cx xCl E A p s m ([.int a1] : List Value).toArray meth c b_FA_codeOf 1 (Option.some Jvm.ClassFile.FieldType.int) "PageMachine$Fault" := hc
  have hx := hc.1
  have hb := hc.2.1
  have ho := hc.2.2.2.2.2.1
  have hT := hc.2.2.2.2.2.2.1
  have hl : lv_has ls 1 [(0, .int a1)] := hl
  refine lv_iload_n hx hb d_FA_codeOf_0 rfl (lv_at hl 0 rfl) ?_
  refine lv_bipush (v := 15) hx hb d_FA_codeOf_1 (by decide) ?_
  refine lv_iand hx hb d_FA_codeOf_3 ?_
  exact rt_i hc w d_FA_codeOf_4 (by rw [← e0, f_FA_codeOf] <;> rfl)
-- FA_isRefill
def f_FA_isRefill (σ : XS) (a1 : Int32) : Bool := if (a1 &&& (16 : Int32)) = 0 then (false) else (true)
theorem d_FA_isRefill_0 : decode b_FA_isRefill 0 = .ok (.iload_n 0, 1) := by decide +kernel
theorem d_FA_isRefill_1 : decode b_FA_isRefill 1 = .ok (.bipush 16, 2) := by decide +kernel
theorem d_FA_isRefill_3 : decode b_FA_isRefill 3 = .ok (.iand, 1) := by decide +kernel
theorem d_FA_isRefill_4 : decode b_FA_isRefill 4 = .ok (.ifCond .eq 7, 3) := by decide +kernel
theorem d_FA_isRefill_7 : decode b_FA_isRefill 7 = .ok (.iconst 1, 1) := by decide +kernel
theorem d_FA_isRefill_8 : decode b_FA_isRefill 8 = .ok (.goto 4, 3) := by decide +kernel
theorem d_FA_isRefill_11 : decode b_FA_isRefill 11 = .ok (.iconst 0, 1) := by decide +kernel
theorem d_FA_isRefill_12 : decode b_FA_isRefill 12 = .ok (.ireturn, 1) := by decide +kernel
set_option maxHeartbeats 4000000 in
set_option maxRecDepth 100000 in
theorem c_FA_isRefill (l : Launch) (E : Ev) (ad : Nat → Nat) (σ : XS) (a1 : Int32) : rC xCl l E (xW E ad) y_FA_isRefill b_FA_isRefill 1 (Option.some Jvm.ClassFile.FieldType.boolean) (rmo 0 0) [.int a1] σ ((σ, some (Value.int (zb (f_FA_isRefill σ a1))))) := by
  refine rC.of (by decide) (Nat.le_of_ble_eq_true rfl) ?_
  intro p e s m below meth c A ls hc w hl
  generalize e0 : (σ, some (Value.int (zb (f_FA_isRefill σ a1)))) = Z
  have hc : Cx xCl E A p s m ([.int a1] : List Value).toArray meth c b_FA_isRefill 1 (Option.some Jvm.ClassFile.FieldType.boolean) "PageMachine$Fault" := hc
  have hx := hc.1
  have hb := hc.2.1
  have ho := hc.2.2.2.2.2.1
  have hT := hc.2.2.2.2.2.2.1
  have hl : lv_has ls 1 [(0, .int a1)] := hl
  refine lv_iload_n hx hb d_FA_isRefill_0 rfl (lv_at hl 0 rfl) ?_
  refine lv_bipush (v := 16) hx hb d_FA_isRefill_1 (by decide) ?_
  refine lv_iand hx hb d_FA_isRefill_3 ?_
  refine lv_if_eq (tgt := 11) hx hb d_FA_isRefill_4 (by decide) (fun q4 => ?_) (fun q4 => ?_)
  · refine lv_iconst (v := 0) hx hb d_FA_isRefill_11 (by decide) ?_
    exact rt_z (v := false) hc w d_FA_isRefill_12 rfl (by rw [← e0, f_FA_isRefill, if_pos q4] <;> rfl)
  · refine lv_iconst (v := 1) hx hb d_FA_isRefill_7 (by decide) ?_
    refine lv_goto (tgt := 12) hx hb d_FA_isRefill_8 (by decide) ?_
    exact rt_z (v := true) hc w d_FA_isRefill_12 rfl (by rw [← e0, f_FA_isRefill, if_neg q4] <;> rfl)
-- FA_coprocessorOf
def f_FA_coprocessorOf (σ : XS) (a1 : Int32) : Int32 := (a1 / (32 : Int32)) &&& (3 : Int32)
theorem d_FA_coprocessorOf_0 : decode b_FA_coprocessorOf 0 = .ok (.iload_n 0, 1) := by decide +kernel
theorem d_FA_coprocessorOf_1 : decode b_FA_coprocessorOf 1 = .ok (.bipush 32, 2) := by decide +kernel
theorem d_FA_coprocessorOf_3 : decode b_FA_coprocessorOf 3 = .ok (.idiv, 1) := by decide +kernel
theorem d_FA_coprocessorOf_4 : decode b_FA_coprocessorOf 4 = .ok (.iconst 3, 1) := by decide +kernel
theorem d_FA_coprocessorOf_5 : decode b_FA_coprocessorOf 5 = .ok (.iand, 1) := by decide +kernel
theorem d_FA_coprocessorOf_6 : decode b_FA_coprocessorOf 6 = .ok (.ireturn, 1) := by decide +kernel
set_option maxHeartbeats 4000000 in
set_option maxRecDepth 100000 in
theorem c_FA_coprocessorOf (l : Launch) (E : Ev) (ad : Nat → Nat) (σ : XS) (a1 : Int32) : rC xCl l E (xW E ad) y_FA_coprocessorOf b_FA_coprocessorOf 1 (Option.some Jvm.ClassFile.FieldType.int) (rmo 0 0) [.int a1] σ ((σ, some (Value.int (f_FA_coprocessorOf σ a1)))) := by
  refine rC.of (by decide) (Nat.le_of_ble_eq_true rfl) ?_
  intro p e s m below meth c A ls hc w hl
  generalize e0 : (σ, some (Value.int (f_FA_coprocessorOf σ a1))) = Z
  have hc : Cx xCl E A p s m ([.int a1] : List Value).toArray meth c b_FA_coprocessorOf 1 (Option.some Jvm.ClassFile.FieldType.int) "PageMachine$Fault" := hc
  have hx := hc.1
  have hb := hc.2.1
  have ho := hc.2.2.2.2.2.1
  have hT := hc.2.2.2.2.2.2.1
  have hl : lv_has ls 1 [(0, .int a1)] := hl
  refine lv_iload_n hx hb d_FA_coprocessorOf_0 rfl (lv_at hl 0 rfl) ?_
  refine lv_bipush (v := 32) hx hb d_FA_coprocessorOf_1 (by decide) ?_
  refine lv_idiv hx hb d_FA_coprocessorOf_3 (by decide) ?_
  refine lv_iconst (v := 3) hx hb d_FA_coprocessorOf_4 (by decide) ?_
  refine lv_iand hx hb d_FA_coprocessorOf_5 ?_
  exact rt_i hc w d_FA_coprocessorOf_6 (by rw [← e0, f_FA_coprocessorOf] <;> rfl)
-- FA_noCoprocessor
def f_FA_noCoprocessor (σ : XS) (a1 : Int32) : Int32 := (11 : Int32) + ((32 : Int32) * a1)
theorem d_FA_noCoprocessor_0 : decode b_FA_noCoprocessor 0 = .ok (.bipush 11, 2) := by decide +kernel
theorem d_FA_noCoprocessor_2 : decode b_FA_noCoprocessor 2 = .ok (.bipush 32, 2) := by decide +kernel
theorem d_FA_noCoprocessor_4 : decode b_FA_noCoprocessor 4 = .ok (.iload_n 0, 1) := by decide +kernel
theorem d_FA_noCoprocessor_5 : decode b_FA_noCoprocessor 5 = .ok (.imul, 1) := by decide +kernel
theorem d_FA_noCoprocessor_6 : decode b_FA_noCoprocessor 6 = .ok (.iadd, 1) := by decide +kernel
theorem d_FA_noCoprocessor_7 : decode b_FA_noCoprocessor 7 = .ok (.ireturn, 1) := by decide +kernel
set_option maxHeartbeats 4000000 in
set_option maxRecDepth 100000 in
theorem c_FA_noCoprocessor (l : Launch) (E : Ev) (ad : Nat → Nat) (σ : XS) (a1 : Int32) : rC xCl l E (xW E ad) y_FA_noCoprocessor b_FA_noCoprocessor 1 (Option.some Jvm.ClassFile.FieldType.int) (rmo 0 0) [.int a1] σ ((σ, some (Value.int (f_FA_noCoprocessor σ a1)))) := by
  refine rC.of (by decide) (Nat.le_of_ble_eq_true rfl) ?_
  intro p e s m below meth c A ls hc w hl
  generalize e0 : (σ, some (Value.int (f_FA_noCoprocessor σ a1))) = Z
  have hc : Cx xCl E A p s m ([.int a1] : List Value).toArray meth c b_FA_noCoprocessor 1 (Option.some Jvm.ClassFile.FieldType.int) "PageMachine$Fault" := hc
  have hx := hc.1
  have hb := hc.2.1
  have ho := hc.2.2.2.2.2.1
  have hT := hc.2.2.2.2.2.2.1
  have hl : lv_has ls 1 [(0, .int a1)] := hl
  refine lv_bipush (v := 11) hx hb d_FA_noCoprocessor_0 (by decide) ?_
  refine lv_bipush (v := 32) hx hb d_FA_noCoprocessor_2 (by decide) ?_
  refine lv_iload_n hx hb d_FA_noCoprocessor_4 rfl (lv_at hl 0 rfl) ?_
  refine lv_imul hx hb d_FA_noCoprocessor_5 ?_
  refine lv_iadd hx hb d_FA_noCoprocessor_6 ?_
  exact rt_i hc w d_FA_noCoprocessor_7 (by rw [← e0, f_FA_noCoprocessor] <;> rfl)
-- FA_trapIf
def f_FA_trapIf (σ : XS) (a1 : Bool) : Int32 := if (zb a1) = 0 then ((-1 : Int32)) else ((13 : Int32))
theorem d_FA_trapIf_0 : decode b_FA_trapIf 0 = .ok (.iload_n 0, 1) := by decide +kernel
theorem d_FA_trapIf_1 : decode b_FA_trapIf 1 = .ok (.ifCond .eq 8, 3) := by decide +kernel
theorem d_FA_trapIf_4 : decode b_FA_trapIf 4 = .ok (.bipush 13, 2) := by decide +kernel
theorem d_FA_trapIf_6 : decode b_FA_trapIf 6 = .ok (.goto 4, 3) := by decide +kernel
theorem d_FA_trapIf_9 : decode b_FA_trapIf 9 = .ok (.iconst (-1), 1) := by decide +kernel
theorem d_FA_trapIf_10 : decode b_FA_trapIf 10 = .ok (.ireturn, 1) := by decide +kernel
set_option maxHeartbeats 4000000 in
set_option maxRecDepth 100000 in
theorem c_FA_trapIf (l : Launch) (E : Ev) (ad : Nat → Nat) (σ : XS) (a1 : Bool) : rC xCl l E (xW E ad) y_FA_trapIf b_FA_trapIf 1 (Option.some Jvm.ClassFile.FieldType.int) (rmo 0 0) [.int (zb a1)] σ ((σ, some (Value.int (f_FA_trapIf σ a1)))) := by
  refine rC.of (by decide) (Nat.le_of_ble_eq_true rfl) ?_
  intro p e s m below meth c A ls hc w hl
  generalize e0 : (σ, some (Value.int (f_FA_trapIf σ a1))) = Z
  have hc : Cx xCl E A p s m ([.int (zb a1)] : List Value).toArray meth c b_FA_trapIf 1 (Option.some Jvm.ClassFile.FieldType.int) "PageMachine$Fault" := hc
  have hx := hc.1
  have hb := hc.2.1
  have ho := hc.2.2.2.2.2.1
  have hT := hc.2.2.2.2.2.2.1
  have hl : lv_has ls 1 [(0, .int (zb a1))] := hl
  refine lv_iload_n hx hb d_FA_trapIf_0 rfl (lv_at hl 0 rfl) ?_
  refine lv_if_eq (tgt := 9) hx hb d_FA_trapIf_1 (by decide) (fun q1 => ?_) (fun q1 => ?_)
  · refine lv_iconst (v := -1) hx hb d_FA_trapIf_9 (by decide) ?_
    exact rt_i hc w d_FA_trapIf_10 (by rw [← e0, f_FA_trapIf, if_pos q1] <;> rfl)
  · refine lv_bipush (v := 13) hx hb d_FA_trapIf_4 (by decide) ?_
    refine lv_goto (tgt := 10) hx hb d_FA_trapIf_6 (by decide) ?_
    exact rt_i hc w d_FA_trapIf_10 (by rw [← e0, f_FA_trapIf, if_neg q1] <;> rfl)
-- CO_register
def f_CO_register (σ : XS) (a1 : Int32) : Int32 := x_regs σ (Int32.toNatClampNeg (a1 &&& (31 : Int32)))
theorem d_CO_register_0 : decode b_CO_register 0 = .ok (.aload_n 0, 1) := by decide +kernel
theorem d_CO_register_1 : decode b_CO_register 1 = .ok (.getfield 14, 3) := by decide +kernel
theorem d_CO_register_4 : decode b_CO_register 4 = .ok (.iload_n 1, 1) := by decide +kernel
theorem d_CO_register_5 : decode b_CO_register 5 = .ok (.bipush 31, 2) := by decide +kernel
theorem d_CO_register_7 : decode b_CO_register 7 = .ok (.iand, 1) := by decide +kernel
theorem d_CO_register_8 : decode b_CO_register 8 = .ok (.iaload, 1) := by decide +kernel
theorem d_CO_register_9 : decode b_CO_register 9 = .ok (.ireturn, 1) := by decide +kernel
set_option maxHeartbeats 4000000 in
set_option maxRecDepth 100000 in
theorem c_CO_register (l : Launch) (E : Ev) (ad : Nat → Nat) (σ : XS) (a1 : Int32) : rC xCl l E (xW E ad) y_CO_register b_CO_register 2 (Option.some Jvm.ClassFile.FieldType.int) (rmo 0 0) [.ref (ad 5), .int a1] σ ((σ, some (Value.int (f_CO_register σ a1)))) := by
  refine rC.of (by decide) (Nat.le_of_ble_eq_true rfl) ?_
  intro p e s m below meth c A ls hc w hl
  generalize e0 : (σ, some (Value.int (f_CO_register σ a1))) = Z
  have hc : Cx xCl E A p s m ([.ref (ad 5), .int a1] : List Value).toArray meth c b_CO_register 2 (Option.some Jvm.ClassFile.FieldType.int) "PageMachine$Core" := hc
  have hx := hc.1
  have hb := hc.2.1
  have ho := hc.2.2.2.2.2.1
  have hT := hc.2.2.2.2.2.2.1
  have hl : lv_has ls 2 [(0, .ref (ad 5)), (1, .int a1)] := hl
  refine lv_aload_n hx hb d_CO_register_0 rfl (lv_at hl 0 rfl) ?_
  refine g_CO_registers hc w mw_123 d_CO_register_1 ?_
  refine lv_iload_n hx hb d_CO_register_4 rfl (lv_at hl 1 rfl) ?_
  refine lv_bipush (v := 31) hx hb d_CO_register_5 (by decide) ?_
  refine lv_iand hx hb d_CO_register_7 ?_
  refine a_CO_registers hc w (bd31 _) d_CO_register_8 ?_
  exact rt_i hc w d_CO_register_9 (by rw [← e0, f_CO_register] <;> rfl)
-- CO_put
def f_CO_put_c1 (σ16 : XS) (a1 : Int32) (a2 : Int32)  : XS × Int32 := (σ16, (-1 : Int32))
def f_CO_put (σ : XS) (a1 : Int32) (a2 : Int32) : XS × Int32 := if (a1 &&& (31 : Int32)) = 0 then ((σ, (-1 : Int32))) else (f_CO_put_c1 (xs_regs σ (upd (x_regs σ) (Int32.toNatClampNeg (a1 &&& (31 : Int32))) a2)) a1 a2 )
theorem d_CO_put_0 : decode b_CO_put 0 = .ok (.iload_n 1, 1) := by decide +kernel
theorem d_CO_put_1 : decode b_CO_put 1 = .ok (.bipush 31, 2) := by decide +kernel
theorem d_CO_put_3 : decode b_CO_put 3 = .ok (.iand, 1) := by decide +kernel
theorem d_CO_put_4 : decode b_CO_put 4 = .ok (.ifCond .eq 13, 3) := by decide +kernel
theorem d_CO_put_7 : decode b_CO_put 7 = .ok (.aload_n 0, 1) := by decide +kernel
theorem d_CO_put_8 : decode b_CO_put 8 = .ok (.getfield 14, 3) := by decide +kernel
theorem d_CO_put_11 : decode b_CO_put 11 = .ok (.iload_n 1, 1) := by decide +kernel
theorem d_CO_put_12 : decode b_CO_put 12 = .ok (.bipush 31, 2) := by decide +kernel
theorem d_CO_put_14 : decode b_CO_put 14 = .ok (.iand, 1) := by decide +kernel
theorem d_CO_put_15 : decode b_CO_put 15 = .ok (.iload_n 2, 1) := by decide +kernel
theorem d_CO_put_16 : decode b_CO_put 16 = .ok (.iastore, 1) := by decide +kernel
theorem d_CO_put_17 : decode b_CO_put 17 = .ok (.iconst (-1), 1) := by decide +kernel
theorem d_CO_put_18 : decode b_CO_put 18 = .ok (.ireturn, 1) := by decide +kernel
set_option maxHeartbeats 4000000 in
set_option maxRecDepth 100000 in
theorem c_CO_put (l : Launch) (E : Ev) (ad : Nat → Nat) (σ : XS) (a1 : Int32) (a2 : Int32) : rC xCl l E (xW E ad) y_CO_put b_CO_put 3 (Option.some Jvm.ClassFile.FieldType.int) (rmo 0 0) [.ref (ad 5), .int a1, .int a2] σ (zI (f_CO_put σ a1 a2)) := by
  refine rC.of (by decide) (Nat.le_of_ble_eq_true rfl) ?_
  intro p e s m below meth c A ls hc w hl
  generalize e0 : zI (f_CO_put σ a1 a2) = Z
  have hc : Cx xCl E A p s m ([.ref (ad 5), .int a1, .int a2] : List Value).toArray meth c b_CO_put 3 (Option.some Jvm.ClassFile.FieldType.int) "PageMachine$Core" := hc
  have hx := hc.1
  have hb := hc.2.1
  have ho := hc.2.2.2.2.2.1
  have hT := hc.2.2.2.2.2.2.1
  have hl : lv_has ls 3 [(0, .ref (ad 5)), (1, .int a1), (2, .int a2)] := hl
  refine lv_iload_n hx hb d_CO_put_0 rfl (lv_at hl 1 rfl) ?_
  refine lv_bipush (v := 31) hx hb d_CO_put_1 (by decide) ?_
  refine lv_iand hx hb d_CO_put_3 ?_
  refine lv_if_eq (tgt := 17) hx hb d_CO_put_4 (by decide) (fun q4 => ?_) (fun q4 => ?_)
  · refine lv_iconst (v := -1) hx hb d_CO_put_17 (by decide) ?_
    exact rt_i hc w d_CO_put_18 (by rw [← e0, f_CO_put, if_pos q4] <;> rfl)
  · refine lv_aload_n hx hb d_CO_put_7 rfl (lv_at hl 0 rfl) ?_
    refine g_CO_registers hc w mw_123 d_CO_put_8 ?_
    refine lv_iload_n hx hb d_CO_put_11 rfl (lv_at hl 1 rfl) ?_
    refine lv_bipush (v := 31) hx hb d_CO_put_12 (by decide) ?_
    refine lv_iand hx hb d_CO_put_14 ?_
    refine lv_iload_n hx hb d_CO_put_15 rfl (lv_at hl 2 rfl) ?_
    refine s_CO_registers hc w (bd31 _) d_CO_put_16 (fun σ16 H locs hs16 w => ?_)
    have e_c1 : zI (f_CO_put_c1 σ16 a1 a2 ) = Z := by rw [← e0, f_CO_put, if_neg q4, hs16]
    refine lv_iconst (v := -1) hx hb d_CO_put_17 (by decide) ?_
    exact rt_i hc w d_CO_put_18 (by rw [← e_c1, f_CO_put_c1] <;> rfl)
-- CO_putProduct
def f_CO_putProduct_c2 (σ12 : XS) (a1 : Int64)  : XS × Int32 := (σ12, (-1 : Int32))
def f_CO_putProduct_c1 (σ6 : XS) (a1 : Int64)  : XS × Int32 := f_CO_putProduct_c2 (xs_lo σ6 (Int64.toInt32 a1)) a1 
def f_CO_putProduct (σ : XS) (a1 : Int64) : XS × Int32 := f_CO_putProduct_c1 (xs_hi σ (Int64.toInt32 (a1 >>> (Int32.toInt64 (32 : Int32) &&& 63)))) a1 
theorem d_CO_putProduct_0 : decode b_CO_putProduct 0 = .ok (.aload_n 0, 1) := by decide +kernel
theorem d_CO_putProduct_1 : decode b_CO_putProduct 1 = .ok (.lload_n 1, 1) := by decide +kernel
theorem d_CO_putProduct_2 : decode b_CO_putProduct 2 = .ok (.bipush 32, 2) := by decide +kernel
theorem d_CO_putProduct_4 : decode b_CO_putProduct 4 = .ok (.lshr, 1) := by decide +kernel
theorem d_CO_putProduct_5 : decode b_CO_putProduct 5 = .ok (.l2i, 1) := by decide +kernel
theorem d_CO_putProduct_6 : decode b_CO_putProduct 6 = .ok (.putfield 20, 3) := by decide +kernel
theorem d_CO_putProduct_9 : decode b_CO_putProduct 9 = .ok (.aload_n 0, 1) := by decide +kernel
theorem d_CO_putProduct_10 : decode b_CO_putProduct 10 = .ok (.lload_n 1, 1) := by decide +kernel
theorem d_CO_putProduct_11 : decode b_CO_putProduct 11 = .ok (.l2i, 1) := by decide +kernel
theorem d_CO_putProduct_12 : decode b_CO_putProduct 12 = .ok (.putfield 23, 3) := by decide +kernel
theorem d_CO_putProduct_15 : decode b_CO_putProduct 15 = .ok (.iconst (-1), 1) := by decide +kernel
theorem d_CO_putProduct_16 : decode b_CO_putProduct 16 = .ok (.ireturn, 1) := by decide +kernel
set_option maxHeartbeats 4000000 in
set_option maxRecDepth 100000 in
theorem c_CO_putProduct (l : Launch) (E : Ev) (ad : Nat → Nat) (σ : XS) (a1 : Int64) : rC xCl l E (xW E ad) y_CO_putProduct b_CO_putProduct 3 (Option.some Jvm.ClassFile.FieldType.int) (rmo 0 0) [.ref (ad 5), .long a1] σ (zI (f_CO_putProduct σ a1)) := by
  refine rC.of (by decide) (Nat.le_of_ble_eq_true rfl) ?_
  intro p e s m below meth c A ls hc w hl
  generalize e0 : zI (f_CO_putProduct σ a1) = Z
  have hc : Cx xCl E A p s m ([.ref (ad 5), .long a1] : List Value).toArray meth c b_CO_putProduct 3 (Option.some Jvm.ClassFile.FieldType.int) "PageMachine$Core" := hc
  have hx := hc.1
  have hb := hc.2.1
  have ho := hc.2.2.2.2.2.1
  have hT := hc.2.2.2.2.2.2.1
  have hl : lv_has ls 3 [(0, .ref (ad 5)), (1, .long a1)] := hl
  refine lv_aload_n hx hb d_CO_putProduct_0 rfl (lv_at hl 0 rfl) ?_
  refine lv_lload_n hx hb d_CO_putProduct_1 rfl (lv_at hl 1 rfl) ?_
  refine lv_bipush (v := 32) hx hb d_CO_putProduct_2 (by decide) ?_
  refine lv_lshr hx hb d_CO_putProduct_4 rfl ?_
  refine lv_l2i hx hb d_CO_putProduct_5 rfl ?_
  refine p_CO_hi hc w mw_105 d_CO_putProduct_6 (fun σ6 H locs hs6 w => ?_)
  have e_c1 : zI (f_CO_putProduct_c1 σ6 a1 ) = Z := by rw [← e0, f_CO_putProduct, hs6]
  refine lv_aload_n hx hb d_CO_putProduct_9 rfl (lv_at hl 0 rfl) ?_
  refine lv_lload_n hx hb d_CO_putProduct_10 rfl (lv_at hl 1 rfl) ?_
  refine lv_l2i hx hb d_CO_putProduct_11 rfl ?_
  refine p_CO_lo hc w mw_108 d_CO_putProduct_12 (fun σ12 H locs hs12 w => ?_)
  have e_c2 : zI (f_CO_putProduct_c2 σ12 a1 ) = Z := by rw [← e_c1, f_CO_putProduct_c1, hs12]
  refine lv_iconst (v := -1) hx hb d_CO_putProduct_15 (by decide) ?_
  exact rt_i hc w d_CO_putProduct_16 (by rw [← e_c2, f_CO_putProduct_c2] <;> rfl)
-- CO_restartAt
def f_CO_restartAt_c2 (σ7 : XS) (a1 : Int32)  : XS := σ7
def f_CO_restartAt_c1 (σ2 : XS) (a1 : Int32)  : XS := f_CO_restartAt_c2 (xs_inds σ2 false) a1 
def f_CO_restartAt (σ : XS) (a1 : Int32) : XS := f_CO_restartAt_c1 (xs_pc σ a1) a1 
theorem d_CO_restartAt_0 : decode b_CO_restartAt 0 = .ok (.aload_n 0, 1) := by decide +kernel
theorem d_CO_restartAt_1 : decode b_CO_restartAt 1 = .ok (.iload_n 1, 1) := by decide +kernel
theorem d_CO_restartAt_2 : decode b_CO_restartAt 2 = .ok (.putfield 8, 3) := by decide +kernel
theorem d_CO_restartAt_5 : decode b_CO_restartAt 5 = .ok (.aload_n 0, 1) := by decide +kernel
theorem d_CO_restartAt_6 : decode b_CO_restartAt 6 = .ok (.iconst 0, 1) := by decide +kernel
theorem d_CO_restartAt_7 : decode b_CO_restartAt 7 = .ok (.putfield 26, 3) := by decide +kernel
theorem d_CO_restartAt_10 : decode b_CO_restartAt 10 = .ok (.return_, 1) := by decide +kernel
set_option maxHeartbeats 4000000 in
set_option maxRecDepth 100000 in
theorem c_CO_restartAt (l : Launch) (E : Ev) (ad : Nat → Nat) (σ : XS) (a1 : Int32) : rC xCl l E (xW E ad) y_CO_restartAt b_CO_restartAt 2 (Option.none : Option Jvm.ClassFile.FieldType) (rmo 0 0) [.ref (ad 5), .int a1] σ (zV (f_CO_restartAt σ a1)) := by
  refine rC.of (by decide) (Nat.le_of_ble_eq_true rfl) ?_
  intro p e s m below meth c A ls hc w hl
  generalize e0 : zV (f_CO_restartAt σ a1) = Z
  have hc : Cx xCl E A p s m ([.ref (ad 5), .int a1] : List Value).toArray meth c b_CO_restartAt 2 (Option.none : Option Jvm.ClassFile.FieldType) "PageMachine$Core" := hc
  have hx := hc.1
  have hb := hc.2.1
  have ho := hc.2.2.2.2.2.1
  have hT := hc.2.2.2.2.2.2.1
  have hl : lv_has ls 2 [(0, .ref (ad 5)), (1, .int a1)] := hl
  refine lv_aload_n hx hb d_CO_restartAt_0 rfl (lv_at hl 0 rfl) ?_
  refine lv_iload_n hx hb d_CO_restartAt_1 rfl (lv_at hl 1 rfl) ?_
  refine p_CO_pc hc w mw_111 d_CO_restartAt_2 (fun σ2 H locs hs2 w => ?_)
  have e_c1 : zV (f_CO_restartAt_c1 σ2 a1 ) = Z := by rw [← e0, f_CO_restartAt, hs2]
  refine lv_aload_n hx hb d_CO_restartAt_5 rfl (lv_at hl 0 rfl) ?_
  refine lv_iconst (v := 0) hx hb d_CO_restartAt_6 (by decide) ?_
  refine p_CO_inDelaySlot (v := false) hc w mw_120 d_CO_restartAt_7 (fun σ7 H locs hs7 w => ?_)
  have e_c2 : zV (f_CO_restartAt_c2 σ7 a1 ) = Z := by rw [← e_c1, f_CO_restartAt_c1, hs7]
  exact rt_v hc w d_CO_restartAt_10 (by rw [← e_c2, f_CO_restartAt_c2] <;> rfl)
-- CO_begin
def f_CO_begin_c3 (σ31 : XS) (a1 : Int32)  : XS := σ31
def f_CO_begin_c2 (σ26 : XS) (a1 : Int32)  : XS := f_CO_begin_c3 (xs_nextds σ26 false) a1 
def f_CO_begin_26 (σ26 : XS) (a1 : Int32) (w26_1 : Int32) : XS := f_CO_begin_c2 (xs_nextPc σ26 w26_1) a1 
def f_CO_begin_c1 (σ2 : XS) (a1 : Int32)  : XS := if (zb (x_inds σ2)) = 0 then (f_CO_begin_26 σ2 a1 ((x_pc σ2) + (4 : Int32))) else (f_CO_begin_26 σ2 a1 (x_behind σ2))
def f_CO_begin (σ : XS) (a1 : Int32) : XS := f_CO_begin_c1 (xs_instr σ a1) a1 
theorem d_CO_begin_0 : decode b_CO_begin 0 = .ok (.aload_n 0, 1) := by decide +kernel
theorem d_CO_begin_1 : decode b_CO_begin 1 = .ok (.iload_n 1, 1) := by decide +kernel
theorem d_CO_begin_2 : decode b_CO_begin 2 = .ok (.putfield 30, 3) := by decide +kernel
theorem d_CO_begin_5 : decode b_CO_begin 5 = .ok (.aload_n 0, 1) := by decide +kernel
theorem d_CO_begin_6 : decode b_CO_begin 6 = .ok (.aload_n 0, 1) := by decide +kernel
theorem d_CO_begin_7 : decode b_CO_begin 7 = .ok (.getfield 26, 3) := by decide +kernel
theorem d_CO_begin_10 : decode b_CO_begin 10 = .ok (.ifCond .eq 10, 3) := by decide +kernel
theorem d_CO_begin_13 : decode b_CO_begin 13 = .ok (.aload_n 0, 1) := by decide +kernel
theorem d_CO_begin_14 : decode b_CO_begin 14 = .ok (.getfield 33, 3) := by decide +kernel
theorem d_CO_begin_17 : decode b_CO_begin 17 = .ok (.goto 9, 3) := by decide +kernel
theorem d_CO_begin_20 : decode b_CO_begin 20 = .ok (.aload_n 0, 1) := by decide +kernel
theorem d_CO_begin_21 : decode b_CO_begin 21 = .ok (.getfield 8, 3) := by decide +kernel
theorem d_CO_begin_24 : decode b_CO_begin 24 = .ok (.iconst 4, 1) := by decide +kernel
theorem d_CO_begin_25 : decode b_CO_begin 25 = .ok (.iadd, 1) := by decide +kernel
theorem d_CO_begin_26 : decode b_CO_begin 26 = .ok (.putfield 36, 3) := by decide +kernel
theorem d_CO_begin_29 : decode b_CO_begin 29 = .ok (.aload_n 0, 1) := by decide +kernel
theorem d_CO_begin_30 : decode b_CO_begin 30 = .ok (.iconst 0, 1) := by decide +kernel
theorem d_CO_begin_31 : decode b_CO_begin 31 = .ok (.putfield 39, 3) := by decide +kernel
theorem d_CO_begin_34 : decode b_CO_begin 34 = .ok (.return_, 1) := by decide +kernel
set_option maxHeartbeats 4000000 in
set_option maxRecDepth 100000 in
theorem c_CO_begin (l : Launch) (E : Ev) (ad : Nat → Nat) (σ : XS) (a1 : Int32) : rC xCl l E (xW E ad) y_CO_begin b_CO_begin 2 (Option.none : Option Jvm.ClassFile.FieldType) (rmo 0 0) [.ref (ad 5), .int a1] σ (zV (f_CO_begin σ a1)) := by
  refine rC.of (by decide) (Nat.le_of_ble_eq_true rfl) ?_
  intro p e s m below meth c A ls hc w hl
  generalize e0 : zV (f_CO_begin σ a1) = Z
  have hc : Cx xCl E A p s m ([.ref (ad 5), .int a1] : List Value).toArray meth c b_CO_begin 2 (Option.none : Option Jvm.ClassFile.FieldType) "PageMachine$Core" := hc
  have hx := hc.1
  have hb := hc.2.1
  have ho := hc.2.2.2.2.2.1
  have hT := hc.2.2.2.2.2.2.1
  have hl : lv_has ls 2 [(0, .ref (ad 5)), (1, .int a1)] := hl
  have J26 : ∀ (σ26 : XS) (w26_1 : Int32) (H : Heap) (locs : List Loc) (ls : Array Slot), Wd xCl E A s.heap H locs (xW E ad σ26) → lv_has ls 2 [(0, .ref (ad 5))] → zV (f_CO_begin_26 σ26 a1 w26_1) = Z → W p l e (rmo 0 0) s m ([.ref (ad 5), .int a1] : List Value).toArray below meth c H locs 0 0 (MQ below (rQ xCl (xW E ad) E A Z) ([.ref (ad 5), .int a1] : List Value).toArray s 0 0 A) (F0 m 26 ls [.int w26_1, .ref (ad 5)]) := by
    intro σ26 w26_1 H locs ls w hl e26
    refine p_CO_nextPc hc w mw_126 d_CO_begin_26 (fun σ26 H locs hs26 w => ?_)
    have e_c2 : zV (f_CO_begin_c2 σ26 a1 ) = Z := by rw [← e26, f_CO_begin_26, hs26]
    refine lv_aload_n hx hb d_CO_begin_29 rfl (lv_at hl 0 rfl) ?_
    refine lv_iconst (v := 0) hx hb d_CO_begin_30 (by decide) ?_
    refine p_CO_nextInDelaySlot (v := false) hc w mw_127 d_CO_begin_31 (fun σ31 H locs hs31 w => ?_)
    have e_c3 : zV (f_CO_begin_c3 σ31 a1 ) = Z := by rw [← e_c2, f_CO_begin_c2, hs31]
    exact rt_v hc w d_CO_begin_34 (by rw [← e_c3, f_CO_begin_c3] <;> rfl)
  refine lv_aload_n hx hb d_CO_begin_0 rfl (lv_at hl 0 rfl) ?_
  refine lv_iload_n hx hb d_CO_begin_1 rfl (lv_at hl 1 rfl) ?_
  refine p_CO_instruction hc w mw_125 d_CO_begin_2 (fun σ2 H locs hs2 w => ?_)
  have e_c1 : zV (f_CO_begin_c1 σ2 a1 ) = Z := by rw [← e0, f_CO_begin, hs2]
  refine lv_aload_n hx hb d_CO_begin_5 rfl (lv_at hl 0 rfl) ?_
  refine lv_aload_n hx hb d_CO_begin_6 rfl (lv_at hl 0 rfl) ?_
  refine g_CO_inDelaySlot hc w mw_120 d_CO_begin_7 ?_
  refine lv_if_eq (tgt := 20) hx hb d_CO_begin_10 (by decide) (fun q10 => ?_) (fun q10 => ?_)
  · refine lv_aload_n hx hb d_CO_begin_20 rfl (lv_at hl 0 rfl) ?_
    refine g_CO_pc hc w mw_111 d_CO_begin_21 ?_
    refine lv_iconst (v := 4) hx hb d_CO_begin_24 (by decide) ?_
    refine lv_iadd hx hb d_CO_begin_25 ?_
    exact J26 σ2 ((x_pc σ2) + (4 : Int32)) _ _ _ w (lv_sub hl [0] rfl) (by rw [← e_c1, f_CO_begin_c1, if_pos q10])
  · refine lv_aload_n hx hb d_CO_begin_13 rfl (lv_at hl 0 rfl) ?_
    refine g_CO_behindSlot hc w mw_124 d_CO_begin_14 ?_
    refine lv_goto (tgt := 26) hx hb d_CO_begin_17 (by decide) ?_
    exact J26 σ2 (x_behind σ2) _ _ _ w (lv_sub hl [0] rfl) (by rw [← e_c1, f_CO_begin_c1, if_neg q10])
-- CO_finish
def f_CO_finish_c2 (σ13 : XS)   : XS := σ13
def f_CO_finish_c1 (σ5 : XS)   : XS := f_CO_finish_c2 (xs_inds σ5 (x_nextds σ5))  
def f_CO_finish (σ : XS) : XS := f_CO_finish_c1 (xs_pc σ (x_nextPc σ))  
theorem d_CO_finish_0 : decode b_CO_finish 0 = .ok (.aload_n 0, 1) := by decide +kernel
theorem d_CO_finish_1 : decode b_CO_finish 1 = .ok (.aload_n 0, 1) := by decide +kernel
theorem d_CO_finish_2 : decode b_CO_finish 2 = .ok (.getfield 36, 3) := by decide +kernel
theorem d_CO_finish_5 : decode b_CO_finish 5 = .ok (.putfield 8, 3) := by decide +kernel
theorem d_CO_finish_8 : decode b_CO_finish 8 = .ok (.aload_n 0, 1) := by decide +kernel
theorem d_CO_finish_9 : decode b_CO_finish 9 = .ok (.aload_n 0, 1) := by decide +kernel
theorem d_CO_finish_10 : decode b_CO_finish 10 = .ok (.getfield 39, 3) := by decide +kernel
theorem d_CO_finish_13 : decode b_CO_finish 13 = .ok (.putfield 26, 3) := by decide +kernel
theorem d_CO_finish_16 : decode b_CO_finish 16 = .ok (.return_, 1) := by decide +kernel
set_option maxHeartbeats 4000000 in
set_option maxRecDepth 100000 in
theorem c_CO_finish (l : Launch) (E : Ev) (ad : Nat → Nat) (σ : XS) : rC xCl l E (xW E ad) y_CO_finish b_CO_finish 1 (Option.none : Option Jvm.ClassFile.FieldType) (rmo 0 0) [.ref (ad 5)] σ (zV (f_CO_finish σ)) := by
  refine rC.of (by decide) (Nat.le_of_ble_eq_true rfl) ?_
  intro p e s m below meth c A ls hc w hl
  generalize e0 : zV (f_CO_finish σ) = Z
  have hc : Cx xCl E A p s m ([.ref (ad 5)] : List Value).toArray meth c b_CO_finish 1 (Option.none : Option Jvm.ClassFile.FieldType) "PageMachine$Core" := hc
  have hx := hc.1
  have hb := hc.2.1
  have ho := hc.2.2.2.2.2.1
  have hT := hc.2.2.2.2.2.2.1
  have hl : lv_has ls 1 [(0, .ref (ad 5))] := hl
  refine lv_aload_n hx hb d_CO_finish_0 rfl (lv_at hl 0 rfl) ?_
  refine lv_aload_n hx hb d_CO_finish_1 rfl (lv_at hl 0 rfl) ?_
  refine g_CO_nextPc hc w mw_126 d_CO_finish_2 ?_
  refine p_CO_pc hc w mw_111 d_CO_finish_5 (fun σ5 H locs hs5 w => ?_)
  have e_c1 : zV (f_CO_finish_c1 σ5  ) = Z := by rw [← e0, f_CO_finish, hs5]
  refine lv_aload_n hx hb d_CO_finish_8 rfl (lv_at hl 0 rfl) ?_
  refine lv_aload_n hx hb d_CO_finish_9 rfl (lv_at hl 0 rfl) ?_
  refine g_CO_nextInDelaySlot hc w mw_127 d_CO_finish_10 ?_
  refine p_CO_inDelaySlot (v := x_nextds σ5) hc w mw_120 d_CO_finish_13 (fun σ13 H locs hs13 w => ?_)
  have e_c2 : zV (f_CO_finish_c2 σ13  ) = Z := by rw [← e_c1, f_CO_finish_c1, hs13]
  exact rt_v hc w d_CO_finish_16 (by rw [← e_c2, f_CO_finish_c2] <;> rfl)
-- CO_goBehindSlotTo
def f_CO_goBehindSlotTo_c2 (σ7 : XS) (a1 : Int32)  : XS := σ7
def f_CO_goBehindSlotTo_c1 (σ2 : XS) (a1 : Int32)  : XS := f_CO_goBehindSlotTo_c2 (xs_nextds σ2 true) a1 
def f_CO_goBehindSlotTo (σ : XS) (a1 : Int32) : XS := f_CO_goBehindSlotTo_c1 (xs_behind σ a1) a1 
theorem d_CO_goBehindSlotTo_0 : decode b_CO_goBehindSlotTo 0 = .ok (.aload_n 0, 1) := by decide +kernel
theorem d_CO_goBehindSlotTo_1 : decode b_CO_goBehindSlotTo 1 = .ok (.iload_n 1, 1) := by decide +kernel
theorem d_CO_goBehindSlotTo_2 : decode b_CO_goBehindSlotTo 2 = .ok (.putfield 33, 3) := by decide +kernel
theorem d_CO_goBehindSlotTo_5 : decode b_CO_goBehindSlotTo 5 = .ok (.aload_n 0, 1) := by decide +kernel
theorem d_CO_goBehindSlotTo_6 : decode b_CO_goBehindSlotTo 6 = .ok (.iconst 1, 1) := by decide +kernel
theorem d_CO_goBehindSlotTo_7 : decode b_CO_goBehindSlotTo 7 = .ok (.putfield 39, 3) := by decide +kernel
theorem d_CO_goBehindSlotTo_10 : decode b_CO_goBehindSlotTo 10 = .ok (.return_, 1) := by decide +kernel
set_option maxHeartbeats 4000000 in
set_option maxRecDepth 100000 in
theorem c_CO_goBehindSlotTo (l : Launch) (E : Ev) (ad : Nat → Nat) (σ : XS) (a1 : Int32) : rC xCl l E (xW E ad) y_CO_goBehindSlotTo b_CO_goBehindSlotTo 2 (Option.none : Option Jvm.ClassFile.FieldType) (rmo 0 0) [.ref (ad 5), .int a1] σ (zV (f_CO_goBehindSlotTo σ a1)) := by
  refine rC.of (by decide) (Nat.le_of_ble_eq_true rfl) ?_
  intro p e s m below meth c A ls hc w hl
  generalize e0 : zV (f_CO_goBehindSlotTo σ a1) = Z
  have hc : Cx xCl E A p s m ([.ref (ad 5), .int a1] : List Value).toArray meth c b_CO_goBehindSlotTo 2 (Option.none : Option Jvm.ClassFile.FieldType) "PageMachine$Core" := hc
  have hx := hc.1
  have hb := hc.2.1
  have ho := hc.2.2.2.2.2.1
  have hT := hc.2.2.2.2.2.2.1
  have hl : lv_has ls 2 [(0, .ref (ad 5)), (1, .int a1)] := hl
  refine lv_aload_n hx hb d_CO_goBehindSlotTo_0 rfl (lv_at hl 0 rfl) ?_
  refine lv_iload_n hx hb d_CO_goBehindSlotTo_1 rfl (lv_at hl 1 rfl) ?_
  refine p_CO_behindSlot hc w mw_124 d_CO_goBehindSlotTo_2 (fun σ2 H locs hs2 w => ?_)
  have e_c1 : zV (f_CO_goBehindSlotTo_c1 σ2 a1 ) = Z := by rw [← e0, f_CO_goBehindSlotTo, hs2]
  refine lv_aload_n hx hb d_CO_goBehindSlotTo_5 rfl (lv_at hl 0 rfl) ?_
  refine lv_iconst (v := 1) hx hb d_CO_goBehindSlotTo_6 (by decide) ?_
  refine p_CO_nextInDelaySlot (v := true) hc w mw_127 d_CO_goBehindSlotTo_7 (fun σ7 H locs hs7 w => ?_)
  have e_c2 : zV (f_CO_goBehindSlotTo_c2 σ7 a1 ) = Z := by rw [← e_c1, f_CO_goBehindSlotTo_c1, hs7]
  exact rt_v hc w d_CO_goBehindSlotTo_10 (by rw [← e_c2, f_CO_goBehindSlotTo_c2] <;> rfl)
-- CO_goAtOnceTo
def f_CO_goAtOnceTo_c1 (σ2 : XS) (a1 : Int32)  : XS := σ2
def f_CO_goAtOnceTo (σ : XS) (a1 : Int32) : XS := f_CO_goAtOnceTo_c1 (xs_nextPc σ a1) a1 
theorem d_CO_goAtOnceTo_0 : decode b_CO_goAtOnceTo 0 = .ok (.aload_n 0, 1) := by decide +kernel
theorem d_CO_goAtOnceTo_1 : decode b_CO_goAtOnceTo 1 = .ok (.iload_n 1, 1) := by decide +kernel
theorem d_CO_goAtOnceTo_2 : decode b_CO_goAtOnceTo 2 = .ok (.putfield 36, 3) := by decide +kernel
theorem d_CO_goAtOnceTo_5 : decode b_CO_goAtOnceTo 5 = .ok (.return_, 1) := by decide +kernel
set_option maxHeartbeats 4000000 in
set_option maxRecDepth 100000 in
theorem c_CO_goAtOnceTo (l : Launch) (E : Ev) (ad : Nat → Nat) (σ : XS) (a1 : Int32) : rC xCl l E (xW E ad) y_CO_goAtOnceTo b_CO_goAtOnceTo 2 (Option.none : Option Jvm.ClassFile.FieldType) (rmo 0 0) [.ref (ad 5), .int a1] σ (zV (f_CO_goAtOnceTo σ a1)) := by
  refine rC.of (by decide) (Nat.le_of_ble_eq_true rfl) ?_
  intro p e s m below meth c A ls hc w hl
  generalize e0 : zV (f_CO_goAtOnceTo σ a1) = Z
  have hc : Cx xCl E A p s m ([.ref (ad 5), .int a1] : List Value).toArray meth c b_CO_goAtOnceTo 2 (Option.none : Option Jvm.ClassFile.FieldType) "PageMachine$Core" := hc
  have hx := hc.1
  have hb := hc.2.1
  have ho := hc.2.2.2.2.2.1
  have hT := hc.2.2.2.2.2.2.1
  have hl : lv_has ls 2 [(0, .ref (ad 5)), (1, .int a1)] := hl
  refine lv_aload_n hx hb d_CO_goAtOnceTo_0 rfl (lv_at hl 0 rfl) ?_
  refine lv_iload_n hx hb d_CO_goAtOnceTo_1 rfl (lv_at hl 1 rfl) ?_
  refine p_CO_nextPc hc w mw_126 d_CO_goAtOnceTo_2 (fun σ2 H locs hs2 w => ?_)
  have e_c1 : zV (f_CO_goAtOnceTo_c1 σ2 a1 ) = Z := by rw [← e0, f_CO_goAtOnceTo, hs2]
  exact rt_v hc w d_CO_goAtOnceTo_5 (by rw [← e_c1, f_CO_goAtOnceTo_c1] <;> rfl)
-- CO_op
def f_CO_op (σ : XS) : Int32 := (Int32.toUInt32 (x_instr σ) >>> (Int32.toUInt32 (26 : Int32) &&& Int32.toUInt32 31)).toInt32
theorem d_CO_op_0 : decode b_CO_op 0 = .ok (.aload_n 0, 1) := by decide +kernel
theorem d_CO_op_1 : decode b_CO_op 1 = .ok (.getfield 30, 3) := by decide +kernel
theorem d_CO_op_4 : decode b_CO_op 4 = .ok (.bipush 26, 2) := by decide +kernel
theorem d_CO_op_6 : decode b_CO_op 6 = .ok (.iushr, 1) := by decide +kernel
theorem d_CO_op_7 : decode b_CO_op 7 = .ok (.ireturn, 1) := by decide +kernel
set_option maxHeartbeats 4000000 in
set_option maxRecDepth 100000 in
theorem c_CO_op (l : Launch) (E : Ev) (ad : Nat → Nat) (σ : XS) : rC xCl l E (xW E ad) y_CO_op b_CO_op 1 (Option.some Jvm.ClassFile.FieldType.int) (rmo 0 0) [.ref (ad 5)] σ ((σ, some (Value.int (f_CO_op σ)))) := by
  refine rC.of (by decide) (Nat.le_of_ble_eq_true rfl) ?_
  intro p e s m below meth c A ls hc w hl
  generalize e0 : (σ, some (Value.int (f_CO_op σ))) = Z
  have hc : Cx xCl E A p s m ([.ref (ad 5)] : List Value).toArray meth c b_CO_op 1 (Option.some Jvm.ClassFile.FieldType.int) "PageMachine$Core" := hc
  have hx := hc.1
  have hb := hc.2.1
  have ho := hc.2.2.2.2.2.1
  have hT := hc.2.2.2.2.2.2.1
  have hl : lv_has ls 1 [(0, .ref (ad 5))] := hl
  refine lv_aload_n hx hb d_CO_op_0 rfl (lv_at hl 0 rfl) ?_
  refine g_CO_instruction hc w mw_125 d_CO_op_1 ?_
  refine lv_bipush (v := 26) hx hb d_CO_op_4 (by decide) ?_
  refine lv_iushr hx hb d_CO_op_6 rfl ?_
  exact rt_i hc w d_CO_op_7 (by rw [← e0, f_CO_op] <;> rfl)
-- CO_rs
def f_CO_rs (σ : XS) : Int32 := ((Int32.toUInt32 (x_instr σ) >>> (Int32.toUInt32 (21 : Int32) &&& Int32.toUInt32 31)).toInt32) &&& (31 : Int32)
theorem d_CO_rs_0 : decode b_CO_rs 0 = .ok (.aload_n 0, 1) := by decide +kernel
theorem d_CO_rs_1 : decode b_CO_rs 1 = .ok (.getfield 30, 3) := by decide +kernel
theorem d_CO_rs_4 : decode b_CO_rs 4 = .ok (.bipush 21, 2) := by decide +kernel
theorem d_CO_rs_6 : decode b_CO_rs 6 = .ok (.iushr, 1) := by decide +kernel
theorem d_CO_rs_7 : decode b_CO_rs 7 = .ok (.bipush 31, 2) := by decide +kernel
theorem d_CO_rs_9 : decode b_CO_rs 9 = .ok (.iand, 1) := by decide +kernel
theorem d_CO_rs_10 : decode b_CO_rs 10 = .ok (.ireturn, 1) := by decide +kernel
set_option maxHeartbeats 4000000 in
set_option maxRecDepth 100000 in
theorem c_CO_rs (l : Launch) (E : Ev) (ad : Nat → Nat) (σ : XS) : rC xCl l E (xW E ad) y_CO_rs b_CO_rs 1 (Option.some Jvm.ClassFile.FieldType.int) (rmo 0 0) [.ref (ad 5)] σ ((σ, some (Value.int (f_CO_rs σ)))) := by
  refine rC.of (by decide) (Nat.le_of_ble_eq_true rfl) ?_
  intro p e s m below meth c A ls hc w hl
  generalize e0 : (σ, some (Value.int (f_CO_rs σ))) = Z
  have hc : Cx xCl E A p s m ([.ref (ad 5)] : List Value).toArray meth c b_CO_rs 1 (Option.some Jvm.ClassFile.FieldType.int) "PageMachine$Core" := hc
  have hx := hc.1
  have hb := hc.2.1
  have ho := hc.2.2.2.2.2.1
  have hT := hc.2.2.2.2.2.2.1
  have hl : lv_has ls 1 [(0, .ref (ad 5))] := hl
  refine lv_aload_n hx hb d_CO_rs_0 rfl (lv_at hl 0 rfl) ?_
  refine g_CO_instruction hc w mw_125 d_CO_rs_1 ?_
  refine lv_bipush (v := 21) hx hb d_CO_rs_4 (by decide) ?_
  refine lv_iushr hx hb d_CO_rs_6 rfl ?_
  refine lv_bipush (v := 31) hx hb d_CO_rs_7 (by decide) ?_
  refine lv_iand hx hb d_CO_rs_9 ?_
  exact rt_i hc w d_CO_rs_10 (by rw [← e0, f_CO_rs] <;> rfl)
-- CO_rt
def f_CO_rt (σ : XS) : Int32 := ((Int32.toUInt32 (x_instr σ) >>> (Int32.toUInt32 (16 : Int32) &&& Int32.toUInt32 31)).toInt32) &&& (31 : Int32)
theorem d_CO_rt_0 : decode b_CO_rt 0 = .ok (.aload_n 0, 1) := by decide +kernel
theorem d_CO_rt_1 : decode b_CO_rt 1 = .ok (.getfield 30, 3) := by decide +kernel
theorem d_CO_rt_4 : decode b_CO_rt 4 = .ok (.bipush 16, 2) := by decide +kernel
theorem d_CO_rt_6 : decode b_CO_rt 6 = .ok (.iushr, 1) := by decide +kernel
theorem d_CO_rt_7 : decode b_CO_rt 7 = .ok (.bipush 31, 2) := by decide +kernel
theorem d_CO_rt_9 : decode b_CO_rt 9 = .ok (.iand, 1) := by decide +kernel
theorem d_CO_rt_10 : decode b_CO_rt 10 = .ok (.ireturn, 1) := by decide +kernel
set_option maxHeartbeats 4000000 in
set_option maxRecDepth 100000 in
theorem c_CO_rt (l : Launch) (E : Ev) (ad : Nat → Nat) (σ : XS) : rC xCl l E (xW E ad) y_CO_rt b_CO_rt 1 (Option.some Jvm.ClassFile.FieldType.int) (rmo 0 0) [.ref (ad 5)] σ ((σ, some (Value.int (f_CO_rt σ)))) := by
  refine rC.of (by decide) (Nat.le_of_ble_eq_true rfl) ?_
  intro p e s m below meth c A ls hc w hl
  generalize e0 : (σ, some (Value.int (f_CO_rt σ))) = Z
  have hc : Cx xCl E A p s m ([.ref (ad 5)] : List Value).toArray meth c b_CO_rt 1 (Option.some Jvm.ClassFile.FieldType.int) "PageMachine$Core" := hc
  have hx := hc.1
  have hb := hc.2.1
  have ho := hc.2.2.2.2.2.1
  have hT := hc.2.2.2.2.2.2.1
  have hl : lv_has ls 1 [(0, .ref (ad 5))] := hl
  refine lv_aload_n hx hb d_CO_rt_0 rfl (lv_at hl 0 rfl) ?_
  refine g_CO_instruction hc w mw_125 d_CO_rt_1 ?_
  refine lv_bipush (v := 16) hx hb d_CO_rt_4 (by decide) ?_
  refine lv_iushr hx hb d_CO_rt_6 rfl ?_
  refine lv_bipush (v := 31) hx hb d_CO_rt_7 (by decide) ?_
  refine lv_iand hx hb d_CO_rt_9 ?_
  exact rt_i hc w d_CO_rt_10 (by rw [← e0, f_CO_rt] <;> rfl)
-- CO_rd
def f_CO_rd (σ : XS) : Int32 := ((Int32.toUInt32 (x_instr σ) >>> (Int32.toUInt32 (11 : Int32) &&& Int32.toUInt32 31)).toInt32) &&& (31 : Int32)
theorem d_CO_rd_0 : decode b_CO_rd 0 = .ok (.aload_n 0, 1) := by decide +kernel
theorem d_CO_rd_1 : decode b_CO_rd 1 = .ok (.getfield 30, 3) := by decide +kernel
theorem d_CO_rd_4 : decode b_CO_rd 4 = .ok (.bipush 11, 2) := by decide +kernel
theorem d_CO_rd_6 : decode b_CO_rd 6 = .ok (.iushr, 1) := by decide +kernel
theorem d_CO_rd_7 : decode b_CO_rd 7 = .ok (.bipush 31, 2) := by decide +kernel
theorem d_CO_rd_9 : decode b_CO_rd 9 = .ok (.iand, 1) := by decide +kernel
theorem d_CO_rd_10 : decode b_CO_rd 10 = .ok (.ireturn, 1) := by decide +kernel
set_option maxHeartbeats 4000000 in
set_option maxRecDepth 100000 in
theorem c_CO_rd (l : Launch) (E : Ev) (ad : Nat → Nat) (σ : XS) : rC xCl l E (xW E ad) y_CO_rd b_CO_rd 1 (Option.some Jvm.ClassFile.FieldType.int) (rmo 0 0) [.ref (ad 5)] σ ((σ, some (Value.int (f_CO_rd σ)))) := by
  refine rC.of (by decide) (Nat.le_of_ble_eq_true rfl) ?_
  intro p e s m below meth c A ls hc w hl
  generalize e0 : (σ, some (Value.int (f_CO_rd σ))) = Z
  have hc : Cx xCl E A p s m ([.ref (ad 5)] : List Value).toArray meth c b_CO_rd 1 (Option.some Jvm.ClassFile.FieldType.int) "PageMachine$Core" := hc
  have hx := hc.1
  have hb := hc.2.1
  have ho := hc.2.2.2.2.2.1
  have hT := hc.2.2.2.2.2.2.1
  have hl : lv_has ls 1 [(0, .ref (ad 5))] := hl
  refine lv_aload_n hx hb d_CO_rd_0 rfl (lv_at hl 0 rfl) ?_
  refine g_CO_instruction hc w mw_125 d_CO_rd_1 ?_
  refine lv_bipush (v := 11) hx hb d_CO_rd_4 (by decide) ?_
  refine lv_iushr hx hb d_CO_rd_6 rfl ?_
  refine lv_bipush (v := 31) hx hb d_CO_rd_7 (by decide) ?_
  refine lv_iand hx hb d_CO_rd_9 ?_
  exact rt_i hc w d_CO_rd_10 (by rw [← e0, f_CO_rd] <;> rfl)
-- CO_sh
def f_CO_sh (σ : XS) : Int32 := ((Int32.toUInt32 (x_instr σ) >>> (Int32.toUInt32 (6 : Int32) &&& Int32.toUInt32 31)).toInt32) &&& (31 : Int32)
theorem d_CO_sh_0 : decode b_CO_sh 0 = .ok (.aload_n 0, 1) := by decide +kernel
theorem d_CO_sh_1 : decode b_CO_sh 1 = .ok (.getfield 30, 3) := by decide +kernel
theorem d_CO_sh_4 : decode b_CO_sh 4 = .ok (.bipush 6, 2) := by decide +kernel
theorem d_CO_sh_6 : decode b_CO_sh 6 = .ok (.iushr, 1) := by decide +kernel
theorem d_CO_sh_7 : decode b_CO_sh 7 = .ok (.bipush 31, 2) := by decide +kernel
theorem d_CO_sh_9 : decode b_CO_sh 9 = .ok (.iand, 1) := by decide +kernel
theorem d_CO_sh_10 : decode b_CO_sh 10 = .ok (.ireturn, 1) := by decide +kernel
set_option maxHeartbeats 4000000 in
set_option maxRecDepth 100000 in
theorem c_CO_sh (l : Launch) (E : Ev) (ad : Nat → Nat) (σ : XS) : rC xCl l E (xW E ad) y_CO_sh b_CO_sh 1 (Option.some Jvm.ClassFile.FieldType.int) (rmo 0 0) [.ref (ad 5)] σ ((σ, some (Value.int (f_CO_sh σ)))) := by
  refine rC.of (by decide) (Nat.le_of_ble_eq_true rfl) ?_
  intro p e s m below meth c A ls hc w hl
  generalize e0 : (σ, some (Value.int (f_CO_sh σ))) = Z
  have hc : Cx xCl E A p s m ([.ref (ad 5)] : List Value).toArray meth c b_CO_sh 1 (Option.some Jvm.ClassFile.FieldType.int) "PageMachine$Core" := hc
  have hx := hc.1
  have hb := hc.2.1
  have ho := hc.2.2.2.2.2.1
  have hT := hc.2.2.2.2.2.2.1
  have hl : lv_has ls 1 [(0, .ref (ad 5))] := hl
  refine lv_aload_n hx hb d_CO_sh_0 rfl (lv_at hl 0 rfl) ?_
  refine g_CO_instruction hc w mw_125 d_CO_sh_1 ?_
  refine lv_bipush (v := 6) hx hb d_CO_sh_4 (by decide) ?_
  refine lv_iushr hx hb d_CO_sh_6 rfl ?_
  refine lv_bipush (v := 31) hx hb d_CO_sh_7 (by decide) ?_
  refine lv_iand hx hb d_CO_sh_9 ?_
  exact rt_i hc w d_CO_sh_10 (by rw [← e0, f_CO_sh] <;> rfl)
-- CO_fn
def f_CO_fn (σ : XS) : Int32 := (x_instr σ) &&& (63 : Int32)
theorem d_CO_fn_0 : decode b_CO_fn 0 = .ok (.aload_n 0, 1) := by decide +kernel
theorem d_CO_fn_1 : decode b_CO_fn 1 = .ok (.getfield 30, 3) := by decide +kernel
theorem d_CO_fn_4 : decode b_CO_fn 4 = .ok (.bipush 63, 2) := by decide +kernel
theorem d_CO_fn_6 : decode b_CO_fn 6 = .ok (.iand, 1) := by decide +kernel
theorem d_CO_fn_7 : decode b_CO_fn 7 = .ok (.ireturn, 1) := by decide +kernel
set_option maxHeartbeats 4000000 in
set_option maxRecDepth 100000 in
theorem c_CO_fn (l : Launch) (E : Ev) (ad : Nat → Nat) (σ : XS) : rC xCl l E (xW E ad) y_CO_fn b_CO_fn 1 (Option.some Jvm.ClassFile.FieldType.int) (rmo 0 0) [.ref (ad 5)] σ ((σ, some (Value.int (f_CO_fn σ)))) := by
  refine rC.of (by decide) (Nat.le_of_ble_eq_true rfl) ?_
  intro p e s m below meth c A ls hc w hl
  generalize e0 : (σ, some (Value.int (f_CO_fn σ))) = Z
  have hc : Cx xCl E A p s m ([.ref (ad 5)] : List Value).toArray meth c b_CO_fn 1 (Option.some Jvm.ClassFile.FieldType.int) "PageMachine$Core" := hc
  have hx := hc.1
  have hb := hc.2.1
  have ho := hc.2.2.2.2.2.1
  have hT := hc.2.2.2.2.2.2.1
  have hl : lv_has ls 1 [(0, .ref (ad 5))] := hl
  refine lv_aload_n hx hb d_CO_fn_0 rfl (lv_at hl 0 rfl) ?_
  refine g_CO_instruction hc w mw_125 d_CO_fn_1 ?_
  refine lv_bipush (v := 63) hx hb d_CO_fn_4 (by decide) ?_
  refine lv_iand hx hb d_CO_fn_6 ?_
  exact rt_i hc w d_CO_fn_7 (by rw [← e0, f_CO_fn] <;> rfl)
-- CO_signedImmediate
def f_CO_signedImmediate (σ : XS) : Int32 := (Int32.toInt16 (x_instr σ)).toInt32
theorem d_CO_signedImmediate_0 : decode b_CO_signedImmediate 0 = .ok (.aload_n 0, 1) := by decide +kernel
theorem d_CO_signedImmediate_1 : decode b_CO_signedImmediate 1 = .ok (.getfield 30, 3) := by decide +kernel
theorem d_CO_signedImmediate_4 : decode b_CO_signedImmediate 4 = .ok (.i2s, 1) := by decide +kernel
theorem d_CO_signedImmediate_5 : decode b_CO_signedImmediate 5 = .ok (.ireturn, 1) := by decide +kernel
set_option maxHeartbeats 4000000 in
set_option maxRecDepth 100000 in
theorem c_CO_signedImmediate (l : Launch) (E : Ev) (ad : Nat → Nat) (σ : XS) : rC xCl l E (xW E ad) y_CO_signedImmediate b_CO_signedImmediate 1 (Option.some Jvm.ClassFile.FieldType.int) (rmo 0 0) [.ref (ad 5)] σ ((σ, some (Value.int (f_CO_signedImmediate σ)))) := by
  refine rC.of (by decide) (Nat.le_of_ble_eq_true rfl) ?_
  intro p e s m below meth c A ls hc w hl
  generalize e0 : (σ, some (Value.int (f_CO_signedImmediate σ))) = Z
  have hc : Cx xCl E A p s m ([.ref (ad 5)] : List Value).toArray meth c b_CO_signedImmediate 1 (Option.some Jvm.ClassFile.FieldType.int) "PageMachine$Core" := hc
  have hx := hc.1
  have hb := hc.2.1
  have ho := hc.2.2.2.2.2.1
  have hT := hc.2.2.2.2.2.2.1
  have hl : lv_has ls 1 [(0, .ref (ad 5))] := hl
  refine lv_aload_n hx hb d_CO_signedImmediate_0 rfl (lv_at hl 0 rfl) ?_
  refine g_CO_instruction hc w mw_125 d_CO_signedImmediate_1 ?_
  refine lv_i2s hx hb d_CO_signedImmediate_4 rfl ?_
  exact rt_i hc w d_CO_signedImmediate_5 (by rw [← e0, f_CO_signedImmediate] <;> rfl)
-- CO_plainImmediate
def f_CO_plainImmediate (σ : XS) : Int32 := (x_instr σ) &&& (65535 : Int32)
theorem d_CO_plainImmediate_0 : decode b_CO_plainImmediate 0 = .ok (.aload_n 0, 1) := by decide +kernel
theorem d_CO_plainImmediate_1 : decode b_CO_plainImmediate 1 = .ok (.getfield 30, 3) := by decide +kernel
theorem d_CO_plainImmediate_4 : decode b_CO_plainImmediate 4 = .ok (.ldc 42, 2) := by decide +kernel
theorem d_CO_plainImmediate_6 : decode b_CO_plainImmediate 6 = .ok (.iand, 1) := by decide +kernel
theorem d_CO_plainImmediate_7 : decode b_CO_plainImmediate 7 = .ok (.ireturn, 1) := by decide +kernel
set_option maxHeartbeats 4000000 in
set_option maxRecDepth 100000 in
theorem c_CO_plainImmediate (l : Launch) (E : Ev) (ad : Nat → Nat) (σ : XS) : rC xCl l E (xW E ad) y_CO_plainImmediate b_CO_plainImmediate 1 (Option.some Jvm.ClassFile.FieldType.int) (rmo 0 0) [.ref (ad 5)] σ ((σ, some (Value.int (f_CO_plainImmediate σ)))) := by
  refine rC.of (by decide) (Nat.le_of_ble_eq_true rfl) ?_
  intro p e s m below meth c A ls hc w hl
  generalize e0 : (σ, some (Value.int (f_CO_plainImmediate σ))) = Z
  have hc : Cx xCl E A p s m ([.ref (ad 5)] : List Value).toArray meth c b_CO_plainImmediate 1 (Option.some Jvm.ClassFile.FieldType.int) "PageMachine$Core" := hc
  have hx := hc.1
  have hb := hc.2.1
  have ho := hc.2.2.2.2.2.1
  have hT := hc.2.2.2.2.2.2.1
  have hl : lv_has ls 1 [(0, .ref (ad 5))] := hl
  refine lv_aload_n hx hb d_CO_plainImmediate_0 rfl (lv_at hl 0 rfl) ?_
  refine g_CO_instruction hc w mw_125 d_CO_plainImmediate_1 ?_
  refine lv_ldc (v := 65535) hx hb ho (hT _ mw_698) d_CO_plainImmediate_4 ?_
  refine lv_iand hx hb d_CO_plainImmediate_6 ?_
  exact rt_i hc w d_CO_plainImmediate_7 (by rw [← e0, f_CO_plainImmediate] <;> rfl)
-- CO_jumpField
def f_CO_jumpField (σ : XS) : Int32 := (x_instr σ) &&& (67108863 : Int32)
theorem d_CO_jumpField_0 : decode b_CO_jumpField 0 = .ok (.aload_n 0, 1) := by decide +kernel
theorem d_CO_jumpField_1 : decode b_CO_jumpField 1 = .ok (.getfield 30, 3) := by decide +kernel
theorem d_CO_jumpField_4 : decode b_CO_jumpField 4 = .ok (.ldc 43, 2) := by decide +kernel
theorem d_CO_jumpField_6 : decode b_CO_jumpField 6 = .ok (.iand, 1) := by decide +kernel
theorem d_CO_jumpField_7 : decode b_CO_jumpField 7 = .ok (.ireturn, 1) := by decide +kernel
set_option maxHeartbeats 4000000 in
set_option maxRecDepth 100000 in
theorem c_CO_jumpField (l : Launch) (E : Ev) (ad : Nat → Nat) (σ : XS) : rC xCl l E (xW E ad) y_CO_jumpField b_CO_jumpField 1 (Option.some Jvm.ClassFile.FieldType.int) (rmo 0 0) [.ref (ad 5)] σ ((σ, some (Value.int (f_CO_jumpField σ)))) := by
  refine rC.of (by decide) (Nat.le_of_ble_eq_true rfl) ?_
  intro p e s m below meth c A ls hc w hl
  generalize e0 : (σ, some (Value.int (f_CO_jumpField σ))) = Z
  have hc : Cx xCl E A p s m ([.ref (ad 5)] : List Value).toArray meth c b_CO_jumpField 1 (Option.some Jvm.ClassFile.FieldType.int) "PageMachine$Core" := hc
  have hx := hc.1
  have hb := hc.2.1
  have ho := hc.2.2.2.2.2.1
  have hT := hc.2.2.2.2.2.2.1
  have hl : lv_has ls 1 [(0, .ref (ad 5))] := hl
  refine lv_aload_n hx hb d_CO_jumpField_0 rfl (lv_at hl 0 rfl) ?_
  refine g_CO_instruction hc w mw_125 d_CO_jumpField_1 ?_
  refine lv_ldc (v := 67108863) hx hb ho (hT _ mw_680) d_CO_jumpField_4 ?_
  refine lv_iand hx hb d_CO_jumpField_6 ?_
  exact rt_i hc w d_CO_jumpField_7 (by rw [← e0, f_CO_jumpField] <;> rfl)
-- CO_s
def f_CO_s (σ : XS) : Int32 := x_regs σ (Int32.toNatClampNeg (((Int32.toUInt32 (x_instr σ) >>> (Int32.toUInt32 (21 : Int32) &&& Int32.toUInt32 31)).toInt32) &&& (31 : Int32)))
theorem d_CO_s_0 : decode b_CO_s 0 = .ok (.aload_n 0, 1) := by decide +kernel
theorem d_CO_s_1 : decode b_CO_s 1 = .ok (.getfield 14, 3) := by decide +kernel
theorem d_CO_s_4 : decode b_CO_s 4 = .ok (.aload_n 0, 1) := by decide +kernel
theorem d_CO_s_5 : decode b_CO_s 5 = .ok (.getfield 30, 3) := by decide +kernel
theorem d_CO_s_8 : decode b_CO_s 8 = .ok (.bipush 21, 2) := by decide +kernel
theorem d_CO_s_10 : decode b_CO_s 10 = .ok (.iushr, 1) := by decide +kernel
theorem d_CO_s_11 : decode b_CO_s 11 = .ok (.bipush 31, 2) := by decide +kernel
theorem d_CO_s_13 : decode b_CO_s 13 = .ok (.iand, 1) := by decide +kernel
theorem d_CO_s_14 : decode b_CO_s 14 = .ok (.iaload, 1) := by decide +kernel
theorem d_CO_s_15 : decode b_CO_s 15 = .ok (.ireturn, 1) := by decide +kernel
set_option maxHeartbeats 4000000 in
set_option maxRecDepth 100000 in
theorem c_CO_s (l : Launch) (E : Ev) (ad : Nat → Nat) (σ : XS) : rC xCl l E (xW E ad) y_CO_s b_CO_s 1 (Option.some Jvm.ClassFile.FieldType.int) (rmo 0 0) [.ref (ad 5)] σ ((σ, some (Value.int (f_CO_s σ)))) := by
  refine rC.of (by decide) (Nat.le_of_ble_eq_true rfl) ?_
  intro p e s m below meth c A ls hc w hl
  generalize e0 : (σ, some (Value.int (f_CO_s σ))) = Z
  have hc : Cx xCl E A p s m ([.ref (ad 5)] : List Value).toArray meth c b_CO_s 1 (Option.some Jvm.ClassFile.FieldType.int) "PageMachine$Core" := hc
  have hx := hc.1
  have hb := hc.2.1
  have ho := hc.2.2.2.2.2.1
  have hT := hc.2.2.2.2.2.2.1
  have hl : lv_has ls 1 [(0, .ref (ad 5))] := hl
  refine lv_aload_n hx hb d_CO_s_0 rfl (lv_at hl 0 rfl) ?_
  refine g_CO_registers hc w mw_123 d_CO_s_1 ?_
  refine lv_aload_n hx hb d_CO_s_4 rfl (lv_at hl 0 rfl) ?_
  refine g_CO_instruction hc w mw_125 d_CO_s_5 ?_
  refine lv_bipush (v := 21) hx hb d_CO_s_8 (by decide) ?_
  refine lv_iushr hx hb d_CO_s_10 rfl ?_
  refine lv_bipush (v := 31) hx hb d_CO_s_11 (by decide) ?_
  refine lv_iand hx hb d_CO_s_13 ?_
  refine a_CO_registers hc w (bd31 _) d_CO_s_14 ?_
  exact rt_i hc w d_CO_s_15 (by rw [← e0, f_CO_s] <;> rfl)
-- CO_t
def f_CO_t (σ : XS) : Int32 := x_regs σ (Int32.toNatClampNeg (((Int32.toUInt32 (x_instr σ) >>> (Int32.toUInt32 (16 : Int32) &&& Int32.toUInt32 31)).toInt32) &&& (31 : Int32)))
theorem d_CO_t_0 : decode b_CO_t 0 = .ok (.aload_n 0, 1) := by decide +kernel
theorem d_CO_t_1 : decode b_CO_t 1 = .ok (.getfield 14, 3) := by decide +kernel
theorem d_CO_t_4 : decode b_CO_t 4 = .ok (.aload_n 0, 1) := by decide +kernel
theorem d_CO_t_5 : decode b_CO_t 5 = .ok (.getfield 30, 3) := by decide +kernel
theorem d_CO_t_8 : decode b_CO_t 8 = .ok (.bipush 16, 2) := by decide +kernel
theorem d_CO_t_10 : decode b_CO_t 10 = .ok (.iushr, 1) := by decide +kernel
theorem d_CO_t_11 : decode b_CO_t 11 = .ok (.bipush 31, 2) := by decide +kernel
theorem d_CO_t_13 : decode b_CO_t 13 = .ok (.iand, 1) := by decide +kernel
theorem d_CO_t_14 : decode b_CO_t 14 = .ok (.iaload, 1) := by decide +kernel
theorem d_CO_t_15 : decode b_CO_t 15 = .ok (.ireturn, 1) := by decide +kernel
set_option maxHeartbeats 4000000 in
set_option maxRecDepth 100000 in
theorem c_CO_t (l : Launch) (E : Ev) (ad : Nat → Nat) (σ : XS) : rC xCl l E (xW E ad) y_CO_t b_CO_t 1 (Option.some Jvm.ClassFile.FieldType.int) (rmo 0 0) [.ref (ad 5)] σ ((σ, some (Value.int (f_CO_t σ)))) := by
  refine rC.of (by decide) (Nat.le_of_ble_eq_true rfl) ?_
  intro p e s m below meth c A ls hc w hl
  generalize e0 : (σ, some (Value.int (f_CO_t σ))) = Z
  have hc : Cx xCl E A p s m ([.ref (ad 5)] : List Value).toArray meth c b_CO_t 1 (Option.some Jvm.ClassFile.FieldType.int) "PageMachine$Core" := hc
  have hx := hc.1
  have hb := hc.2.1
  have ho := hc.2.2.2.2.2.1
  have hT := hc.2.2.2.2.2.2.1
  have hl : lv_has ls 1 [(0, .ref (ad 5))] := hl
  refine lv_aload_n hx hb d_CO_t_0 rfl (lv_at hl 0 rfl) ?_
  refine g_CO_registers hc w mw_123 d_CO_t_1 ?_
  refine lv_aload_n hx hb d_CO_t_4 rfl (lv_at hl 0 rfl) ?_
  refine g_CO_instruction hc w mw_125 d_CO_t_5 ?_
  refine lv_bipush (v := 16) hx hb d_CO_t_8 (by decide) ?_
  refine lv_iushr hx hb d_CO_t_10 rfl ?_
  refine lv_bipush (v := 31) hx hb d_CO_t_11 (by decide) ?_
  refine lv_iand hx hb d_CO_t_13 ?_
  refine a_CO_registers hc w (bd31 _) d_CO_t_14 ?_
  exact rt_i hc w d_CO_t_15 (by rw [← e0, f_CO_t] <;> rfl)
end
section
-- ME_has
def f_ME_has (σ : XS) (a1 : Int64) : Bool := if (lg_cmp a1 (0 : Int64)) < 0 then (false) else (if 0 ≤ (lg_cmp a1 (262144 : Int64)) then (false) else (true))
theorem d_ME_has_0 : decode b_ME_has 0 = .ok (.lload_n 1, 1) := by decide +kernel
theorem d_ME_has_1 : decode b_ME_has 1 = .ok (.lconst 0, 1) := by decide +kernel
theorem d_ME_has_2 : decode b_ME_has 2 = .ok (.lcmp, 1) := by decide +kernel
theorem d_ME_has_3 : decode b_ME_has 3 = .ok (.ifCond .lt 15, 3) := by decide +kernel
theorem d_ME_has_6 : decode b_ME_has 6 = .ok (.lload_n 1, 1) := by decide +kernel
theorem d_ME_has_7 : decode b_ME_has 7 = .ok (.ldc2_w 14, 3) := by decide +kernel
theorem d_ME_has_10 : decode b_ME_has 10 = .ok (.lcmp, 1) := by decide +kernel
theorem d_ME_has_11 : decode b_ME_has 11 = .ok (.ifCond .ge 7, 3) := by decide +kernel
theorem d_ME_has_14 : decode b_ME_has 14 = .ok (.iconst 1, 1) := by decide +kernel
theorem d_ME_has_15 : decode b_ME_has 15 = .ok (.goto 4, 3) := by decide +kernel
theorem d_ME_has_18 : decode b_ME_has 18 = .ok (.iconst 0, 1) := by decide +kernel
theorem d_ME_has_19 : decode b_ME_has 19 = .ok (.ireturn, 1) := by decide +kernel
set_option maxHeartbeats 4000000 in
set_option maxRecDepth 100000 in
theorem c_ME_has (l : Launch) (E : Ev) (ad : Nat → Nat) (σ : XS) (a1 : Int64) : rC xCl l E (xW E ad) y_ME_has b_ME_has 3 (Option.some Jvm.ClassFile.FieldType.boolean) (rmo 0 0) [.ref (ad 1), .long a1] σ ((σ, some (Value.int (zb (f_ME_has σ a1))))) := by
  refine rC.of (by decide) (Nat.le_of_ble_eq_true rfl) ?_
  intro p e s m below meth c A ls hc w hl
  generalize e0 : (σ, some (Value.int (zb (f_ME_has σ a1)))) = Z
  have hc : Cx xCl E A p s m ([.ref (ad 1), .long a1] : List Value).toArray meth c b_ME_has 3 (Option.some Jvm.ClassFile.FieldType.boolean) "PageMachine$Memory" := hc
  have hx := hc.1
  have hb := hc.2.1
  have ho := hc.2.2.2.2.2.1
  have hT := hc.2.2.2.2.2.2.1
  have hl : lv_has ls 3 [(0, .ref (ad 1)), (1, .long a1)] := hl
  refine lv_lload_n hx hb d_ME_has_0 rfl (lv_at hl 1 rfl) ?_
  refine lv_lconst (v := 0) hx hb d_ME_has_1 (by decide) ?_
  refine W.lcmp hx hb d_ME_has_2 ?_
  refine lv_if_lt (tgt := 18) hx hb d_ME_has_3 (by decide) (fun q3 => ?_) (fun q3 => ?_)
  · refine lv_iconst (v := 0) hx hb d_ME_has_18 (by decide) ?_
    exact rt_z (v := false) hc w d_ME_has_19 rfl (by rw [← e0, f_ME_has, if_pos q3] <;> rfl)
  · refine lv_lload_n hx hb d_ME_has_6 rfl (lv_at hl 1 rfl) ?_
    refine lv_ldc2 (v := 262144) hx hb ho (hT _ mw_355) d_ME_has_7 ?_
    refine W.lcmp hx hb d_ME_has_10 ?_
    refine lv_if_ge (tgt := 18) hx hb d_ME_has_11 (by decide) (fun q11 => ?_) (fun q11 => ?_)
    · refine lv_iconst (v := 0) hx hb d_ME_has_18 (by decide) ?_
      exact rt_z (v := false) hc w d_ME_has_19 rfl (by rw [← e0, f_ME_has, if_neg q3, if_pos q11] <;> rfl)
    · refine lv_iconst (v := 1) hx hb d_ME_has_14 (by decide) ?_
      refine lv_goto (tgt := 19) hx hb d_ME_has_15 (by decide) ?_
      exact rt_z (v := true) hc w d_ME_has_19 rfl (by rw [← e0, f_ME_has, if_neg q3, if_neg q11] <;> rfl)
-- ME_rowOf
def f_ME_rowOf (σ : XS) (a1 : Int32) : Int32 := (Int32.toUInt32 (a1 &&& (262143 : Int32)) >>> (Int32.toUInt32 (2 : Int32) &&& Int32.toUInt32 31)).toInt32
theorem d_ME_rowOf_0 : decode b_ME_rowOf 0 = .ok (.iload_n 0, 1) := by decide +kernel
theorem d_ME_rowOf_1 : decode b_ME_rowOf 1 = .ok (.ldc 20, 2) := by decide +kernel
theorem d_ME_rowOf_3 : decode b_ME_rowOf 3 = .ok (.iand, 1) := by decide +kernel
theorem d_ME_rowOf_4 : decode b_ME_rowOf 4 = .ok (.iconst 2, 1) := by decide +kernel
theorem d_ME_rowOf_5 : decode b_ME_rowOf 5 = .ok (.iushr, 1) := by decide +kernel
theorem d_ME_rowOf_6 : decode b_ME_rowOf 6 = .ok (.ireturn, 1) := by decide +kernel
set_option maxHeartbeats 4000000 in
set_option maxRecDepth 100000 in
theorem c_ME_rowOf (l : Launch) (E : Ev) (ad : Nat → Nat) (σ : XS) (a1 : Int32) : rC xCl l E (xW E ad) y_ME_rowOf b_ME_rowOf 1 (Option.some Jvm.ClassFile.FieldType.int) (rmo 0 0) [.int a1] σ ((σ, some (Value.int (f_ME_rowOf σ a1)))) := by
  refine rC.of (by decide) (Nat.le_of_ble_eq_true rfl) ?_
  intro p e s m below meth c A ls hc w hl
  generalize e0 : (σ, some (Value.int (f_ME_rowOf σ a1))) = Z
  have hc : Cx xCl E A p s m ([.int a1] : List Value).toArray meth c b_ME_rowOf 1 (Option.some Jvm.ClassFile.FieldType.int) "PageMachine$Memory" := hc
  have hx := hc.1
  have hb := hc.2.1
  have ho := hc.2.2.2.2.2.1
  have hT := hc.2.2.2.2.2.2.1
  have hl : lv_has ls 1 [(0, .int a1)] := hl
  refine lv_iload_n hx hb d_ME_rowOf_0 rfl (lv_at hl 0 rfl) ?_
  refine lv_ldc (v := 262143) hx hb ho (hT _ mw_270) d_ME_rowOf_1 ?_
  refine lv_iand hx hb d_ME_rowOf_3 ?_
  refine lv_iconst (v := 2) hx hb d_ME_rowOf_4 (by decide) ?_
  refine lv_iushr hx hb d_ME_rowOf_5 rfl ?_
  exact rt_i hc w d_ME_rowOf_6 (by rw [← e0, f_ME_rowOf] <;> rfl)
theorem bd_rowOf (σ : XS) (a : Int32) : vp_in (f_ME_rowOf σ a) 65536 := by
  rw [f_ME_rowOf, pk_and a 18 (by decide), pk_ushrN (k := 2) (by omega) _ (by decide)]
  exact vp_in_nI (by omega) (by decide)
-- ME_wordAt
def f_ME_wordAt (σ : XS) (a1 : Int32) : Int32 := x_words σ (Int32.toNatClampNeg (f_ME_rowOf σ a1))
theorem d_ME_wordAt_0 : decode b_ME_wordAt 0 = .ok (.aload_n 0, 1) := by decide +kernel
theorem d_ME_wordAt_1 : decode b_ME_wordAt 1 = .ok (.getfield 10, 3) := by decide +kernel
theorem d_ME_wordAt_4 : decode b_ME_wordAt 4 = .ok (.iload_n 1, 1) := by decide +kernel
theorem d_ME_wordAt_5 : decode b_ME_wordAt 5 = .ok (.invokestatic 16, 3) := by decide +kernel
theorem d_ME_wordAt_8 : decode b_ME_wordAt 8 = .ok (.iaload, 1) := by decide +kernel
theorem d_ME_wordAt_9 : decode b_ME_wordAt 9 = .ok (.ireturn, 1) := by decide +kernel
set_option maxHeartbeats 4000000 in
set_option maxRecDepth 100000 in
theorem c_ME_wordAt (l : Launch) (E : Ev) (ad : Nat → Nat) (σ : XS) (a1 : Int32) : rC xCl l E (xW E ad) y_ME_wordAt b_ME_wordAt 2 (Option.some Jvm.ClassFile.FieldType.int) (rmo 1 20) [.ref (ad 1), .int a1] σ ((σ, some (Value.int (f_ME_wordAt σ a1)))) := by
  refine rC.of (by decide) (Nat.le_of_ble_eq_true rfl) ?_
  intro p e s m below meth c A ls hc w hl
  generalize e0 : (σ, some (Value.int (f_ME_wordAt σ a1))) = Z
  have hc : Cx xCl E A p s m ([.ref (ad 1), .int a1] : List Value).toArray meth c b_ME_wordAt 2 (Option.some Jvm.ClassFile.FieldType.int) "PageMachine$Memory" := hc
  have hx := hc.1
  have hb := hc.2.1
  have ho := hc.2.2.2.2.2.1
  have hT := hc.2.2.2.2.2.2.1
  have hl : lv_has ls 2 [(0, .ref (ad 1)), (1, .int a1)] := hl
  refine lv_aload_n hx hb d_ME_wordAt_0 rfl (lv_at hl 0 rfl) ?_
  refine g_ME_words hc w mw_35 d_ME_wordAt_1 ?_
  refine lv_iload_n hx hb d_ME_wordAt_4 rfl (lv_at hl 1 rfl) ?_
  refine rSI (rest := [.ref (ad 11)]) hc w (c_ME_rowOf l E ad σ a1) ks_ME_rowOf mw_267 ⟨Nat.le_of_ble_eq_true rfl, Nat.le_of_ble_eq_true rfl⟩ hl.1 rfl (Nat.le_of_ble_eq_true rfl) ⟨Nat.zero_le _, Nat.zero_le _⟩ d_ME_wordAt_5 (fun H locs w => ?_)
  refine a_ME_words hc w (bd_rowOf _ _) d_ME_wordAt_8 ?_
  exact rt_i hc w d_ME_wordAt_9 (by rw [← e0, f_ME_wordAt] <;> rfl)
-- ME_putWord
def f_ME_putWord_c1 (σ9 : XS) (a1 : Int32) (a2 : Int32)  : XS := σ9
def f_ME_putWord (σ : XS) (a1 : Int32) (a2 : Int32) : XS := f_ME_putWord_c1 (xs_words σ (upd (x_words σ) (Int32.toNatClampNeg (f_ME_rowOf σ a1)) a2)) a1 a2 
theorem d_ME_putWord_0 : decode b_ME_putWord 0 = .ok (.aload_n 0, 1) := by decide +kernel
theorem d_ME_putWord_1 : decode b_ME_putWord 1 = .ok (.getfield 10, 3) := by decide +kernel
theorem d_ME_putWord_4 : decode b_ME_putWord 4 = .ok (.iload_n 1, 1) := by decide +kernel
theorem d_ME_putWord_5 : decode b_ME_putWord 5 = .ok (.invokestatic 16, 3) := by decide +kernel
theorem d_ME_putWord_8 : decode b_ME_putWord 8 = .ok (.iload_n 2, 1) := by decide +kernel
theorem d_ME_putWord_9 : decode b_ME_putWord 9 = .ok (.iastore, 1) := by decide +kernel
theorem d_ME_putWord_10 : decode b_ME_putWord 10 = .ok (.return_, 1) := by decide +kernel
set_option maxHeartbeats 4000000 in
set_option maxRecDepth 100000 in
theorem c_ME_putWord (l : Launch) (E : Ev) (ad : Nat → Nat) (σ : XS) (a1 : Int32) (a2 : Int32) : rC xCl l E (xW E ad) y_ME_putWord b_ME_putWord 3 (Option.none : Option Jvm.ClassFile.FieldType) (rmo 1 20) [.ref (ad 1), .int a1, .int a2] σ (zV (f_ME_putWord σ a1 a2)) := by
  refine rC.of (by decide) (Nat.le_of_ble_eq_true rfl) ?_
  intro p e s m below meth c A ls hc w hl
  generalize e0 : zV (f_ME_putWord σ a1 a2) = Z
  have hc : Cx xCl E A p s m ([.ref (ad 1), .int a1, .int a2] : List Value).toArray meth c b_ME_putWord 3 (Option.none : Option Jvm.ClassFile.FieldType) "PageMachine$Memory" := hc
  have hx := hc.1
  have hb := hc.2.1
  have ho := hc.2.2.2.2.2.1
  have hT := hc.2.2.2.2.2.2.1
  have hl : lv_has ls 3 [(0, .ref (ad 1)), (1, .int a1), (2, .int a2)] := hl
  refine lv_aload_n hx hb d_ME_putWord_0 rfl (lv_at hl 0 rfl) ?_
  refine g_ME_words hc w mw_35 d_ME_putWord_1 ?_
  refine lv_iload_n hx hb d_ME_putWord_4 rfl (lv_at hl 1 rfl) ?_
  refine rSI (rest := [.ref (ad 11)]) hc w (c_ME_rowOf l E ad σ a1) ks_ME_rowOf mw_267 ⟨Nat.le_of_ble_eq_true rfl, Nat.le_of_ble_eq_true rfl⟩ hl.1 rfl (Nat.le_of_ble_eq_true rfl) ⟨Nat.zero_le _, Nat.zero_le _⟩ d_ME_putWord_5 (fun H locs w => ?_)
  refine lv_iload_n hx hb d_ME_putWord_8 rfl (lv_at hl 2 rfl) ?_
  refine s_ME_words hc w (bd_rowOf _ _) d_ME_putWord_9 (fun σ9 H locs hs9 w => ?_)
  have e_c1 : zV (f_ME_putWord_c1 σ9 a1 a2 ) = Z := by rw [← e0, f_ME_putWord, hs9]
  exact rt_v hc w d_ME_putWord_10 (by rw [← e_c1, f_ME_putWord_c1] <;> rfl)
-- TL_pageOf
def f_TL_pageOf (σ : XS) (a1 : Int32) : Int32 := x_pages σ (Int32.toNatClampNeg (a1 &&& (31 : Int32)))
theorem d_TL_pageOf_0 : decode b_TL_pageOf 0 = .ok (.aload_n 0, 1) := by decide +kernel
theorem d_TL_pageOf_1 : decode b_TL_pageOf 1 = .ok (.getfield 11, 3) := by decide +kernel
theorem d_TL_pageOf_4 : decode b_TL_pageOf 4 = .ok (.iload_n 1, 1) := by decide +kernel
theorem d_TL_pageOf_5 : decode b_TL_pageOf 5 = .ok (.bipush 31, 2) := by decide +kernel
theorem d_TL_pageOf_7 : decode b_TL_pageOf 7 = .ok (.iand, 1) := by decide +kernel
theorem d_TL_pageOf_8 : decode b_TL_pageOf 8 = .ok (.iaload, 1) := by decide +kernel
theorem d_TL_pageOf_9 : decode b_TL_pageOf 9 = .ok (.ireturn, 1) := by decide +kernel
set_option maxHeartbeats 4000000 in
set_option maxRecDepth 100000 in
theorem c_TL_pageOf (l : Launch) (E : Ev) (ad : Nat → Nat) (σ : XS) (a1 : Int32) : rC xCl l E (xW E ad) y_TL_pageOf b_TL_pageOf 2 (Option.some Jvm.ClassFile.FieldType.int) (rmo 0 0) [.ref (ad 3), .int a1] σ ((σ, some (Value.int (f_TL_pageOf σ a1)))) := by
  refine rC.of (by decide) (Nat.le_of_ble_eq_true rfl) ?_
  intro p e s m below meth c A ls hc w hl
  generalize e0 : (σ, some (Value.int (f_TL_pageOf σ a1))) = Z
  have hc : Cx xCl E A p s m ([.ref (ad 3), .int a1] : List Value).toArray meth c b_TL_pageOf 2 (Option.some Jvm.ClassFile.FieldType.int) "PageMachine$Tlb" := hc
  have hx := hc.1
  have hb := hc.2.1
  have ho := hc.2.2.2.2.2.1
  have hT := hc.2.2.2.2.2.2.1
  have hl : lv_has ls 2 [(0, .ref (ad 3)), (1, .int a1)] := hl
  refine lv_aload_n hx hb d_TL_pageOf_0 rfl (lv_at hl 0 rfl) ?_
  refine g_TL_pages hc w mw_63 d_TL_pageOf_1 ?_
  refine lv_iload_n hx hb d_TL_pageOf_4 rfl (lv_at hl 1 rfl) ?_
  refine lv_bipush (v := 31) hx hb d_TL_pageOf_5 (by decide) ?_
  refine lv_iand hx hb d_TL_pageOf_7 ?_
  refine a_TL_pages hc w (bd31 _) d_TL_pageOf_8 ?_
  exact rt_i hc w d_TL_pageOf_9 (by rw [← e0, f_TL_pageOf] <;> rfl)
-- TL_asidOf
def f_TL_asidOf (σ : XS) (a1 : Int32) : Int32 := x_asids σ (Int32.toNatClampNeg (a1 &&& (31 : Int32)))
theorem d_TL_asidOf_0 : decode b_TL_asidOf 0 = .ok (.aload_n 0, 1) := by decide +kernel
theorem d_TL_asidOf_1 : decode b_TL_asidOf 1 = .ok (.getfield 15, 3) := by decide +kernel
theorem d_TL_asidOf_4 : decode b_TL_asidOf 4 = .ok (.iload_n 1, 1) := by decide +kernel
theorem d_TL_asidOf_5 : decode b_TL_asidOf 5 = .ok (.bipush 31, 2) := by decide +kernel
theorem d_TL_asidOf_7 : decode b_TL_asidOf 7 = .ok (.iand, 1) := by decide +kernel
theorem d_TL_asidOf_8 : decode b_TL_asidOf 8 = .ok (.iaload, 1) := by decide +kernel
theorem d_TL_asidOf_9 : decode b_TL_asidOf 9 = .ok (.ireturn, 1) := by decide +kernel
set_option maxHeartbeats 4000000 in
set_option maxRecDepth 100000 in
theorem c_TL_asidOf (l : Launch) (E : Ev) (ad : Nat → Nat) (σ : XS) (a1 : Int32) : rC xCl l E (xW E ad) y_TL_asidOf b_TL_asidOf 2 (Option.some Jvm.ClassFile.FieldType.int) (rmo 0 0) [.ref (ad 3), .int a1] σ ((σ, some (Value.int (f_TL_asidOf σ a1)))) := by
  refine rC.of (by decide) (Nat.le_of_ble_eq_true rfl) ?_
  intro p e s m below meth c A ls hc w hl
  generalize e0 : (σ, some (Value.int (f_TL_asidOf σ a1))) = Z
  have hc : Cx xCl E A p s m ([.ref (ad 3), .int a1] : List Value).toArray meth c b_TL_asidOf 2 (Option.some Jvm.ClassFile.FieldType.int) "PageMachine$Tlb" := hc
  have hx := hc.1
  have hb := hc.2.1
  have ho := hc.2.2.2.2.2.1
  have hT := hc.2.2.2.2.2.2.1
  have hl : lv_has ls 2 [(0, .ref (ad 3)), (1, .int a1)] := hl
  refine lv_aload_n hx hb d_TL_asidOf_0 rfl (lv_at hl 0 rfl) ?_
  refine g_TL_asids hc w mw_64 d_TL_asidOf_1 ?_
  refine lv_iload_n hx hb d_TL_asidOf_4 rfl (lv_at hl 1 rfl) ?_
  refine lv_bipush (v := 31) hx hb d_TL_asidOf_5 (by decide) ?_
  refine lv_iand hx hb d_TL_asidOf_7 ?_
  refine a_TL_asids hc w (bd31 _) d_TL_asidOf_8 ?_
  exact rt_i hc w d_TL_asidOf_9 (by rw [← e0, f_TL_asidOf] <;> rfl)
-- TL_globalOf
def f_TL_globalOf (σ : XS) (a1 : Int32) : Int32 := x_globals σ (Int32.toNatClampNeg (a1 &&& (31 : Int32)))
theorem d_TL_globalOf_0 : decode b_TL_globalOf 0 = .ok (.aload_n 0, 1) := by decide +kernel
theorem d_TL_globalOf_1 : decode b_TL_globalOf 1 = .ok (.getfield 18, 3) := by decide +kernel
theorem d_TL_globalOf_4 : decode b_TL_globalOf 4 = .ok (.iload_n 1, 1) := by decide +kernel
theorem d_TL_globalOf_5 : decode b_TL_globalOf 5 = .ok (.bipush 31, 2) := by decide +kernel
theorem d_TL_globalOf_7 : decode b_TL_globalOf 7 = .ok (.iand, 1) := by decide +kernel
theorem d_TL_globalOf_8 : decode b_TL_globalOf 8 = .ok (.iaload, 1) := by decide +kernel
theorem d_TL_globalOf_9 : decode b_TL_globalOf 9 = .ok (.ireturn, 1) := by decide +kernel
set_option maxHeartbeats 4000000 in
set_option maxRecDepth 100000 in
theorem c_TL_globalOf (l : Launch) (E : Ev) (ad : Nat → Nat) (σ : XS) (a1 : Int32) : rC xCl l E (xW E ad) y_TL_globalOf b_TL_globalOf 2 (Option.some Jvm.ClassFile.FieldType.int) (rmo 0 0) [.ref (ad 3), .int a1] σ ((σ, some (Value.int (f_TL_globalOf σ a1)))) := by
  refine rC.of (by decide) (Nat.le_of_ble_eq_true rfl) ?_
  intro p e s m below meth c A ls hc w hl
  generalize e0 : (σ, some (Value.int (f_TL_globalOf σ a1))) = Z
  have hc : Cx xCl E A p s m ([.ref (ad 3), .int a1] : List Value).toArray meth c b_TL_globalOf 2 (Option.some Jvm.ClassFile.FieldType.int) "PageMachine$Tlb" := hc
  have hx := hc.1
  have hb := hc.2.1
  have ho := hc.2.2.2.2.2.1
  have hT := hc.2.2.2.2.2.2.1
  have hl : lv_has ls 2 [(0, .ref (ad 3)), (1, .int a1)] := hl
  refine lv_aload_n hx hb d_TL_globalOf_0 rfl (lv_at hl 0 rfl) ?_
  refine g_TL_globals hc w mw_65 d_TL_globalOf_1 ?_
  refine lv_iload_n hx hb d_TL_globalOf_4 rfl (lv_at hl 1 rfl) ?_
  refine lv_bipush (v := 31) hx hb d_TL_globalOf_5 (by decide) ?_
  refine lv_iand hx hb d_TL_globalOf_7 ?_
  refine a_TL_globals hc w (bd31 _) d_TL_globalOf_8 ?_
  exact rt_i hc w d_TL_globalOf_9 (by rw [← e0, f_TL_globalOf] <;> rfl)
-- TL_halfOf
def f_TL_halfOf (σ : XS) (a1 : Int32) (a2 : Int32) : Int32 := if a2 = 0 then (x_even σ (Int32.toNatClampNeg (a1 &&& (31 : Int32)))) else (x_odd σ (Int32.toNatClampNeg (a1 &&& (31 : Int32))))
theorem d_TL_halfOf_0 : decode b_TL_halfOf 0 = .ok (.iload_n 2, 1) := by decide +kernel
theorem d_TL_halfOf_1 : decode b_TL_halfOf 1 = .ok (.ifCond .ne 15, 3) := by decide +kernel
theorem d_TL_halfOf_4 : decode b_TL_halfOf 4 = .ok (.aload_n 0, 1) := by decide +kernel
theorem d_TL_halfOf_5 : decode b_TL_halfOf 5 = .ok (.getfield 21, 3) := by decide +kernel
theorem d_TL_halfOf_8 : decode b_TL_halfOf 8 = .ok (.iload_n 1, 1) := by decide +kernel
theorem d_TL_halfOf_9 : decode b_TL_halfOf 9 = .ok (.bipush 31, 2) := by decide +kernel
theorem d_TL_halfOf_11 : decode b_TL_halfOf 11 = .ok (.iand, 1) := by decide +kernel
theorem d_TL_halfOf_12 : decode b_TL_halfOf 12 = .ok (.iaload, 1) := by decide +kernel
theorem d_TL_halfOf_13 : decode b_TL_halfOf 13 = .ok (.goto 12, 3) := by decide +kernel
theorem d_TL_halfOf_16 : decode b_TL_halfOf 16 = .ok (.aload_n 0, 1) := by decide +kernel
theorem d_TL_halfOf_17 : decode b_TL_halfOf 17 = .ok (.getfield 24, 3) := by decide +kernel
theorem d_TL_halfOf_20 : decode b_TL_halfOf 20 = .ok (.iload_n 1, 1) := by decide +kernel
theorem d_TL_halfOf_21 : decode b_TL_halfOf 21 = .ok (.bipush 31, 2) := by decide +kernel
theorem d_TL_halfOf_23 : decode b_TL_halfOf 23 = .ok (.iand, 1) := by decide +kernel
theorem d_TL_halfOf_24 : decode b_TL_halfOf 24 = .ok (.iaload, 1) := by decide +kernel
theorem d_TL_halfOf_25 : decode b_TL_halfOf 25 = .ok (.ireturn, 1) := by decide +kernel
set_option maxHeartbeats 4000000 in
set_option maxRecDepth 100000 in
theorem c_TL_halfOf (l : Launch) (E : Ev) (ad : Nat → Nat) (σ : XS) (a1 : Int32) (a2 : Int32) : rC xCl l E (xW E ad) y_TL_halfOf b_TL_halfOf 3 (Option.some Jvm.ClassFile.FieldType.int) (rmo 0 0) [.ref (ad 3), .int a1, .int a2] σ ((σ, some (Value.int (f_TL_halfOf σ a1 a2)))) := by
  refine rC.of (by decide) (Nat.le_of_ble_eq_true rfl) ?_
  intro p e s m below meth c A ls hc w hl
  generalize e0 : (σ, some (Value.int (f_TL_halfOf σ a1 a2))) = Z
  have hc : Cx xCl E A p s m ([.ref (ad 3), .int a1, .int a2] : List Value).toArray meth c b_TL_halfOf 3 (Option.some Jvm.ClassFile.FieldType.int) "PageMachine$Tlb" := hc
  have hx := hc.1
  have hb := hc.2.1
  have ho := hc.2.2.2.2.2.1
  have hT := hc.2.2.2.2.2.2.1
  have hl : lv_has ls 3 [(0, .ref (ad 3)), (1, .int a1), (2, .int a2)] := hl
  refine lv_iload_n hx hb d_TL_halfOf_0 rfl (lv_at hl 2 rfl) ?_
  refine lv_if_ne (tgt := 16) hx hb d_TL_halfOf_1 (by decide) (fun q1 => ?_) (fun q1 => ?_)
  · refine lv_aload_n hx hb d_TL_halfOf_16 rfl (lv_at hl 0 rfl) ?_
    refine g_TL_oddHalves hc w mw_67 d_TL_halfOf_17 ?_
    refine lv_iload_n hx hb d_TL_halfOf_20 rfl (lv_at hl 1 rfl) ?_
    refine lv_bipush (v := 31) hx hb d_TL_halfOf_21 (by decide) ?_
    refine lv_iand hx hb d_TL_halfOf_23 ?_
    refine a_TL_oddHalves hc w (bd31 _) d_TL_halfOf_24 ?_
    exact rt_i hc w d_TL_halfOf_25 (by rw [← e0, f_TL_halfOf, if_neg q1] <;> rfl)
  · refine lv_aload_n hx hb d_TL_halfOf_4 rfl (lv_at hl 0 rfl) ?_
    refine g_TL_evenHalves hc w mw_66 d_TL_halfOf_5 ?_
    refine lv_iload_n hx hb d_TL_halfOf_8 rfl (lv_at hl 1 rfl) ?_
    refine lv_bipush (v := 31) hx hb d_TL_halfOf_9 (by decide) ?_
    refine lv_iand hx hb d_TL_halfOf_11 ?_
    refine a_TL_evenHalves hc w (bd31 _) d_TL_halfOf_12 ?_
    refine lv_goto (tgt := 25) hx hb d_TL_halfOf_13 (by decide) ?_
    exact rt_i hc w d_TL_halfOf_25 (by rw [← e0, f_TL_halfOf, if_pos q1] <;> rfl)
-- TL_fill
def f_TL_fill_c5 (σ65 : XS) (a1 : Int32) (a2 : Int32) (a3 : Int32) (a4 : Int32)  : XS := σ65
def f_TL_fill_c4 (σ53 : XS) (a1 : Int32) (a2 : Int32) (a3 : Int32) (a4 : Int32) (u1_5 : Int32) : XS := f_TL_fill_c5 (xs_odd σ53 (upd (x_odd σ53) (Int32.toNatClampNeg u1_5) (a4 &&& (67108862 : Int32)))) a1 a2 a3 a4 
def f_TL_fill_c3 (σ42 : XS) (a1 : Int32) (a2 : Int32) (a3 : Int32) (a4 : Int32) (u1_5 : Int32) : XS := f_TL_fill_c4 (xs_even σ42 (upd (x_even σ42) (Int32.toNatClampNeg u1_5) (a3 &&& (67108862 : Int32)))) a1 a2 a3 a4 u1_5
def f_TL_fill_c2 (σ29 : XS) (a1 : Int32) (a2 : Int32) (a3 : Int32) (a4 : Int32) (u1_5 : Int32) : XS := f_TL_fill_c3 (xs_globals σ29 (upd (x_globals σ29) (Int32.toNatClampNeg u1_5) ((a3 &&& a4) &&& (1 : Int32)))) a1 a2 a3 a4 u1_5
def f_TL_fill_c1 (σ17 : XS) (a1 : Int32) (a2 : Int32) (a3 : Int32) (a4 : Int32) (u1_5 : Int32) : XS := f_TL_fill_c2 (xs_asids σ17 (upd (x_asids σ17) (Int32.toNatClampNeg u1_5) (a2 &&& (255 : Int32)))) a1 a2 a3 a4 u1_5
def f_TL_fill (σ : XS) (a1 : Int32) (a2 : Int32) (a3 : Int32) (a4 : Int32) : XS := f_TL_fill_c1 (xs_pages σ (upd (x_pages σ) (Int32.toNatClampNeg (a1 &&& (31 : Int32))) (a2 &&& (-8192 : Int32)))) a1 a2 a3 a4 (a1 &&& (31 : Int32))
theorem d_TL_fill_0 : decode b_TL_fill 0 = .ok (.iload_n 1, 1) := by decide +kernel
theorem d_TL_fill_1 : decode b_TL_fill 1 = .ok (.bipush 31, 2) := by decide +kernel
theorem d_TL_fill_3 : decode b_TL_fill 3 = .ok (.iand, 1) := by decide +kernel
theorem d_TL_fill_4 : decode b_TL_fill 4 = .ok (.istore 5, 2) := by decide +kernel
theorem d_TL_fill_6 : decode b_TL_fill 6 = .ok (.aload_n 0, 1) := by decide +kernel
theorem d_TL_fill_7 : decode b_TL_fill 7 = .ok (.getfield 11, 3) := by decide +kernel
theorem d_TL_fill_10 : decode b_TL_fill 10 = .ok (.iload 5, 2) := by decide +kernel
theorem d_TL_fill_12 : decode b_TL_fill 12 = .ok (.iload_n 2, 1) := by decide +kernel
theorem d_TL_fill_13 : decode b_TL_fill 13 = .ok (.sipush (-8192), 3) := by decide +kernel
theorem d_TL_fill_16 : decode b_TL_fill 16 = .ok (.iand, 1) := by decide +kernel
theorem d_TL_fill_17 : decode b_TL_fill 17 = .ok (.iastore, 1) := by decide +kernel
theorem d_TL_fill_18 : decode b_TL_fill 18 = .ok (.aload_n 0, 1) := by decide +kernel
theorem d_TL_fill_19 : decode b_TL_fill 19 = .ok (.getfield 15, 3) := by decide +kernel
theorem d_TL_fill_22 : decode b_TL_fill 22 = .ok (.iload 5, 2) := by decide +kernel
theorem d_TL_fill_24 : decode b_TL_fill 24 = .ok (.iload_n 2, 1) := by decide +kernel
theorem d_TL_fill_25 : decode b_TL_fill 25 = .ok (.sipush 255, 3) := by decide +kernel
theorem d_TL_fill_28 : decode b_TL_fill 28 = .ok (.iand, 1) := by decide +kernel
theorem d_TL_fill_29 : decode b_TL_fill 29 = .ok (.iastore, 1) := by decide +kernel
theorem d_TL_fill_30 : decode b_TL_fill 30 = .ok (.aload_n 0, 1) := by decide +kernel
theorem d_TL_fill_31 : decode b_TL_fill 31 = .ok (.getfield 18, 3) := by decide +kernel
theorem d_TL_fill_34 : decode b_TL_fill 34 = .ok (.iload 5, 2) := by decide +kernel
theorem d_TL_fill_36 : decode b_TL_fill 36 = .ok (.iload_n 3, 1) := by decide +kernel
theorem d_TL_fill_37 : decode b_TL_fill 37 = .ok (.iload 4, 2) := by decide +kernel
theorem d_TL_fill_39 : decode b_TL_fill 39 = .ok (.iand, 1) := by decide +kernel
theorem d_TL_fill_40 : decode b_TL_fill 40 = .ok (.iconst 1, 1) := by decide +kernel
theorem d_TL_fill_41 : decode b_TL_fill 41 = .ok (.iand, 1) := by decide +kernel
theorem d_TL_fill_42 : decode b_TL_fill 42 = .ok (.iastore, 1) := by decide +kernel
theorem d_TL_fill_43 : decode b_TL_fill 43 = .ok (.aload_n 0, 1) := by decide +kernel
theorem d_TL_fill_44 : decode b_TL_fill 44 = .ok (.getfield 21, 3) := by decide +kernel
theorem d_TL_fill_47 : decode b_TL_fill 47 = .ok (.iload 5, 2) := by decide +kernel
theorem d_TL_fill_49 : decode b_TL_fill 49 = .ok (.iload_n 3, 1) := by decide +kernel
theorem d_TL_fill_50 : decode b_TL_fill 50 = .ok (.ldc 27, 2) := by decide +kernel
theorem d_TL_fill_52 : decode b_TL_fill 52 = .ok (.iand, 1) := by decide +kernel
theorem d_TL_fill_53 : decode b_TL_fill 53 = .ok (.iastore, 1) := by decide +kernel
theorem d_TL_fill_54 : decode b_TL_fill 54 = .ok (.aload_n 0, 1) := by decide +kernel
theorem d_TL_fill_55 : decode b_TL_fill 55 = .ok (.getfield 24, 3) := by decide +kernel
theorem d_TL_fill_58 : decode b_TL_fill 58 = .ok (.iload 5, 2) := by decide +kernel
theorem d_TL_fill_60 : decode b_TL_fill 60 = .ok (.iload 4, 2) := by decide +kernel
theorem d_TL_fill_62 : decode b_TL_fill 62 = .ok (.ldc 27, 2) := by decide +kernel
theorem d_TL_fill_64 : decode b_TL_fill 64 = .ok (.iand, 1) := by decide +kernel
theorem d_TL_fill_65 : decode b_TL_fill 65 = .ok (.iastore, 1) := by decide +kernel
theorem d_TL_fill_66 : decode b_TL_fill 66 = .ok (.return_, 1) := by decide +kernel
set_option maxHeartbeats 4000000 in
set_option maxRecDepth 100000 in
theorem c_TL_fill (l : Launch) (E : Ev) (ad : Nat → Nat) (σ : XS) (a1 : Int32) (a2 : Int32) (a3 : Int32) (a4 : Int32) : rC xCl l E (xW E ad) y_TL_fill b_TL_fill 6 (Option.none : Option Jvm.ClassFile.FieldType) (rmo 0 0) [.ref (ad 3), .int a1, .int a2, .int a3, .int a4] σ (zV (f_TL_fill σ a1 a2 a3 a4)) := by
  refine rC.of (by decide) (Nat.le_of_ble_eq_true rfl) ?_
  intro p e s m below meth c A ls hc w hl
  generalize e0 : zV (f_TL_fill σ a1 a2 a3 a4) = Z
  have hc : Cx xCl E A p s m ([.ref (ad 3), .int a1, .int a2, .int a3, .int a4] : List Value).toArray meth c b_TL_fill 6 (Option.none : Option Jvm.ClassFile.FieldType) "PageMachine$Tlb" := hc
  have hx := hc.1
  have hb := hc.2.1
  have ho := hc.2.2.2.2.2.1
  have hT := hc.2.2.2.2.2.2.1
  have hl : lv_has ls 6 [(0, .ref (ad 3)), (1, .int a1), (2, .int a2), (3, .int a3), (4, .int a4)] := hl
  refine lv_iload_n hx hb d_TL_fill_0 rfl (lv_at hl 1 rfl) ?_
  refine lv_bipush (v := 31) hx hb d_TL_fill_1 (by decide) ?_
  refine lv_iand hx hb d_TL_fill_3 ?_
  refine lv_istore (lv' := [(5, .int (a1 &&& (31 : Int32))), (0, .ref (ad 3)), (1, .int a1), (2, .int a2), (3, .int a3), (4, .int a4)]) hx hb d_TL_fill_4 hl (by decide) rfl (fun ls hl => ?_)
  refine lv_aload_n hx hb d_TL_fill_6 rfl (lv_at hl 1 rfl) ?_
  refine g_TL_pages hc w mw_63 d_TL_fill_7 ?_
  refine lv_iload hx hb d_TL_fill_10 (lv_at hl 0 rfl) ?_
  refine lv_iload_n hx hb d_TL_fill_12 rfl (lv_at hl 3 rfl) ?_
  refine lv_sipush (v := -8192) hx hb d_TL_fill_13 (by decide) ?_
  refine lv_iand hx hb d_TL_fill_16 ?_
  refine s_TL_pages hc w (bd31 _) d_TL_fill_17 (fun σ17 H locs hs17 w => ?_)
  generalize hv_u1_5 : a1 &&& (31 : Int32) = u1_5 at hl ⊢
  have e_c1 : zV (f_TL_fill_c1 σ17 a1 a2 a3 a4 u1_5) = Z := by rw [← e0, f_TL_fill, hs17, hv_u1_5]
  refine lv_aload_n hx hb d_TL_fill_18 rfl (lv_at hl 1 rfl) ?_
  refine g_TL_asids hc w mw_64 d_TL_fill_19 ?_
  refine lv_iload hx hb d_TL_fill_22 (lv_at hl 0 rfl) ?_
  refine lv_iload_n hx hb d_TL_fill_24 rfl (lv_at hl 3 rfl) ?_
  refine lv_sipush (v := 255) hx hb d_TL_fill_25 (by decide) ?_
  refine lv_iand hx hb d_TL_fill_28 ?_
  refine s_TL_asids hc w (by rw [← hv_u1_5]; exact bd31 _) d_TL_fill_29 (fun σ29 H locs hs29 w => ?_)
  have e_c2 : zV (f_TL_fill_c2 σ29 a1 a2 a3 a4 u1_5) = Z := by rw [← e_c1, f_TL_fill_c1, hs29]
  refine lv_aload_n hx hb d_TL_fill_30 rfl (lv_at hl 1 rfl) ?_
  refine g_TL_globals hc w mw_65 d_TL_fill_31 ?_
  refine lv_iload hx hb d_TL_fill_34 (lv_at hl 0 rfl) ?_
  refine lv_iload_n hx hb d_TL_fill_36 rfl (lv_at hl 4 rfl) ?_
  refine lv_iload hx hb d_TL_fill_37 (lv_at hl 5 rfl) ?_
  refine lv_iand hx hb d_TL_fill_39 ?_
  refine lv_iconst (v := 1) hx hb d_TL_fill_40 (by decide) ?_
  refine lv_iand hx hb d_TL_fill_41 ?_
  refine s_TL_globals hc w (by rw [← hv_u1_5]; exact bd31 _) d_TL_fill_42 (fun σ42 H locs hs42 w => ?_)
  have e_c3 : zV (f_TL_fill_c3 σ42 a1 a2 a3 a4 u1_5) = Z := by rw [← e_c2, f_TL_fill_c2, hs42]
  refine lv_aload_n hx hb d_TL_fill_43 rfl (lv_at hl 1 rfl) ?_
  refine g_TL_evenHalves hc w mw_66 d_TL_fill_44 ?_
  refine lv_iload hx hb d_TL_fill_47 (lv_at hl 0 rfl) ?_
  refine lv_iload_n hx hb d_TL_fill_49 rfl (lv_at hl 4 rfl) ?_
  refine lv_ldc (v := 67108862) hx hb ho (hT _ mw_753) d_TL_fill_50 ?_
  refine lv_iand hx hb d_TL_fill_52 ?_
  refine s_TL_evenHalves hc w (by rw [← hv_u1_5]; exact bd31 _) d_TL_fill_53 (fun σ53 H locs hs53 w => ?_)
  have e_c4 : zV (f_TL_fill_c4 σ53 a1 a2 a3 a4 u1_5) = Z := by rw [← e_c3, f_TL_fill_c3, hs53]
  refine lv_aload_n hx hb d_TL_fill_54 rfl (lv_at hl 1 rfl) ?_
  refine g_TL_oddHalves hc w mw_67 d_TL_fill_55 ?_
  refine lv_iload hx hb d_TL_fill_58 (lv_at hl 0 rfl) ?_
  refine lv_iload hx hb d_TL_fill_60 (lv_at hl 5 rfl) ?_
  refine lv_ldc (v := 67108862) hx hb ho (hT _ mw_753) d_TL_fill_62 ?_
  refine lv_iand hx hb d_TL_fill_64 ?_
  refine s_TL_oddHalves hc w (by rw [← hv_u1_5]; exact bd31 _) d_TL_fill_65 (fun σ65 H locs hs65 w => ?_)
  have e_c5 : zV (f_TL_fill_c5 σ65 a1 a2 a3 a4 ) = Z := by rw [← e_c4, f_TL_fill_c4, hs65]
  exact rt_v hc w d_TL_fill_66 (by rw [← e_c5, f_TL_fill_c5] <;> rfl)
-- TL_match
theorem bd_lt {v M : Int32} {i N : Nat} (hi : v = nI i) (hM : M = nI N) (h : ¬ M ≤ v) (hN : N < 2 ^ 31) (hj : i < 2 ^ 31) : i < N ∧ vp_in v N ∧ v + 1 = nI (i + 1) := by
  subst hi; subst hM
  have h1 : i < N := Nat.not_le.mp fun q => h (nI_le q hj)
  exact ⟨h1, vp_in_nI h1 hN, nI_1 i⟩
def f_TL_match_16 : Nat → XS → Int32 → Int32 → Int32 → Int32 → Int32 → Int32
  | 0, σ, a1, a2, v16_5, v16_4, v16_3 => 0
  | fuel + 1, σ, a1, a2, v16_5, v16_4, v16_3 => if (32 : Int32) ≤ v16_5 then ((-1 : Int32)) else (if (x_pages σ (Int32.toNatClampNeg v16_5)) = v16_3 then (if (x_globals σ (Int32.toNatClampNeg v16_5)) = 0 then (if (x_asids σ (Int32.toNatClampNeg v16_5)) = v16_4 then (v16_5) else (f_TL_match_16 fuel σ a1 a2 (v16_5 + (1 : Int32)) v16_4 v16_3)) else (v16_5)) else (f_TL_match_16 fuel σ a1 a2 (v16_5 + (1 : Int32)) v16_4 v16_3))
def f_TL_match (σ : XS) (a1 : Int32) (a2 : Int32) : Int32 := f_TL_match_16 33 σ a1 a2 (0 : Int32) (a2 &&& (255 : Int32)) (a1 &&& (-8192 : Int32))
theorem d_TL_match_0 : decode b_TL_match 0 = .ok (.iload_n 1, 1) := by decide +kernel
theorem d_TL_match_1 : decode b_TL_match 1 = .ok (.sipush (-8192), 3) := by decide +kernel
theorem d_TL_match_4 : decode b_TL_match 4 = .ok (.iand, 1) := by decide +kernel
theorem d_TL_match_5 : decode b_TL_match 5 = .ok (.istore_n 3, 1) := by decide +kernel
theorem d_TL_match_6 : decode b_TL_match 6 = .ok (.iload_n 2, 1) := by decide +kernel
theorem d_TL_match_7 : decode b_TL_match 7 = .ok (.sipush 255, 3) := by decide +kernel
theorem d_TL_match_10 : decode b_TL_match 10 = .ok (.iand, 1) := by decide +kernel
theorem d_TL_match_11 : decode b_TL_match 11 = .ok (.istore 4, 2) := by decide +kernel
theorem d_TL_match_13 : decode b_TL_match 13 = .ok (.iconst 0, 1) := by decide +kernel
theorem d_TL_match_14 : decode b_TL_match 14 = .ok (.istore 5, 2) := by decide +kernel
theorem d_TL_match_16 : decode b_TL_match 16 = .ok (.iload 5, 2) := by decide +kernel
theorem d_TL_match_18 : decode b_TL_match 18 = .ok (.bipush 32, 2) := by decide +kernel
theorem d_TL_match_20 : decode b_TL_match 20 = .ok (.if_icmp .ge 45, 3) := by decide +kernel
theorem d_TL_match_23 : decode b_TL_match 23 = .ok (.aload_n 0, 1) := by decide +kernel
theorem d_TL_match_24 : decode b_TL_match 24 = .ok (.getfield 11, 3) := by decide +kernel
theorem d_TL_match_27 : decode b_TL_match 27 = .ok (.iload 5, 2) := by decide +kernel
theorem d_TL_match_29 : decode b_TL_match 29 = .ok (.iaload, 1) := by decide +kernel
theorem d_TL_match_30 : decode b_TL_match 30 = .ok (.iload_n 3, 1) := by decide +kernel
theorem d_TL_match_31 : decode b_TL_match 31 = .ok (.if_icmp .ne 28, 3) := by decide +kernel
theorem d_TL_match_34 : decode b_TL_match 34 = .ok (.aload_n 0, 1) := by decide +kernel
theorem d_TL_match_35 : decode b_TL_match 35 = .ok (.getfield 18, 3) := by decide +kernel
theorem d_TL_match_38 : decode b_TL_match 38 = .ok (.iload 5, 2) := by decide +kernel
theorem d_TL_match_40 : decode b_TL_match 40 = .ok (.iaload, 1) := by decide +kernel
theorem d_TL_match_41 : decode b_TL_match 41 = .ok (.ifCond .ne 15, 3) := by decide +kernel
theorem d_TL_match_44 : decode b_TL_match 44 = .ok (.aload_n 0, 1) := by decide +kernel
theorem d_TL_match_45 : decode b_TL_match 45 = .ok (.getfield 15, 3) := by decide +kernel
theorem d_TL_match_48 : decode b_TL_match 48 = .ok (.iload 5, 2) := by decide +kernel
theorem d_TL_match_50 : decode b_TL_match 50 = .ok (.iaload, 1) := by decide +kernel
theorem d_TL_match_51 : decode b_TL_match 51 = .ok (.iload 4, 2) := by decide +kernel
theorem d_TL_match_53 : decode b_TL_match 53 = .ok (.if_icmp .ne 6, 3) := by decide +kernel
theorem d_TL_match_56 : decode b_TL_match 56 = .ok (.iload 5, 2) := by decide +kernel
theorem d_TL_match_58 : decode b_TL_match 58 = .ok (.ireturn, 1) := by decide +kernel
theorem d_TL_match_59 : decode b_TL_match 59 = .ok (.iinc 5 1, 3) := by decide +kernel
theorem d_TL_match_62 : decode b_TL_match 62 = .ok (.goto (-46), 3) := by decide +kernel
theorem d_TL_match_65 : decode b_TL_match 65 = .ok (.iconst (-1), 1) := by decide +kernel
theorem d_TL_match_66 : decode b_TL_match 66 = .ok (.ireturn, 1) := by decide +kernel
set_option maxHeartbeats 4000000 in
set_option maxRecDepth 100000 in
theorem c_TL_match (l : Launch) (E : Ev) (ad : Nat → Nat) (σ : XS) (a1 : Int32) (a2 : Int32) : rC xCl l E (xW E ad) y_TL_match b_TL_match 6 (Option.some Jvm.ClassFile.FieldType.int) (rmo 0 0) [.ref (ad 3), .int a1, .int a2] σ ((σ, some (Value.int (f_TL_match σ a1 a2)))) := by
  refine rC.of (by decide) (Nat.le_of_ble_eq_true rfl) ?_
  intro p e s m below meth c A ls hc w hl
  generalize e0 : (σ, some (Value.int (f_TL_match σ a1 a2))) = Z
  have hc : Cx xCl E A p s m ([.ref (ad 3), .int a1, .int a2] : List Value).toArray meth c b_TL_match 6 (Option.some Jvm.ClassFile.FieldType.int) "PageMachine$Tlb" := hc
  have hx := hc.1
  have hb := hc.2.1
  have ho := hc.2.2.2.2.2.1
  have hT := hc.2.2.2.2.2.2.1
  have hl : lv_has ls 6 [(0, .ref (ad 3)), (1, .int a1), (2, .int a2)] := hl
  have J16 : ∀ (fuel : Nat) (v16_5 : Int32) (v16_4 : Int32) (v16_3 : Int32) , (∃ i : Nat, v16_5 = nI i ∧ i ≤ 32 ∧ i + fuel = 33) → ∀ (H : Heap) (locs : List Loc) (ls : Array Slot), Wd xCl E A s.heap H locs (xW E ad σ) → lv_has ls 6 [(5, .int v16_5), (4, .int v16_4), (3, .int v16_3), (0, .ref (ad 3))] → (σ, some (Value.int (f_TL_match_16 fuel σ a1 a2 v16_5 v16_4 v16_3))) = Z → W p l e (rmo 0 0) s m ([.ref (ad 3), .int a1, .int a2] : List Value).toArray below meth c H locs 0 0 (MQ below (rQ xCl (xW E ad) E A Z) ([.ref (ad 3), .int a1, .int a2] : List Value).toArray s 0 0 A) (F0 m 16 ls []) := by
    intro fuel
    induction fuel with
    | zero =>
      intro v16_5 v16_4 v16_3 hinv
      exact absurd hinv (fun ⟨i, _, h1, h2⟩ => by omega)
    | succ fuel ih =>
      intro v16_5 v16_4 v16_3 hinv H locs ls w hl e16
      obtain ⟨i, hi, h1, h2⟩ := hinv
      refine lv_iload hx hb d_TL_match_16 (lv_at hl 0 rfl) ?_
      refine lv_bipush (v := 32) hx hb d_TL_match_18 (by decide) ?_
      refine lv_icmp_ge (tgt := 65) hx hb d_TL_match_20 (by decide) (fun q20 => ?_) (fun q20 => ?_)
      · refine lv_iconst (v := -1) hx hb d_TL_match_65 (by decide) ?_
        exact rt_i hc w d_TL_match_66 (by rw [← e16, f_TL_match_16, if_pos q20] <;> rfl)
      · refine lv_aload_n hx hb d_TL_match_23 rfl (lv_at hl 3 rfl) ?_
        refine g_TL_pages hc w mw_63 d_TL_match_24 ?_
        refine lv_iload hx hb d_TL_match_27 (lv_at hl 0 rfl) ?_
        refine a_TL_pages hc w ((bd_lt hi (N := 32) rfl q20 (by decide) (by omega)).2.1) d_TL_match_29 ?_
        refine lv_iload_n hx hb d_TL_match_30 rfl (lv_at hl 2 rfl) ?_
        refine lv_icmp_ne (tgt := 59) hx hb d_TL_match_31 (by decide) (fun q31 => ?_) (fun q31 => ?_)
        · refine lv_iinc (v := v16_5 + (1 : Int32)) (lv' := [(5, .int (v16_5 + (1 : Int32))), (4, .int v16_4), (3, .int v16_3), (0, .ref (ad 3))]) hx hb d_TL_match_59 hl (k := 0) rfl rfl (by decide) rfl (fun ls hl => ?_)
          refine lv_goto (tgt := 16) hx hb d_TL_match_62 (by decide) ?_
          exact ih (v16_5 + (1 : Int32)) v16_4 v16_3 (⟨i + 1, (bd_lt hi (N := 32) rfl q20 (by decide) (by omega)).2.2, (bd_lt hi (N := 32) rfl q20 (by decide) (by omega)).1, by omega⟩) _ _ _ w (lv_sub hl [0, 1, 2, 3] rfl) (by rw [← e16, f_TL_match_16, if_neg q20, if_neg q31])
        · refine lv_aload_n hx hb d_TL_match_34 rfl (lv_at hl 3 rfl) ?_
          refine g_TL_globals hc w mw_65 d_TL_match_35 ?_
          refine lv_iload hx hb d_TL_match_38 (lv_at hl 0 rfl) ?_
          refine a_TL_globals hc w ((bd_lt hi (N := 32) rfl q20 (by decide) (by omega)).2.1) d_TL_match_40 ?_
          refine lv_if_ne (tgt := 56) hx hb d_TL_match_41 (by decide) (fun q41 => ?_) (fun q41 => ?_)
          · refine lv_iload hx hb d_TL_match_56 (lv_at hl 0 rfl) ?_
            exact rt_i hc w d_TL_match_58 (by rw [← e16, f_TL_match_16, if_neg q20, if_pos q31, if_neg q41] <;> rfl)
          · refine lv_aload_n hx hb d_TL_match_44 rfl (lv_at hl 3 rfl) ?_
            refine g_TL_asids hc w mw_64 d_TL_match_45 ?_
            refine lv_iload hx hb d_TL_match_48 (lv_at hl 0 rfl) ?_
            refine a_TL_asids hc w ((bd_lt hi (N := 32) rfl q20 (by decide) (by omega)).2.1) d_TL_match_50 ?_
            refine lv_iload hx hb d_TL_match_51 (lv_at hl 1 rfl) ?_
            refine lv_icmp_ne (tgt := 59) hx hb d_TL_match_53 (by decide) (fun q53 => ?_) (fun q53 => ?_)
            · refine lv_iinc (v := v16_5 + (1 : Int32)) (lv' := [(5, .int (v16_5 + (1 : Int32))), (4, .int v16_4), (3, .int v16_3), (0, .ref (ad 3))]) hx hb d_TL_match_59 hl (k := 0) rfl rfl (by decide) rfl (fun ls hl => ?_)
              refine lv_goto (tgt := 16) hx hb d_TL_match_62 (by decide) ?_
              exact ih (v16_5 + (1 : Int32)) v16_4 v16_3 (⟨i + 1, (bd_lt hi (N := 32) rfl q20 (by decide) (by omega)).2.2, (bd_lt hi (N := 32) rfl q20 (by decide) (by omega)).1, by omega⟩) _ _ _ w (lv_sub hl [0, 1, 2, 3] rfl) (by rw [← e16, f_TL_match_16, if_neg q20, if_pos q31, if_pos q41, if_neg q53])
            · refine lv_iload hx hb d_TL_match_56 (lv_at hl 0 rfl) ?_
              exact rt_i hc w d_TL_match_58 (by rw [← e16, f_TL_match_16, if_neg q20, if_pos q31, if_pos q41, if_pos q53] <;> rfl)
  refine lv_iload_n hx hb d_TL_match_0 rfl (lv_at hl 1 rfl) ?_
  refine lv_sipush (v := -8192) hx hb d_TL_match_1 (by decide) ?_
  refine lv_iand hx hb d_TL_match_4 ?_
  refine lv_istore_n (lv' := [(3, .int (a1 &&& (-8192 : Int32))), (0, .ref (ad 3)), (1, .int a1), (2, .int a2)]) hx hb d_TL_match_5 rfl hl (by decide) rfl (fun ls hl => ?_)
  refine lv_iload_n hx hb d_TL_match_6 rfl (lv_at hl 3 rfl) ?_
  refine lv_sipush (v := 255) hx hb d_TL_match_7 (by decide) ?_
  refine lv_iand hx hb d_TL_match_10 ?_
  refine lv_istore (lv' := [(4, .int (a2 &&& (255 : Int32))), (3, .int (a1 &&& (-8192 : Int32))), (0, .ref (ad 3)), (1, .int a1), (2, .int a2)]) hx hb d_TL_match_11 hl (by decide) rfl (fun ls hl => ?_)
  refine lv_iconst (v := 0) hx hb d_TL_match_13 (by decide) ?_
  refine lv_istore (lv' := [(5, .int (0 : Int32)), (4, .int (a2 &&& (255 : Int32))), (3, .int (a1 &&& (-8192 : Int32))), (0, .ref (ad 3)), (1, .int a1), (2, .int a2)]) hx hb d_TL_match_14 hl (by decide) rfl (fun ls hl => ?_)
  exact J16 33 (0 : Int32) (a2 &&& (255 : Int32)) (a1 &&& (-8192 : Int32)) (⟨0, rfl, by omega, by omega⟩) _ _ _ w (lv_sub hl [0, 1, 2, 3] rfl) (by rw [← e0, f_TL_match])
end
section
-- SR_read
def f_SR_read_38 (σ : XS) (a1 : Int32) (w38_0 : Int32) (w38_1 : Int32) : Int32 := w38_0 ||| w38_1
def f_SR_read (σ : XS) (a1 : Int32) : Int32 := if a1 = (13 : Int32) then (if (zb (x_timer σ)) = 0 then (f_SR_read_38 σ a1 ((x_values σ (Int32.toNatClampNeg (a1 &&& (31 : Int32)))) ||| ((x_lines σ) <<< ((10 : Int32) &&& 31))) (0 : Int32)) else (f_SR_read_38 σ a1 ((x_values σ (Int32.toNatClampNeg (a1 &&& (31 : Int32)))) ||| ((x_lines σ) <<< ((10 : Int32) &&& 31))) (32768 : Int32))) else (x_values σ (Int32.toNatClampNeg (a1 &&& (31 : Int32))))
theorem d_SR_read_0 : decode b_SR_read 0 = .ok (.aload_n 0, 1) := by decide +kernel
theorem d_SR_read_1 : decode b_SR_read 1 = .ok (.getfield 11, 3) := by decide +kernel
theorem d_SR_read_4 : decode b_SR_read 4 = .ok (.iload_n 1, 1) := by decide +kernel
theorem d_SR_read_5 : decode b_SR_read 5 = .ok (.bipush 31, 2) := by decide +kernel
theorem d_SR_read_7 : decode b_SR_read 7 = .ok (.iand, 1) := by decide +kernel
theorem d_SR_read_8 : decode b_SR_read 8 = .ok (.iaload, 1) := by decide +kernel
theorem d_SR_read_9 : decode b_SR_read 9 = .ok (.istore_n 2, 1) := by decide +kernel
theorem d_SR_read_10 : decode b_SR_read 10 = .ok (.iload_n 1, 1) := by decide +kernel
theorem d_SR_read_11 : decode b_SR_read 11 = .ok (.bipush 13, 2) := by decide +kernel
theorem d_SR_read_13 : decode b_SR_read 13 = .ok (.if_icmp .ne 29, 3) := by decide +kernel
theorem d_SR_read_16 : decode b_SR_read 16 = .ok (.iload_n 2, 1) := by decide +kernel
theorem d_SR_read_17 : decode b_SR_read 17 = .ok (.aload_n 0, 1) := by decide +kernel
theorem d_SR_read_18 : decode b_SR_read 18 = .ok (.getfield 16, 3) := by decide +kernel
theorem d_SR_read_21 : decode b_SR_read 21 = .ok (.bipush 10, 2) := by decide +kernel
theorem d_SR_read_23 : decode b_SR_read 23 = .ok (.ishl, 1) := by decide +kernel
theorem d_SR_read_24 : decode b_SR_read 24 = .ok (.ior, 1) := by decide +kernel
theorem d_SR_read_25 : decode b_SR_read 25 = .ok (.aload_n 0, 1) := by decide +kernel
theorem d_SR_read_26 : decode b_SR_read 26 = .ok (.getfield 20, 3) := by decide +kernel
theorem d_SR_read_29 : decode b_SR_read 29 = .ok (.ifCond .eq 8, 3) := by decide +kernel
theorem d_SR_read_32 : decode b_SR_read 32 = .ok (.ldc 24, 2) := by decide +kernel
theorem d_SR_read_34 : decode b_SR_read 34 = .ok (.goto 4, 3) := by decide +kernel
theorem d_SR_read_37 : decode b_SR_read 37 = .ok (.iconst 0, 1) := by decide +kernel
theorem d_SR_read_38 : decode b_SR_read 38 = .ok (.ior, 1) := by decide +kernel
theorem d_SR_read_39 : decode b_SR_read 39 = .ok (.goto 4, 3) := by decide +kernel
theorem d_SR_read_42 : decode b_SR_read 42 = .ok (.iload_n 2, 1) := by decide +kernel
theorem d_SR_read_43 : decode b_SR_read 43 = .ok (.ireturn, 1) := by decide +kernel
set_option maxHeartbeats 4000000 in
set_option maxRecDepth 100000 in
theorem c_SR_read (l : Launch) (E : Ev) (ad : Nat → Nat) (σ : XS) (a1 : Int32) : rC xCl l E (xW E ad) y_SR_read b_SR_read 3 (Option.some Jvm.ClassFile.FieldType.int) (rmo 0 0) [.ref (ad 2), .int a1] σ ((σ, some (Value.int (f_SR_read σ a1)))) := by
  refine rC.of (by decide) (Nat.le_of_ble_eq_true rfl) ?_
  intro p e s m below meth c A ls hc w hl
  generalize e0 : (σ, some (Value.int (f_SR_read σ a1))) = Z
  have hc : Cx xCl E A p s m ([.ref (ad 2), .int a1] : List Value).toArray meth c b_SR_read 3 (Option.some Jvm.ClassFile.FieldType.int) "PageMachine$SystemRegisters" := hc
  have hx := hc.1
  have hb := hc.2.1
  have ho := hc.2.2.2.2.2.1
  have hT := hc.2.2.2.2.2.2.1
  have hl : lv_has ls 3 [(0, .ref (ad 2)), (1, .int a1)] := hl
  have J38 : ∀ (w38_0 : Int32) (w38_1 : Int32) (H : Heap) (locs : List Loc) (ls : Array Slot), Wd xCl E A s.heap H locs (xW E ad σ) → lv_has ls 3 [] → (σ, some (Value.int (f_SR_read_38 σ a1 w38_0 w38_1))) = Z → W p l e (rmo 0 0) s m ([.ref (ad 2), .int a1] : List Value).toArray below meth c H locs 0 0 (MQ below (rQ xCl (xW E ad) E A Z) ([.ref (ad 2), .int a1] : List Value).toArray s 0 0 A) (F0 m 38 ls [.int w38_1, .int w38_0]) := by
    intro w38_0 w38_1 H locs ls w hl e38
    refine lv_ior hx hb d_SR_read_38 ?_
    refine lv_goto (tgt := 43) hx hb d_SR_read_39 (by decide) ?_
    exact rt_i hc w d_SR_read_43 (by rw [← e38, f_SR_read_38] <;> rfl)
  refine lv_aload_n hx hb d_SR_read_0 rfl (lv_at hl 0 rfl) ?_
  refine g_SR_values hc w mw_47 d_SR_read_1 ?_
  refine lv_iload_n hx hb d_SR_read_4 rfl (lv_at hl 1 rfl) ?_
  refine lv_bipush (v := 31) hx hb d_SR_read_5 (by decide) ?_
  refine lv_iand hx hb d_SR_read_7 ?_
  refine a_SR_values hc w (bd31 _) d_SR_read_8 ?_
  refine lv_istore_n (lv' := [(2, .int (x_values σ (Int32.toNatClampNeg (a1 &&& (31 : Int32))))), (0, .ref (ad 2)), (1, .int a1)]) hx hb d_SR_read_9 rfl hl (by decide) rfl (fun ls hl => ?_)
  refine lv_iload_n hx hb d_SR_read_10 rfl (lv_at hl 2 rfl) ?_
  refine lv_bipush (v := 13) hx hb d_SR_read_11 (by decide) ?_
  refine lv_icmp_ne (tgt := 42) hx hb d_SR_read_13 (by decide) (fun q13 => ?_) (fun q13 => ?_)
  · refine lv_iload_n hx hb d_SR_read_42 rfl (lv_at hl 0 rfl) ?_
    exact rt_i hc w d_SR_read_43 (by rw [← e0, f_SR_read, if_neg q13] <;> rfl)
  · refine lv_iload_n hx hb d_SR_read_16 rfl (lv_at hl 0 rfl) ?_
    refine lv_aload_n hx hb d_SR_read_17 rfl (lv_at hl 1 rfl) ?_
    refine g_SR_lines hc w mw_48 d_SR_read_18 ?_
    refine lv_bipush (v := 10) hx hb d_SR_read_21 (by decide) ?_
    refine lv_ishl hx hb d_SR_read_23 ?_
    refine lv_ior hx hb d_SR_read_24 ?_
    refine lv_aload_n hx hb d_SR_read_25 rfl (lv_at hl 1 rfl) ?_
    refine g_SR_timerIsDue hc w mw_49 d_SR_read_26 ?_
    refine lv_if_eq (tgt := 37) hx hb d_SR_read_29 (by decide) (fun q29 => ?_) (fun q29 => ?_)
    · refine lv_iconst (v := 0) hx hb d_SR_read_37 (by decide) ?_
      exact J38 ((x_values σ (Int32.toNatClampNeg (a1 &&& (31 : Int32)))) ||| ((x_lines σ) <<< ((10 : Int32) &&& 31))) (0 : Int32) _ _ _ w (lv_sub hl [] rfl) (by rw [← e0, f_SR_read, if_pos q13, if_pos q29])
    · refine lv_ldc (v := 32768) hx hb ho (hT _ mw_419) d_SR_read_32 ?_
      refine lv_goto (tgt := 38) hx hb d_SR_read_34 (by decide) ?_
      exact J38 ((x_values σ (Int32.toNatClampNeg (a1 &&& (31 : Int32)))) ||| ((x_lines σ) <<< ((10 : Int32) &&& 31))) (32768 : Int32) _ _ _ w (lv_sub hl [] rfl) (by rw [← e0, f_SR_read, if_pos q13, if_neg q29])
-- SR_write
def f_SR_write_c4 (σ48 : XS) (a1 : Int32) (a2 : Int32)  : XS := σ48
def f_SR_write_c3 (σ65 : XS) (a1 : Int32) (a2 : Int32)  : XS := σ65
def f_SR_write_c2 (σ77 : XS) (a1 : Int32) (a2 : Int32)  : XS := σ77
def f_SR_write_c1 (σ33 : XS) (a1 : Int32) (a2 : Int32) (u1_4 : Int32) (u1_3 : Int32) : XS := if u1_3 = 0 then (f_SR_write_c4 (xs_values σ33 (upd (x_values σ33) (Int32.toNatClampNeg (0 : Int32)) ((x_values σ33 (Int32.toNatClampNeg (0 : Int32))) &&& u1_4))) a1 a2 ) else (if u1_3 = (6 : Int32) then (f_SR_write_c3 (xs_values σ33 (upd (x_values σ33) (Int32.toNatClampNeg (1 : Int32)) (31 : Int32))) a1 a2 ) else (if u1_3 = (11 : Int32) then (f_SR_write_c2 (xs_timer σ33 false) a1 a2 ) else (σ33)))
def f_SR_write (σ : XS) (a1 : Int32) (a2 : Int32) : XS := f_SR_write_c1 (xs_values σ (upd (x_values σ) (Int32.toNatClampNeg (a1 &&& (31 : Int32))) (((x_values σ (Int32.toNatClampNeg (a1 &&& (31 : Int32)))) &&& ((wbI (Int32.toNatClampNeg (a1 &&& (31 : Int32)))) ^^^ (-1 : Int32))) ||| (a2 &&& (wbI (Int32.toNatClampNeg (a1 &&& (31 : Int32)))))))) a1 a2 (wbI (Int32.toNatClampNeg (a1 &&& (31 : Int32)))) (a1 &&& (31 : Int32))
theorem d_SR_write_0 : decode b_SR_write 0 = .ok (.iload_n 1, 1) := by decide +kernel
theorem d_SR_write_1 : decode b_SR_write 1 = .ok (.bipush 31, 2) := by decide +kernel
theorem d_SR_write_3 : decode b_SR_write 3 = .ok (.iand, 1) := by decide +kernel
theorem d_SR_write_4 : decode b_SR_write 4 = .ok (.istore_n 3, 1) := by decide +kernel
theorem d_SR_write_5 : decode b_SR_write 5 = .ok (.getstatic 25, 3) := by decide +kernel
theorem d_SR_write_8 : decode b_SR_write 8 = .ok (.iload_n 3, 1) := by decide +kernel
theorem d_SR_write_9 : decode b_SR_write 9 = .ok (.iaload, 1) := by decide +kernel
theorem d_SR_write_10 : decode b_SR_write 10 = .ok (.istore 4, 2) := by decide +kernel
theorem d_SR_write_12 : decode b_SR_write 12 = .ok (.aload_n 0, 1) := by decide +kernel
theorem d_SR_write_13 : decode b_SR_write 13 = .ok (.getfield 11, 3) := by decide +kernel
theorem d_SR_write_16 : decode b_SR_write 16 = .ok (.iload_n 3, 1) := by decide +kernel
theorem d_SR_write_17 : decode b_SR_write 17 = .ok (.aload_n 0, 1) := by decide +kernel
theorem d_SR_write_18 : decode b_SR_write 18 = .ok (.getfield 11, 3) := by decide +kernel
theorem d_SR_write_21 : decode b_SR_write 21 = .ok (.iload_n 3, 1) := by decide +kernel
theorem d_SR_write_22 : decode b_SR_write 22 = .ok (.iaload, 1) := by decide +kernel
theorem d_SR_write_23 : decode b_SR_write 23 = .ok (.iload 4, 2) := by decide +kernel
theorem d_SR_write_25 : decode b_SR_write 25 = .ok (.iconst (-1), 1) := by decide +kernel
theorem d_SR_write_26 : decode b_SR_write 26 = .ok (.ixor, 1) := by decide +kernel
theorem d_SR_write_27 : decode b_SR_write 27 = .ok (.iand, 1) := by decide +kernel
theorem d_SR_write_28 : decode b_SR_write 28 = .ok (.iload_n 2, 1) := by decide +kernel
theorem d_SR_write_29 : decode b_SR_write 29 = .ok (.iload 4, 2) := by decide +kernel
theorem d_SR_write_31 : decode b_SR_write 31 = .ok (.iand, 1) := by decide +kernel
theorem d_SR_write_32 : decode b_SR_write 32 = .ok (.ior, 1) := by decide +kernel
theorem d_SR_write_33 : decode b_SR_write 33 = .ok (.iastore, 1) := by decide +kernel
theorem d_SR_write_34 : decode b_SR_write 34 = .ok (.iload_n 3, 1) := by decide +kernel
theorem d_SR_write_35 : decode b_SR_write 35 = .ok (.ifCond .ne 17, 3) := by decide +kernel
theorem d_SR_write_38 : decode b_SR_write 38 = .ok (.aload_n 0, 1) := by decide +kernel
theorem d_SR_write_39 : decode b_SR_write 39 = .ok (.getfield 11, 3) := by decide +kernel
theorem d_SR_write_42 : decode b_SR_write 42 = .ok (.iconst 0, 1) := by decide +kernel
theorem d_SR_write_43 : decode b_SR_write 43 = .ok (.dup2, 1) := by decide +kernel
theorem d_SR_write_44 : decode b_SR_write 44 = .ok (.iaload, 1) := by decide +kernel
theorem d_SR_write_45 : decode b_SR_write 45 = .ok (.iload 4, 2) := by decide +kernel
theorem d_SR_write_47 : decode b_SR_write 47 = .ok (.iand, 1) := by decide +kernel
theorem d_SR_write_48 : decode b_SR_write 48 = .ok (.iastore, 1) := by decide +kernel
theorem d_SR_write_49 : decode b_SR_write 49 = .ok (.goto 31, 3) := by decide +kernel
theorem d_SR_write_52 : decode b_SR_write 52 = .ok (.iload_n 3, 1) := by decide +kernel
theorem d_SR_write_53 : decode b_SR_write 53 = .ok (.bipush 6, 2) := by decide +kernel
theorem d_SR_write_55 : decode b_SR_write 55 = .ok (.if_icmp .ne 14, 3) := by decide +kernel
theorem d_SR_write_58 : decode b_SR_write 58 = .ok (.aload_n 0, 1) := by decide +kernel
theorem d_SR_write_59 : decode b_SR_write 59 = .ok (.getfield 11, 3) := by decide +kernel
theorem d_SR_write_62 : decode b_SR_write 62 = .ok (.iconst 1, 1) := by decide +kernel
theorem d_SR_write_63 : decode b_SR_write 63 = .ok (.bipush 31, 2) := by decide +kernel
theorem d_SR_write_65 : decode b_SR_write 65 = .ok (.iastore, 1) := by decide +kernel
theorem d_SR_write_66 : decode b_SR_write 66 = .ok (.goto 14, 3) := by decide +kernel
theorem d_SR_write_69 : decode b_SR_write 69 = .ok (.iload_n 3, 1) := by decide +kernel
theorem d_SR_write_70 : decode b_SR_write 70 = .ok (.bipush 11, 2) := by decide +kernel
theorem d_SR_write_72 : decode b_SR_write 72 = .ok (.if_icmp .ne 8, 3) := by decide +kernel
theorem d_SR_write_75 : decode b_SR_write 75 = .ok (.aload_n 0, 1) := by decide +kernel
theorem d_SR_write_76 : decode b_SR_write 76 = .ok (.iconst 0, 1) := by decide +kernel
theorem d_SR_write_77 : decode b_SR_write 77 = .ok (.putfield 20, 3) := by decide +kernel
theorem d_SR_write_80 : decode b_SR_write 80 = .ok (.return_, 1) := by decide +kernel
set_option maxHeartbeats 4000000 in
set_option maxRecDepth 100000 in
theorem c_SR_write (l : Launch) (E : Ev) (ad : Nat → Nat) (σ : XS) (a1 : Int32) (a2 : Int32) : rC xCl l E (xW E ad) y_SR_write b_SR_write 5 (Option.none : Option Jvm.ClassFile.FieldType) (rmo 0 0) [.ref (ad 2), .int a1, .int a2] σ (zV (f_SR_write σ a1 a2)) := by
  refine rC.of (by decide) (Nat.le_of_ble_eq_true rfl) ?_
  intro p e s m below meth c A ls hc w hl
  generalize e0 : zV (f_SR_write σ a1 a2) = Z
  have hc : Cx xCl E A p s m ([.ref (ad 2), .int a1, .int a2] : List Value).toArray meth c b_SR_write 5 (Option.none : Option Jvm.ClassFile.FieldType) "PageMachine$SystemRegisters" := hc
  have hx := hc.1
  have hb := hc.2.1
  have ho := hc.2.2.2.2.2.1
  have hT := hc.2.2.2.2.2.2.1
  have hl : lv_has ls 5 [(0, .ref (ad 2)), (1, .int a1), (2, .int a2)] := hl
  refine lv_iload_n hx hb d_SR_write_0 rfl (lv_at hl 1 rfl) ?_
  refine lv_bipush (v := 31) hx hb d_SR_write_1 (by decide) ?_
  refine lv_iand hx hb d_SR_write_3 ?_
  refine lv_istore_n (lv' := [(3, .int (a1 &&& (31 : Int32))), (0, .ref (ad 2)), (1, .int a1), (2, .int a2)]) hx hb d_SR_write_4 rfl hl (by decide) rfl (fun ls hl => ?_)
  refine va_gets hx hb hc.2.2.2.2.2.2.2.2.1.1 w.2.2.1 ho (hT _ mw_398) (fun _ h => h) d_SR_write_5 ?_
  refine lv_iload_n hx hb d_SR_write_8 rfl (lv_at hl 0 rfl) ?_
  refine va_ti hx hb hc.2.2.2.2.2.2.2.2.1.2 w.2.2.1 (bd31 _) rfl d_SR_write_9 ?_
  refine lv_istore (lv' := [(4, .int (wbI (Int32.toNatClampNeg (a1 &&& (31 : Int32))))), (3, .int (a1 &&& (31 : Int32))), (0, .ref (ad 2)), (1, .int a1), (2, .int a2)]) hx hb d_SR_write_10 hl (by decide) rfl (fun ls hl => ?_)
  refine lv_aload_n hx hb d_SR_write_12 rfl (lv_at hl 2 rfl) ?_
  refine g_SR_values hc w mw_47 d_SR_write_13 ?_
  refine lv_iload_n hx hb d_SR_write_16 rfl (lv_at hl 1 rfl) ?_
  refine lv_aload_n hx hb d_SR_write_17 rfl (lv_at hl 2 rfl) ?_
  refine g_SR_values hc w mw_47 d_SR_write_18 ?_
  refine lv_iload_n hx hb d_SR_write_21 rfl (lv_at hl 1 rfl) ?_
  refine a_SR_values hc w (bd31 _) d_SR_write_22 ?_
  refine lv_iload hx hb d_SR_write_23 (lv_at hl 0 rfl) ?_
  refine lv_iconst (v := -1) hx hb d_SR_write_25 (by decide) ?_
  refine lv_ixor hx hb d_SR_write_26 ?_
  refine lv_iand hx hb d_SR_write_27 ?_
  refine lv_iload_n hx hb d_SR_write_28 rfl (lv_at hl 4 rfl) ?_
  refine lv_iload hx hb d_SR_write_29 (lv_at hl 0 rfl) ?_
  refine lv_iand hx hb d_SR_write_31 ?_
  refine lv_ior hx hb d_SR_write_32 ?_
  refine s_SR_values hc w (bd31 _) d_SR_write_33 (fun σ33 H locs hs33 w => ?_)
  generalize hv_u1_4 : wbI (Int32.toNatClampNeg (a1 &&& (31 : Int32))) = u1_4 at hl ⊢
  generalize hv_u1_3 : a1 &&& (31 : Int32) = u1_3 at hl ⊢
  have e_c1 : zV (f_SR_write_c1 σ33 a1 a2 u1_4 u1_3) = Z := by rw [← e0, f_SR_write, hs33, hv_u1_4, hv_u1_3]
  refine lv_iload_n hx hb d_SR_write_34 rfl (lv_at hl 1 rfl) ?_
  refine lv_if_ne (tgt := 52) hx hb d_SR_write_35 (by decide) (fun q35 => ?_) (fun q35 => ?_)
  · refine lv_iload_n hx hb d_SR_write_52 rfl (lv_at hl 1 rfl) ?_
    refine lv_bipush (v := 6) hx hb d_SR_write_53 (by decide) ?_
    refine lv_icmp_ne (tgt := 69) hx hb d_SR_write_55 (by decide) (fun q55 => ?_) (fun q55 => ?_)
    · refine lv_iload_n hx hb d_SR_write_69 rfl (lv_at hl 1 rfl) ?_
      refine lv_bipush (v := 11) hx hb d_SR_write_70 (by decide) ?_
      refine lv_icmp_ne (tgt := 80) hx hb d_SR_write_72 (by decide) (fun q72 => ?_) (fun q72 => ?_)
      · exact rt_v hc w d_SR_write_80 (by rw [← e_c1, f_SR_write_c1, if_neg q35, if_neg q55, if_neg q72] <;> rfl)
      · refine lv_aload_n hx hb d_SR_write_75 rfl (lv_at hl 2 rfl) ?_
        refine lv_iconst (v := 0) hx hb d_SR_write_76 (by decide) ?_
        refine p_SR_timerIsDue (v := false) hc w mw_49 d_SR_write_77 (fun σ77 H locs hs77 w => ?_)
        have e_c2 : zV (f_SR_write_c2 σ77 a1 a2 ) = Z := by rw [← e_c1, f_SR_write_c1, if_neg q35, if_neg q55, if_pos q72, hs77]
        exact rt_v hc w d_SR_write_80 (by rw [← e_c2, f_SR_write_c2] <;> rfl)
    · refine lv_aload_n hx hb d_SR_write_58 rfl (lv_at hl 2 rfl) ?_
      refine g_SR_values hc w mw_47 d_SR_write_59 ?_
      refine lv_iconst (v := 1) hx hb d_SR_write_62 (by decide) ?_
      refine lv_bipush (v := 31) hx hb d_SR_write_63 (by decide) ?_
      refine s_SR_values hc w (by unfold vp_in; decide) d_SR_write_65 (fun σ65 H locs hs65 w => ?_)
      have e_c3 : zV (f_SR_write_c3 σ65 a1 a2 ) = Z := by rw [← e_c1, f_SR_write_c1, if_neg q35, if_pos q55, hs65]
      refine lv_goto (tgt := 80) hx hb d_SR_write_66 (by decide) ?_
      exact rt_v hc w d_SR_write_80 (by rw [← e_c3, f_SR_write_c3] <;> rfl)
  · refine lv_aload_n hx hb d_SR_write_38 rfl (lv_at hl 2 rfl) ?_
    refine g_SR_values hc w mw_47 d_SR_write_39 ?_
    refine lv_iconst (v := 0) hx hb d_SR_write_42 (by decide) ?_
    refine lv_dup2_11 hx hb d_SR_write_43 rfl rfl ?_
    refine a_SR_values hc w (by unfold vp_in; decide) d_SR_write_44 ?_
    refine lv_iload hx hb d_SR_write_45 (lv_at hl 0 rfl) ?_
    refine lv_iand hx hb d_SR_write_47 ?_
    refine s_SR_values hc w (by unfold vp_in; decide) d_SR_write_48 (fun σ48 H locs hs48 w => ?_)
    have e_c4 : zV (f_SR_write_c4 σ48 a1 a2 ) = Z := by rw [← e_c1, f_SR_write_c1, if_pos q35, hs48]
    refine lv_goto (tgt := 80) hx hb d_SR_write_49 (by decide) ?_
    exact rt_v hc w d_SR_write_80 (by rw [← e_c4, f_SR_write_c4] <;> rfl)
-- SR_switchLine
def f_SR_switchLine_c1 (σ42 : XS) (a1 : Int32) (a2 : Bool) (v42_4 : Bool) : XS × Bool := (σ42, v42_4)
def f_SR_switchLine_42 (σ : XS) (a1 : Int32) (a2 : Bool) (v42_4 : Bool) (w42_1 : Int32) : XS × Bool := f_SR_switchLine_c1 (xs_lines σ w42_1) a1 a2 v42_4
def f_SR_switchLine_18 (σ : XS) (a1 : Int32) (a2 : Bool) (v18_3 : Int32) (w18_0 : Bool) : XS × Bool := if (zb a2) = 0 then (f_SR_switchLine_42 σ a1 a2 w18_0 ((x_lines σ) &&& (v18_3 ^^^ (-1 : Int32)))) else (f_SR_switchLine_42 σ a1 a2 w18_0 ((x_lines σ) ||| v18_3))
def f_SR_switchLine (σ : XS) (a1 : Int32) (a2 : Bool) : XS × Bool := if ((x_lines σ) &&& ((1 : Int32) <<< (a1 &&& 31))) = 0 then (f_SR_switchLine_18 σ a1 a2 ((1 : Int32) <<< (a1 &&& 31)) false) else (f_SR_switchLine_18 σ a1 a2 ((1 : Int32) <<< (a1 &&& 31)) true)
theorem d_SR_switchLine_0 : decode b_SR_switchLine 0 = .ok (.iconst 1, 1) := by decide +kernel
theorem d_SR_switchLine_1 : decode b_SR_switchLine 1 = .ok (.iload_n 1, 1) := by decide +kernel
theorem d_SR_switchLine_2 : decode b_SR_switchLine 2 = .ok (.ishl, 1) := by decide +kernel
theorem d_SR_switchLine_3 : decode b_SR_switchLine 3 = .ok (.istore_n 3, 1) := by decide +kernel
theorem d_SR_switchLine_4 : decode b_SR_switchLine 4 = .ok (.aload_n 0, 1) := by decide +kernel
theorem d_SR_switchLine_5 : decode b_SR_switchLine 5 = .ok (.getfield 16, 3) := by decide +kernel
theorem d_SR_switchLine_8 : decode b_SR_switchLine 8 = .ok (.iload_n 3, 1) := by decide +kernel
theorem d_SR_switchLine_9 : decode b_SR_switchLine 9 = .ok (.iand, 1) := by decide +kernel
theorem d_SR_switchLine_10 : decode b_SR_switchLine 10 = .ok (.ifCond .eq 7, 3) := by decide +kernel
theorem d_SR_switchLine_13 : decode b_SR_switchLine 13 = .ok (.iconst 1, 1) := by decide +kernel
theorem d_SR_switchLine_14 : decode b_SR_switchLine 14 = .ok (.goto 4, 3) := by decide +kernel
theorem d_SR_switchLine_17 : decode b_SR_switchLine 17 = .ok (.iconst 0, 1) := by decide +kernel
theorem d_SR_switchLine_18 : decode b_SR_switchLine 18 = .ok (.istore 4, 2) := by decide +kernel
theorem d_SR_switchLine_20 : decode b_SR_switchLine 20 = .ok (.aload_n 0, 1) := by decide +kernel
theorem d_SR_switchLine_21 : decode b_SR_switchLine 21 = .ok (.iload_n 2, 1) := by decide +kernel
theorem d_SR_switchLine_22 : decode b_SR_switchLine 22 = .ok (.ifCond .eq 12, 3) := by decide +kernel
theorem d_SR_switchLine_25 : decode b_SR_switchLine 25 = .ok (.aload_n 0, 1) := by decide +kernel
theorem d_SR_switchLine_26 : decode b_SR_switchLine 26 = .ok (.getfield 16, 3) := by decide +kernel
theorem d_SR_switchLine_29 : decode b_SR_switchLine 29 = .ok (.iload_n 3, 1) := by decide +kernel
theorem d_SR_switchLine_30 : decode b_SR_switchLine 30 = .ok (.ior, 1) := by decide +kernel
theorem d_SR_switchLine_31 : decode b_SR_switchLine 31 = .ok (.goto 11, 3) := by decide +kernel
theorem d_SR_switchLine_34 : decode b_SR_switchLine 34 = .ok (.aload_n 0, 1) := by decide +kernel
theorem d_SR_switchLine_35 : decode b_SR_switchLine 35 = .ok (.getfield 16, 3) := by decide +kernel
theorem d_SR_switchLine_38 : decode b_SR_switchLine 38 = .ok (.iload_n 3, 1) := by decide +kernel
theorem d_SR_switchLine_39 : decode b_SR_switchLine 39 = .ok (.iconst (-1), 1) := by decide +kernel
theorem d_SR_switchLine_40 : decode b_SR_switchLine 40 = .ok (.ixor, 1) := by decide +kernel
theorem d_SR_switchLine_41 : decode b_SR_switchLine 41 = .ok (.iand, 1) := by decide +kernel
theorem d_SR_switchLine_42 : decode b_SR_switchLine 42 = .ok (.putfield 16, 3) := by decide +kernel
theorem d_SR_switchLine_45 : decode b_SR_switchLine 45 = .ok (.iload 4, 2) := by decide +kernel
theorem d_SR_switchLine_47 : decode b_SR_switchLine 47 = .ok (.ireturn, 1) := by decide +kernel
set_option maxHeartbeats 4000000 in
set_option maxRecDepth 100000 in
theorem c_SR_switchLine (l : Launch) (E : Ev) (ad : Nat → Nat) (σ : XS) (a1 : Int32) (a2 : Bool) : rC xCl l E (xW E ad) y_SR_switchLine b_SR_switchLine 5 (Option.some Jvm.ClassFile.FieldType.boolean) (rmo 0 0) [.ref (ad 2), .int a1, .int (zb a2)] σ (zZ (f_SR_switchLine σ a1 a2)) := by
  refine rC.of (by decide) (Nat.le_of_ble_eq_true rfl) ?_
  intro p e s m below meth c A ls hc w hl
  generalize e0 : zZ (f_SR_switchLine σ a1 a2) = Z
  have hc : Cx xCl E A p s m ([.ref (ad 2), .int a1, .int (zb a2)] : List Value).toArray meth c b_SR_switchLine 5 (Option.some Jvm.ClassFile.FieldType.boolean) "PageMachine$SystemRegisters" := hc
  have hx := hc.1
  have hb := hc.2.1
  have ho := hc.2.2.2.2.2.1
  have hT := hc.2.2.2.2.2.2.1
  have hl : lv_has ls 5 [(0, .ref (ad 2)), (1, .int a1), (2, .int (zb a2))] := hl
  have J42 : ∀ (v42_4 : Bool) (w42_1 : Int32) (H : Heap) (locs : List Loc) (ls : Array Slot), Wd xCl E A s.heap H locs (xW E ad σ) → lv_has ls 5 [(4, .int (zb v42_4))] → zZ (f_SR_switchLine_42 σ a1 a2 v42_4 w42_1) = Z → W p l e (rmo 0 0) s m ([.ref (ad 2), .int a1, .int (zb a2)] : List Value).toArray below meth c H locs 0 0 (MQ below (rQ xCl (xW E ad) E A Z) ([.ref (ad 2), .int a1, .int (zb a2)] : List Value).toArray s 0 0 A) (F0 m 42 ls [.int w42_1, .ref (ad 2)]) := by
    intro v42_4 w42_1 H locs ls w hl e42
    refine p_SR_lines hc w mw_48 d_SR_switchLine_42 (fun σ42 H locs hs42 w => ?_)
    have e_c1 : zZ (f_SR_switchLine_c1 σ42 a1 a2 v42_4) = Z := by rw [← e42, f_SR_switchLine_42, hs42]
    refine lv_iload hx hb d_SR_switchLine_45 (lv_at hl 0 rfl) ?_
    exact rt_z (v := v42_4) hc w d_SR_switchLine_47 rfl (by rw [← e_c1, f_SR_switchLine_c1] <;> rfl)
  have J18 : ∀ (v18_3 : Int32) (w18_0 : Bool) (H : Heap) (locs : List Loc) (ls : Array Slot), Wd xCl E A s.heap H locs (xW E ad σ) → lv_has ls 5 [(3, .int v18_3), (0, .ref (ad 2)), (2, .int (zb a2))] → zZ (f_SR_switchLine_18 σ a1 a2 v18_3 w18_0) = Z → W p l e (rmo 0 0) s m ([.ref (ad 2), .int a1, .int (zb a2)] : List Value).toArray below meth c H locs 0 0 (MQ below (rQ xCl (xW E ad) E A Z) ([.ref (ad 2), .int a1, .int (zb a2)] : List Value).toArray s 0 0 A) (F0 m 18 ls [.int (zb w18_0)]) := by
    intro v18_3 w18_0 H locs ls w hl e18
    refine lv_istore (lv' := [(4, .int (zb w18_0)), (3, .int v18_3), (0, .ref (ad 2)), (2, .int (zb a2))]) hx hb d_SR_switchLine_18 hl (by decide) rfl (fun ls hl => ?_)
    refine lv_aload_n hx hb d_SR_switchLine_20 rfl (lv_at hl 2 rfl) ?_
    refine lv_iload_n hx hb d_SR_switchLine_21 rfl (lv_at hl 3 rfl) ?_
    refine lv_if_eq (tgt := 34) hx hb d_SR_switchLine_22 (by decide) (fun q22 => ?_) (fun q22 => ?_)
    · refine lv_aload_n hx hb d_SR_switchLine_34 rfl (lv_at hl 2 rfl) ?_
      refine g_SR_lines hc w mw_48 d_SR_switchLine_35 ?_
      refine lv_iload_n hx hb d_SR_switchLine_38 rfl (lv_at hl 1 rfl) ?_
      refine lv_iconst (v := -1) hx hb d_SR_switchLine_39 (by decide) ?_
      refine lv_ixor hx hb d_SR_switchLine_40 ?_
      refine lv_iand hx hb d_SR_switchLine_41 ?_
      exact J42 w18_0 ((x_lines σ) &&& (v18_3 ^^^ (-1 : Int32))) _ _ _ w (lv_sub hl [0] rfl) (by rw [← e18, f_SR_switchLine_18, if_pos q22])
    · refine lv_aload_n hx hb d_SR_switchLine_25 rfl (lv_at hl 2 rfl) ?_
      refine g_SR_lines hc w mw_48 d_SR_switchLine_26 ?_
      refine lv_iload_n hx hb d_SR_switchLine_29 rfl (lv_at hl 1 rfl) ?_
      refine lv_ior hx hb d_SR_switchLine_30 ?_
      refine lv_goto (tgt := 42) hx hb d_SR_switchLine_31 (by decide) ?_
      exact J42 w18_0 ((x_lines σ) ||| v18_3) _ _ _ w (lv_sub hl [0] rfl) (by rw [← e18, f_SR_switchLine_18, if_neg q22])
  refine lv_iconst (v := 1) hx hb d_SR_switchLine_0 (by decide) ?_
  refine lv_iload_n hx hb d_SR_switchLine_1 rfl (lv_at hl 1 rfl) ?_
  refine lv_ishl hx hb d_SR_switchLine_2 ?_
  refine lv_istore_n (lv' := [(3, .int ((1 : Int32) <<< (a1 &&& 31))), (0, .ref (ad 2)), (1, .int a1), (2, .int (zb a2))]) hx hb d_SR_switchLine_3 rfl hl (by decide) rfl (fun ls hl => ?_)
  refine lv_aload_n hx hb d_SR_switchLine_4 rfl (lv_at hl 1 rfl) ?_
  refine g_SR_lines hc w mw_48 d_SR_switchLine_5 ?_
  refine lv_iload_n hx hb d_SR_switchLine_8 rfl (lv_at hl 0 rfl) ?_
  refine lv_iand hx hb d_SR_switchLine_9 ?_
  refine lv_if_eq (tgt := 17) hx hb d_SR_switchLine_10 (by decide) (fun q10 => ?_) (fun q10 => ?_)
  · refine lv_iconst (v := 0) hx hb d_SR_switchLine_17 (by decide) ?_
    exact J18 ((1 : Int32) <<< (a1 &&& 31)) false _ _ _ w (lv_sub hl [0, 1, 3] rfl) (by rw [← e0, f_SR_switchLine, if_pos q10])
  · refine lv_iconst (v := 1) hx hb d_SR_switchLine_13 (by decide) ?_
    refine lv_goto (tgt := 18) hx hb d_SR_switchLine_14 (by decide) ?_
    exact J18 ((1 : Int32) <<< (a1 &&& 31)) true _ _ _ w (lv_sub hl [0, 1, 3] rfl) (by rw [← e0, f_SR_switchLine, if_neg q10])
-- SR_tick
def f_SR_tick_c2 (σ30 : XS)   : XS := σ30
def f_SR_tick_c1 (σ10 : XS)   : XS := if (x_values σ10 (Int32.toNatClampNeg (9 : Int32))) = (x_values σ10 (Int32.toNatClampNeg (11 : Int32))) then (f_SR_tick_c2 (xs_timer σ10 true)  ) else (σ10)
def f_SR_tick (σ : XS) : XS := f_SR_tick_c1 (xs_values σ (upd (x_values σ) (Int32.toNatClampNeg (9 : Int32)) ((x_values σ (Int32.toNatClampNeg (9 : Int32))) + (1 : Int32))))  
theorem d_SR_tick_0 : decode b_SR_tick 0 = .ok (.aload_n 0, 1) := by decide +kernel
theorem d_SR_tick_1 : decode b_SR_tick 1 = .ok (.getfield 11, 3) := by decide +kernel
theorem d_SR_tick_4 : decode b_SR_tick 4 = .ok (.bipush 9, 2) := by decide +kernel
theorem d_SR_tick_6 : decode b_SR_tick 6 = .ok (.dup2, 1) := by decide +kernel
theorem d_SR_tick_7 : decode b_SR_tick 7 = .ok (.iaload, 1) := by decide +kernel
theorem d_SR_tick_8 : decode b_SR_tick 8 = .ok (.iconst 1, 1) := by decide +kernel
theorem d_SR_tick_9 : decode b_SR_tick 9 = .ok (.iadd, 1) := by decide +kernel
theorem d_SR_tick_10 : decode b_SR_tick 10 = .ok (.iastore, 1) := by decide +kernel
theorem d_SR_tick_11 : decode b_SR_tick 11 = .ok (.aload_n 0, 1) := by decide +kernel
theorem d_SR_tick_12 : decode b_SR_tick 12 = .ok (.getfield 11, 3) := by decide +kernel
theorem d_SR_tick_15 : decode b_SR_tick 15 = .ok (.bipush 9, 2) := by decide +kernel
theorem d_SR_tick_17 : decode b_SR_tick 17 = .ok (.iaload, 1) := by decide +kernel
theorem d_SR_tick_18 : decode b_SR_tick 18 = .ok (.aload_n 0, 1) := by decide +kernel
theorem d_SR_tick_19 : decode b_SR_tick 19 = .ok (.getfield 11, 3) := by decide +kernel
theorem d_SR_tick_22 : decode b_SR_tick 22 = .ok (.bipush 11, 2) := by decide +kernel
theorem d_SR_tick_24 : decode b_SR_tick 24 = .ok (.iaload, 1) := by decide +kernel
theorem d_SR_tick_25 : decode b_SR_tick 25 = .ok (.if_icmp .ne 8, 3) := by decide +kernel
theorem d_SR_tick_28 : decode b_SR_tick 28 = .ok (.aload_n 0, 1) := by decide +kernel
theorem d_SR_tick_29 : decode b_SR_tick 29 = .ok (.iconst 1, 1) := by decide +kernel
theorem d_SR_tick_30 : decode b_SR_tick 30 = .ok (.putfield 20, 3) := by decide +kernel
theorem d_SR_tick_33 : decode b_SR_tick 33 = .ok (.return_, 1) := by decide +kernel
set_option maxHeartbeats 4000000 in
set_option maxRecDepth 100000 in
theorem c_SR_tick (l : Launch) (E : Ev) (ad : Nat → Nat) (σ : XS) : rC xCl l E (xW E ad) y_SR_tick b_SR_tick 1 (Option.none : Option Jvm.ClassFile.FieldType) (rmo 0 0) [.ref (ad 2)] σ (zV (f_SR_tick σ)) := by
  refine rC.of (by decide) (Nat.le_of_ble_eq_true rfl) ?_
  intro p e s m below meth c A ls hc w hl
  generalize e0 : zV (f_SR_tick σ) = Z
  have hc : Cx xCl E A p s m ([.ref (ad 2)] : List Value).toArray meth c b_SR_tick 1 (Option.none : Option Jvm.ClassFile.FieldType) "PageMachine$SystemRegisters" := hc
  have hx := hc.1
  have hb := hc.2.1
  have ho := hc.2.2.2.2.2.1
  have hT := hc.2.2.2.2.2.2.1
  have hl : lv_has ls 1 [(0, .ref (ad 2))] := hl
  refine lv_aload_n hx hb d_SR_tick_0 rfl (lv_at hl 0 rfl) ?_
  refine g_SR_values hc w mw_47 d_SR_tick_1 ?_
  refine lv_bipush (v := 9) hx hb d_SR_tick_4 (by decide) ?_
  refine lv_dup2_11 hx hb d_SR_tick_6 rfl rfl ?_
  refine a_SR_values hc w (by unfold vp_in; decide) d_SR_tick_7 ?_
  refine lv_iconst (v := 1) hx hb d_SR_tick_8 (by decide) ?_
  refine lv_iadd hx hb d_SR_tick_9 ?_
  refine s_SR_values hc w (by unfold vp_in; decide) d_SR_tick_10 (fun σ10 H locs hs10 w => ?_)
  have e_c1 : zV (f_SR_tick_c1 σ10  ) = Z := by rw [← e0, f_SR_tick, hs10]
  refine lv_aload_n hx hb d_SR_tick_11 rfl (lv_at hl 0 rfl) ?_
  refine g_SR_values hc w mw_47 d_SR_tick_12 ?_
  refine lv_bipush (v := 9) hx hb d_SR_tick_15 (by decide) ?_
  refine a_SR_values hc w (by unfold vp_in; decide) d_SR_tick_17 ?_
  refine lv_aload_n hx hb d_SR_tick_18 rfl (lv_at hl 0 rfl) ?_
  refine g_SR_values hc w mw_47 d_SR_tick_19 ?_
  refine lv_bipush (v := 11) hx hb d_SR_tick_22 (by decide) ?_
  refine a_SR_values hc w (by unfold vp_in; decide) d_SR_tick_24 ?_
  refine lv_icmp_ne (tgt := 33) hx hb d_SR_tick_25 (by decide) (fun q25 => ?_) (fun q25 => ?_)
  · exact rt_v hc w d_SR_tick_33 (by rw [← e_c1, f_SR_tick_c1, if_neg q25] <;> rfl)
  · refine lv_aload_n hx hb d_SR_tick_28 rfl (lv_at hl 0 rfl) ?_
    refine lv_iconst (v := 1) hx hb d_SR_tick_29 (by decide) ?_
    refine p_SR_timerIsDue (v := true) hc w mw_49 d_SR_tick_30 (fun σ30 H locs hs30 w => ?_)
    have e_c2 : zV (f_SR_tick_c2 σ30  ) = Z := by rw [← e_c1, f_SR_tick_c1, if_pos q25, hs30]
    exact rt_v hc w d_SR_tick_33 (by rw [← e_c2, f_SR_tick_c2] <;> rfl)
-- SR_interruptIsDue
def f_SR_interruptIsDue (σ : XS) : Bool := if ((x_values σ (Int32.toNatClampNeg (12 : Int32))) &&& (3 : Int32)) = (1 : Int32) then (if (((f_SR_read σ (13 : Int32)) &&& (x_values σ (Int32.toNatClampNeg (12 : Int32)))) &&& (65280 : Int32)) = 0 then (false) else (true)) else (false)
theorem d_SR_interruptIsDue_0 : decode b_SR_interruptIsDue 0 = .ok (.aload_n 0, 1) := by decide +kernel
theorem d_SR_interruptIsDue_1 : decode b_SR_interruptIsDue 1 = .ok (.getfield 11, 3) := by decide +kernel
theorem d_SR_interruptIsDue_4 : decode b_SR_interruptIsDue 4 = .ok (.bipush 12, 2) := by decide +kernel
theorem d_SR_interruptIsDue_6 : decode b_SR_interruptIsDue 6 = .ok (.iaload, 1) := by decide +kernel
theorem d_SR_interruptIsDue_7 : decode b_SR_interruptIsDue 7 = .ok (.istore_n 1, 1) := by decide +kernel
theorem d_SR_interruptIsDue_8 : decode b_SR_interruptIsDue 8 = .ok (.iload_n 1, 1) := by decide +kernel
theorem d_SR_interruptIsDue_9 : decode b_SR_interruptIsDue 9 = .ok (.iconst 3, 1) := by decide +kernel
theorem d_SR_interruptIsDue_10 : decode b_SR_interruptIsDue 10 = .ok (.iand, 1) := by decide +kernel
theorem d_SR_interruptIsDue_11 : decode b_SR_interruptIsDue 11 = .ok (.iconst 1, 1) := by decide +kernel
theorem d_SR_interruptIsDue_12 : decode b_SR_interruptIsDue 12 = .ok (.if_icmp .ne 21, 3) := by decide +kernel
theorem d_SR_interruptIsDue_15 : decode b_SR_interruptIsDue 15 = .ok (.aload_n 0, 1) := by decide +kernel
theorem d_SR_interruptIsDue_16 : decode b_SR_interruptIsDue 16 = .ok (.bipush 13, 2) := by decide +kernel
theorem d_SR_interruptIsDue_18 : decode b_SR_interruptIsDue 18 = .ok (.invokevirtual 28, 3) := by decide +kernel
theorem d_SR_interruptIsDue_21 : decode b_SR_interruptIsDue 21 = .ok (.iload_n 1, 1) := by decide +kernel
theorem d_SR_interruptIsDue_22 : decode b_SR_interruptIsDue 22 = .ok (.iand, 1) := by decide +kernel
theorem d_SR_interruptIsDue_23 : decode b_SR_interruptIsDue 23 = .ok (.ldc 32, 2) := by decide +kernel
theorem d_SR_interruptIsDue_25 : decode b_SR_interruptIsDue 25 = .ok (.iand, 1) := by decide +kernel
theorem d_SR_interruptIsDue_26 : decode b_SR_interruptIsDue 26 = .ok (.ifCond .eq 7, 3) := by decide +kernel
theorem d_SR_interruptIsDue_29 : decode b_SR_interruptIsDue 29 = .ok (.iconst 1, 1) := by decide +kernel
theorem d_SR_interruptIsDue_30 : decode b_SR_interruptIsDue 30 = .ok (.goto 4, 3) := by decide +kernel
theorem d_SR_interruptIsDue_33 : decode b_SR_interruptIsDue 33 = .ok (.iconst 0, 1) := by decide +kernel
theorem d_SR_interruptIsDue_34 : decode b_SR_interruptIsDue 34 = .ok (.ireturn, 1) := by decide +kernel
set_option maxHeartbeats 4000000 in
set_option maxRecDepth 100000 in
theorem c_SR_interruptIsDue (l : Launch) (E : Ev) (ad : Nat → Nat) (σ : XS) : rC xCl l E (xW E ad) y_SR_interruptIsDue b_SR_interruptIsDue 2 (Option.some Jvm.ClassFile.FieldType.boolean) (rmo 1 22) [.ref (ad 2)] σ ((σ, some (Value.int (zb (f_SR_interruptIsDue σ))))) := by
  refine rC.of (by decide) (Nat.le_of_ble_eq_true rfl) ?_
  intro p e s m below meth c A ls hc w hl
  generalize e0 : (σ, some (Value.int (zb (f_SR_interruptIsDue σ)))) = Z
  have hc : Cx xCl E A p s m ([.ref (ad 2)] : List Value).toArray meth c b_SR_interruptIsDue 2 (Option.some Jvm.ClassFile.FieldType.boolean) "PageMachine$SystemRegisters" := hc
  have hx := hc.1
  have hb := hc.2.1
  have ho := hc.2.2.2.2.2.1
  have hT := hc.2.2.2.2.2.2.1
  have hl : lv_has ls 2 [(0, .ref (ad 2))] := hl
  refine lv_aload_n hx hb d_SR_interruptIsDue_0 rfl (lv_at hl 0 rfl) ?_
  refine g_SR_values hc w mw_47 d_SR_interruptIsDue_1 ?_
  refine lv_bipush (v := 12) hx hb d_SR_interruptIsDue_4 (by decide) ?_
  refine a_SR_values hc w (by unfold vp_in; decide) d_SR_interruptIsDue_6 ?_
  refine lv_istore_n (lv' := [(1, .int (x_values σ (Int32.toNatClampNeg (12 : Int32)))), (0, .ref (ad 2))]) hx hb d_SR_interruptIsDue_7 rfl hl (by decide) rfl (fun ls hl => ?_)
  refine lv_iload_n hx hb d_SR_interruptIsDue_8 rfl (lv_at hl 0 rfl) ?_
  refine lv_iconst (v := 3) hx hb d_SR_interruptIsDue_9 (by decide) ?_
  refine lv_iand hx hb d_SR_interruptIsDue_10 ?_
  refine lv_iconst (v := 1) hx hb d_SR_interruptIsDue_11 (by decide) ?_
  refine lv_icmp_ne (tgt := 33) hx hb d_SR_interruptIsDue_12 (by decide) (fun q12 => ?_) (fun q12 => ?_)
  · refine lv_iconst (v := 0) hx hb d_SR_interruptIsDue_33 (by decide) ?_
    exact rt_z (v := false) hc w d_SR_interruptIsDue_34 rfl (by rw [← e0, f_SR_interruptIsDue, if_neg q12] <;> rfl)
  · refine lv_aload_n hx hb d_SR_interruptIsDue_15 rfl (lv_at hl 1 rfl) ?_
    refine lv_bipush (v := 13) hx hb d_SR_interruptIsDue_16 (by decide) ?_
    refine rVI (rest := []) hc w (c_SR_read l E ad σ (13 : Int32)) kv_SR_read mw_456 2 rfl rfl ⟨Nat.le_of_ble_eq_true rfl, Nat.le_of_ble_eq_true rfl⟩ hl.1 rfl (Nat.le_of_ble_eq_true rfl) ⟨Nat.zero_le _, Nat.zero_le _⟩ d_SR_interruptIsDue_18 (fun H locs w => ?_)
    refine lv_iload_n hx hb d_SR_interruptIsDue_21 rfl (lv_at hl 0 rfl) ?_
    refine lv_iand hx hb d_SR_interruptIsDue_22 ?_
    refine lv_ldc (v := 65280) hx hb ho (hT _ mw_457) d_SR_interruptIsDue_23 ?_
    refine lv_iand hx hb d_SR_interruptIsDue_25 ?_
    refine lv_if_eq (tgt := 33) hx hb d_SR_interruptIsDue_26 (by decide) (fun q26 => ?_) (fun q26 => ?_)
    · refine lv_iconst (v := 0) hx hb d_SR_interruptIsDue_33 (by decide) ?_
      exact rt_z (v := false) hc w d_SR_interruptIsDue_34 rfl (by rw [← e0, f_SR_interruptIsDue, if_pos q12, if_pos q26] <;> rfl)
    · refine lv_iconst (v := 1) hx hb d_SR_interruptIsDue_29 (by decide) ?_
      refine lv_goto (tgt := 34) hx hb d_SR_interruptIsDue_30 (by decide) ?_
      exact rt_z (v := true) hc w d_SR_interruptIsDue_34 rfl (by rw [← e0, f_SR_interruptIsDue, if_pos q12, if_neg q26] <;> rfl)
-- SR_moveRandom
def f_SR_moveRandom_c1 (σ35 : XS)   : XS := σ35
def f_SR_moveRandom_35 (σ : XS) (w35_2 : Int32) : XS := f_SR_moveRandom_c1 (xs_values σ (upd (x_values σ) (Int32.toNatClampNeg (1 : Int32)) w35_2))  
def f_SR_moveRandom_27 (σ : XS) : XS := f_SR_moveRandom_35 σ (31 : Int32)
def f_SR_moveRandom (σ : XS) : XS := if (x_values σ (Int32.toNatClampNeg (1 : Int32))) = (x_values σ (Int32.toNatClampNeg (6 : Int32))) then (f_SR_moveRandom_27 σ) else (if (x_values σ (Int32.toNatClampNeg (1 : Int32))) = 0 then (f_SR_moveRandom_27 σ) else (f_SR_moveRandom_35 σ ((x_values σ (Int32.toNatClampNeg (1 : Int32))) - (1 : Int32))))
theorem d_SR_moveRandom_0 : decode b_SR_moveRandom 0 = .ok (.aload_n 0, 1) := by decide +kernel
theorem d_SR_moveRandom_1 : decode b_SR_moveRandom 1 = .ok (.getfield 11, 3) := by decide +kernel
theorem d_SR_moveRandom_4 : decode b_SR_moveRandom 4 = .ok (.iconst 1, 1) := by decide +kernel
theorem d_SR_moveRandom_5 : decode b_SR_moveRandom 5 = .ok (.iaload, 1) := by decide +kernel
theorem d_SR_moveRandom_6 : decode b_SR_moveRandom 6 = .ok (.istore_n 1, 1) := by decide +kernel
theorem d_SR_moveRandom_7 : decode b_SR_moveRandom 7 = .ok (.aload_n 0, 1) := by decide +kernel
theorem d_SR_moveRandom_8 : decode b_SR_moveRandom 8 = .ok (.getfield 11, 3) := by decide +kernel
theorem d_SR_moveRandom_11 : decode b_SR_moveRandom 11 = .ok (.iconst 1, 1) := by decide +kernel
theorem d_SR_moveRandom_12 : decode b_SR_moveRandom 12 = .ok (.iload_n 1, 1) := by decide +kernel
theorem d_SR_moveRandom_13 : decode b_SR_moveRandom 13 = .ok (.aload_n 0, 1) := by decide +kernel
theorem d_SR_moveRandom_14 : decode b_SR_moveRandom 14 = .ok (.getfield 11, 3) := by decide +kernel
theorem d_SR_moveRandom_17 : decode b_SR_moveRandom 17 = .ok (.bipush 6, 2) := by decide +kernel
theorem d_SR_moveRandom_19 : decode b_SR_moveRandom 19 = .ok (.iaload, 1) := by decide +kernel
theorem d_SR_moveRandom_20 : decode b_SR_moveRandom 20 = .ok (.if_icmp .eq 7, 3) := by decide +kernel
theorem d_SR_moveRandom_23 : decode b_SR_moveRandom 23 = .ok (.iload_n 1, 1) := by decide +kernel
theorem d_SR_moveRandom_24 : decode b_SR_moveRandom 24 = .ok (.ifCond .ne 8, 3) := by decide +kernel
theorem d_SR_moveRandom_27 : decode b_SR_moveRandom 27 = .ok (.bipush 31, 2) := by decide +kernel
theorem d_SR_moveRandom_29 : decode b_SR_moveRandom 29 = .ok (.goto 6, 3) := by decide +kernel
theorem d_SR_moveRandom_32 : decode b_SR_moveRandom 32 = .ok (.iload_n 1, 1) := by decide +kernel
theorem d_SR_moveRandom_33 : decode b_SR_moveRandom 33 = .ok (.iconst 1, 1) := by decide +kernel
theorem d_SR_moveRandom_34 : decode b_SR_moveRandom 34 = .ok (.isub, 1) := by decide +kernel
theorem d_SR_moveRandom_35 : decode b_SR_moveRandom 35 = .ok (.iastore, 1) := by decide +kernel
theorem d_SR_moveRandom_36 : decode b_SR_moveRandom 36 = .ok (.return_, 1) := by decide +kernel
set_option maxHeartbeats 4000000 in
set_option maxRecDepth 100000 in
theorem c_SR_moveRandom (l : Launch) (E : Ev) (ad : Nat → Nat) (σ : XS) : rC xCl l E (xW E ad) y_SR_moveRandom b_SR_moveRandom 2 (Option.none : Option Jvm.ClassFile.FieldType) (rmo 0 0) [.ref (ad 2)] σ (zV (f_SR_moveRandom σ)) := by
  refine rC.of (by decide) (Nat.le_of_ble_eq_true rfl) ?_
  intro p e s m below meth c A ls hc w hl
  generalize e0 : zV (f_SR_moveRandom σ) = Z
  have hc : Cx xCl E A p s m ([.ref (ad 2)] : List Value).toArray meth c b_SR_moveRandom 2 (Option.none : Option Jvm.ClassFile.FieldType) "PageMachine$SystemRegisters" := hc
  have hx := hc.1
  have hb := hc.2.1
  have ho := hc.2.2.2.2.2.1
  have hT := hc.2.2.2.2.2.2.1
  have hl : lv_has ls 2 [(0, .ref (ad 2))] := hl
  have J35 : ∀ (w35_2 : Int32) (H : Heap) (locs : List Loc) (ls : Array Slot), Wd xCl E A s.heap H locs (xW E ad σ) → lv_has ls 2 [] → zV (f_SR_moveRandom_35 σ w35_2) = Z → W p l e (rmo 0 0) s m ([.ref (ad 2)] : List Value).toArray below meth c H locs 0 0 (MQ below (rQ xCl (xW E ad) E A Z) ([.ref (ad 2)] : List Value).toArray s 0 0 A) (F0 m 35 ls [.int w35_2, .int (1 : Int32), .ref (ad 12)]) := by
    intro w35_2 H locs ls w hl e35
    refine s_SR_values hc w (by unfold vp_in; decide) d_SR_moveRandom_35 (fun σ35 H locs hs35 w => ?_)
    have e_c1 : zV (f_SR_moveRandom_c1 σ35  ) = Z := by rw [← e35, f_SR_moveRandom_35, hs35]
    exact rt_v hc w d_SR_moveRandom_36 (by rw [← e_c1, f_SR_moveRandom_c1] <;> rfl)
  have J27 : ∀ (H : Heap) (locs : List Loc) (ls : Array Slot), Wd xCl E A s.heap H locs (xW E ad σ) → lv_has ls 2 [] → zV (f_SR_moveRandom_27 σ) = Z → W p l e (rmo 0 0) s m ([.ref (ad 2)] : List Value).toArray below meth c H locs 0 0 (MQ below (rQ xCl (xW E ad) E A Z) ([.ref (ad 2)] : List Value).toArray s 0 0 A) (F0 m 27 ls [.int (1 : Int32), .ref (ad 12)]) := by
    intro  H locs ls w hl e27
    refine lv_bipush (v := 31) hx hb d_SR_moveRandom_27 (by decide) ?_
    refine lv_goto (tgt := 35) hx hb d_SR_moveRandom_29 (by decide) ?_
    exact J35 (31 : Int32) _ _ _ w (lv_sub hl [] rfl) (by rw [← e27, f_SR_moveRandom_27])
  refine lv_aload_n hx hb d_SR_moveRandom_0 rfl (lv_at hl 0 rfl) ?_
  refine g_SR_values hc w mw_47 d_SR_moveRandom_1 ?_
  refine lv_iconst (v := 1) hx hb d_SR_moveRandom_4 (by decide) ?_
  refine a_SR_values hc w (by unfold vp_in; decide) d_SR_moveRandom_5 ?_
  refine lv_istore_n (lv' := [(1, .int (x_values σ (Int32.toNatClampNeg (1 : Int32)))), (0, .ref (ad 2))]) hx hb d_SR_moveRandom_6 rfl hl (by decide) rfl (fun ls hl => ?_)
  refine lv_aload_n hx hb d_SR_moveRandom_7 rfl (lv_at hl 1 rfl) ?_
  refine g_SR_values hc w mw_47 d_SR_moveRandom_8 ?_
  refine lv_iconst (v := 1) hx hb d_SR_moveRandom_11 (by decide) ?_
  refine lv_iload_n hx hb d_SR_moveRandom_12 rfl (lv_at hl 0 rfl) ?_
  refine lv_aload_n hx hb d_SR_moveRandom_13 rfl (lv_at hl 1 rfl) ?_
  refine g_SR_values hc w mw_47 d_SR_moveRandom_14 ?_
  refine lv_bipush (v := 6) hx hb d_SR_moveRandom_17 (by decide) ?_
  refine a_SR_values hc w (by unfold vp_in; decide) d_SR_moveRandom_19 ?_
  refine lv_icmp_eq (tgt := 27) hx hb d_SR_moveRandom_20 (by decide) (fun q20 => ?_) (fun q20 => ?_)
  · exact J27  _ _ _ w (lv_sub hl [] rfl) (by rw [← e0, f_SR_moveRandom, if_pos q20])
  · refine lv_iload_n hx hb d_SR_moveRandom_23 rfl (lv_at hl 0 rfl) ?_
    refine lv_if_ne (tgt := 32) hx hb d_SR_moveRandom_24 (by decide) (fun q24 => ?_) (fun q24 => ?_)
    · refine lv_iload_n hx hb d_SR_moveRandom_32 rfl (lv_at hl 0 rfl) ?_
      refine lv_iconst (v := 1) hx hb d_SR_moveRandom_33 (by decide) ?_
      refine lv_isub hx hb d_SR_moveRandom_34 ?_
      exact J35 ((x_values σ (Int32.toNatClampNeg (1 : Int32))) - (1 : Int32)) _ _ _ w (lv_sub hl [] rfl) (by rw [← e0, f_SR_moveRandom, if_neg q20, if_neg q24])
    · exact J27  _ _ _ w (lv_sub hl [] rfl) (by rw [← e0, f_SR_moveRandom, if_neg q20, if_pos q24])
-- SR_inUserMode
def f_SR_inUserMode (σ : XS) : Bool := if ((x_values σ (Int32.toNatClampNeg (12 : Int32))) &&& (18 : Int32)) = (16 : Int32) then (true) else (false)
theorem d_SR_inUserMode_0 : decode b_SR_inUserMode 0 = .ok (.aload_n 0, 1) := by decide +kernel
theorem d_SR_inUserMode_1 : decode b_SR_inUserMode 1 = .ok (.getfield 11, 3) := by decide +kernel
theorem d_SR_inUserMode_4 : decode b_SR_inUserMode 4 = .ok (.bipush 12, 2) := by decide +kernel
theorem d_SR_inUserMode_6 : decode b_SR_inUserMode 6 = .ok (.iaload, 1) := by decide +kernel
theorem d_SR_inUserMode_7 : decode b_SR_inUserMode 7 = .ok (.bipush 18, 2) := by decide +kernel
theorem d_SR_inUserMode_9 : decode b_SR_inUserMode 9 = .ok (.iand, 1) := by decide +kernel
theorem d_SR_inUserMode_10 : decode b_SR_inUserMode 10 = .ok (.bipush 16, 2) := by decide +kernel
theorem d_SR_inUserMode_12 : decode b_SR_inUserMode 12 = .ok (.if_icmp .ne 7, 3) := by decide +kernel
theorem d_SR_inUserMode_15 : decode b_SR_inUserMode 15 = .ok (.iconst 1, 1) := by decide +kernel
theorem d_SR_inUserMode_16 : decode b_SR_inUserMode 16 = .ok (.goto 4, 3) := by decide +kernel
theorem d_SR_inUserMode_19 : decode b_SR_inUserMode 19 = .ok (.iconst 0, 1) := by decide +kernel
theorem d_SR_inUserMode_20 : decode b_SR_inUserMode 20 = .ok (.ireturn, 1) := by decide +kernel
set_option maxHeartbeats 4000000 in
set_option maxRecDepth 100000 in
theorem c_SR_inUserMode (l : Launch) (E : Ev) (ad : Nat → Nat) (σ : XS) : rC xCl l E (xW E ad) y_SR_inUserMode b_SR_inUserMode 1 (Option.some Jvm.ClassFile.FieldType.boolean) (rmo 0 0) [.ref (ad 2)] σ ((σ, some (Value.int (zb (f_SR_inUserMode σ))))) := by
  refine rC.of (by decide) (Nat.le_of_ble_eq_true rfl) ?_
  intro p e s m below meth c A ls hc w hl
  generalize e0 : (σ, some (Value.int (zb (f_SR_inUserMode σ)))) = Z
  have hc : Cx xCl E A p s m ([.ref (ad 2)] : List Value).toArray meth c b_SR_inUserMode 1 (Option.some Jvm.ClassFile.FieldType.boolean) "PageMachine$SystemRegisters" := hc
  have hx := hc.1
  have hb := hc.2.1
  have ho := hc.2.2.2.2.2.1
  have hT := hc.2.2.2.2.2.2.1
  have hl : lv_has ls 1 [(0, .ref (ad 2))] := hl
  refine lv_aload_n hx hb d_SR_inUserMode_0 rfl (lv_at hl 0 rfl) ?_
  refine g_SR_values hc w mw_47 d_SR_inUserMode_1 ?_
  refine lv_bipush (v := 12) hx hb d_SR_inUserMode_4 (by decide) ?_
  refine a_SR_values hc w (by unfold vp_in; decide) d_SR_inUserMode_6 ?_
  refine lv_bipush (v := 18) hx hb d_SR_inUserMode_7 (by decide) ?_
  refine lv_iand hx hb d_SR_inUserMode_9 ?_
  refine lv_bipush (v := 16) hx hb d_SR_inUserMode_10 (by decide) ?_
  refine lv_icmp_ne (tgt := 19) hx hb d_SR_inUserMode_12 (by decide) (fun q12 => ?_) (fun q12 => ?_)
  · refine lv_iconst (v := 0) hx hb d_SR_inUserMode_19 (by decide) ?_
    exact rt_z (v := false) hc w d_SR_inUserMode_20 rfl (by rw [← e0, f_SR_inUserMode, if_neg q12] <;> rfl)
  · refine lv_iconst (v := 1) hx hb d_SR_inUserMode_15 (by decide) ?_
    refine lv_goto (tgt := 20) hx hb d_SR_inUserMode_16 (by decide) ?_
    exact rt_z (v := true) hc w d_SR_inUserMode_20 rfl (by rw [← e0, f_SR_inUserMode, if_pos q12] <;> rfl)
-- SR_mayUseSystem
def f_SR_mayUseSystem_20 (σ : XS) : Bool := true
def f_SR_mayUseSystem (σ : XS) : Bool := if (zb (f_SR_inUserMode σ)) = 0 then (f_SR_mayUseSystem_20 σ) else (if ((x_values σ (Int32.toNatClampNeg (12 : Int32))) &&& (268435456 : Int32)) = 0 then (false) else (f_SR_mayUseSystem_20 σ))
theorem d_SR_mayUseSystem_0 : decode b_SR_mayUseSystem 0 = .ok (.aload_n 0, 1) := by decide +kernel
theorem d_SR_mayUseSystem_1 : decode b_SR_mayUseSystem 1 = .ok (.invokevirtual 33, 3) := by decide +kernel
theorem d_SR_mayUseSystem_4 : decode b_SR_mayUseSystem 4 = .ok (.ifCond .eq 16, 3) := by decide +kernel
theorem d_SR_mayUseSystem_7 : decode b_SR_mayUseSystem 7 = .ok (.aload_n 0, 1) := by decide +kernel
theorem d_SR_mayUseSystem_8 : decode b_SR_mayUseSystem 8 = .ok (.getfield 11, 3) := by decide +kernel
theorem d_SR_mayUseSystem_11 : decode b_SR_mayUseSystem 11 = .ok (.bipush 12, 2) := by decide +kernel
theorem d_SR_mayUseSystem_13 : decode b_SR_mayUseSystem 13 = .ok (.iaload, 1) := by decide +kernel
theorem d_SR_mayUseSystem_14 : decode b_SR_mayUseSystem 14 = .ok (.ldc 37, 2) := by decide +kernel
theorem d_SR_mayUseSystem_16 : decode b_SR_mayUseSystem 16 = .ok (.iand, 1) := by decide +kernel
theorem d_SR_mayUseSystem_17 : decode b_SR_mayUseSystem 17 = .ok (.ifCond .eq 7, 3) := by decide +kernel
theorem d_SR_mayUseSystem_20 : decode b_SR_mayUseSystem 20 = .ok (.iconst 1, 1) := by decide +kernel
theorem d_SR_mayUseSystem_21 : decode b_SR_mayUseSystem 21 = .ok (.goto 4, 3) := by decide +kernel
theorem d_SR_mayUseSystem_24 : decode b_SR_mayUseSystem 24 = .ok (.iconst 0, 1) := by decide +kernel
theorem d_SR_mayUseSystem_25 : decode b_SR_mayUseSystem 25 = .ok (.ireturn, 1) := by decide +kernel
set_option maxHeartbeats 4000000 in
set_option maxRecDepth 100000 in
theorem c_SR_mayUseSystem (l : Launch) (E : Ev) (ad : Nat → Nat) (σ : XS) : rC xCl l E (xW E ad) y_SR_mayUseSystem b_SR_mayUseSystem 1 (Option.some Jvm.ClassFile.FieldType.boolean) (rmo 1 20) [.ref (ad 2)] σ ((σ, some (Value.int (zb (f_SR_mayUseSystem σ))))) := by
  refine rC.of (by decide) (Nat.le_of_ble_eq_true rfl) ?_
  intro p e s m below meth c A ls hc w hl
  generalize e0 : (σ, some (Value.int (zb (f_SR_mayUseSystem σ)))) = Z
  have hc : Cx xCl E A p s m ([.ref (ad 2)] : List Value).toArray meth c b_SR_mayUseSystem 1 (Option.some Jvm.ClassFile.FieldType.boolean) "PageMachine$SystemRegisters" := hc
  have hx := hc.1
  have hb := hc.2.1
  have ho := hc.2.2.2.2.2.1
  have hT := hc.2.2.2.2.2.2.1
  have hl : lv_has ls 1 [(0, .ref (ad 2))] := hl
  have J20 : ∀ (H : Heap) (locs : List Loc) (ls : Array Slot), Wd xCl E A s.heap H locs (xW E ad σ) → lv_has ls 1 [] → (σ, some (Value.int (zb (f_SR_mayUseSystem_20 σ)))) = Z → W p l e (rmo 1 20) s m ([.ref (ad 2)] : List Value).toArray below meth c H locs 0 0 (MQ below (rQ xCl (xW E ad) E A Z) ([.ref (ad 2)] : List Value).toArray s 0 0 A) (F0 m 20 ls []) := by
    intro  H locs ls w hl e20
    refine lv_iconst (v := 1) hx hb d_SR_mayUseSystem_20 (by decide) ?_
    refine lv_goto (tgt := 25) hx hb d_SR_mayUseSystem_21 (by decide) ?_
    exact rt_z (v := true) hc w d_SR_mayUseSystem_25 rfl (by rw [← e20, f_SR_mayUseSystem_20] <;> rfl)
  refine lv_aload_n hx hb d_SR_mayUseSystem_0 rfl (lv_at hl 0 rfl) ?_
  refine rVZ (rest := []) hc w (c_SR_inUserMode l E ad σ) kv_SR_inUserMode mw_708 2 rfl rfl ⟨Nat.le_of_ble_eq_true rfl, Nat.le_of_ble_eq_true rfl⟩ hl.1 rfl (Nat.le_of_ble_eq_true rfl) ⟨Nat.zero_le _, Nat.zero_le _⟩ d_SR_mayUseSystem_1 (fun H locs w => ?_)
  refine lv_if_eq (tgt := 20) hx hb d_SR_mayUseSystem_4 (by decide) (fun q4 => ?_) (fun q4 => ?_)
  · exact J20  _ _ _ w (lv_sub hl [] rfl) (by rw [← e0, f_SR_mayUseSystem, if_pos q4])
  · refine lv_aload_n hx hb d_SR_mayUseSystem_7 rfl (lv_at hl 0 rfl) ?_
    refine g_SR_values hc w mw_47 d_SR_mayUseSystem_8 ?_
    refine lv_bipush (v := 12) hx hb d_SR_mayUseSystem_11 (by decide) ?_
    refine a_SR_values hc w (by unfold vp_in; decide) d_SR_mayUseSystem_13 ?_
    refine lv_ldc (v := 268435456) hx hb ho (hT _ mw_709) d_SR_mayUseSystem_14 ?_
    refine lv_iand hx hb d_SR_mayUseSystem_16 ?_
    refine lv_if_eq (tgt := 24) hx hb d_SR_mayUseSystem_17 (by decide) (fun q17 => ?_) (fun q17 => ?_)
    · refine lv_iconst (v := 0) hx hb d_SR_mayUseSystem_24 (by decide) ?_
      exact rt_z (v := false) hc w d_SR_mayUseSystem_25 rfl (by rw [← e0, f_SR_mayUseSystem, if_neg q4, if_pos q17] <;> rfl)
    · exact J20  _ _ _ w (lv_sub hl [] rfl) (by rw [← e0, f_SR_mayUseSystem, if_neg q4, if_neg q17])
-- SR_noteProbe
def f_SR_noteProbe_c1 (σ16 : XS) (a1 : Int32)  : XS := σ16
def f_SR_noteProbe_16 (σ : XS) (a1 : Int32) (w16_2 : Int32) : XS := f_SR_noteProbe_c1 (xs_values σ (upd (x_values σ) (Int32.toNatClampNeg (0 : Int32)) w16_2)) a1 
def f_SR_noteProbe (σ : XS) (a1 : Int32) : XS := if a1 = (-1 : Int32) then (f_SR_noteProbe_16 σ a1 (-2147483648 : Int32)) else (f_SR_noteProbe_16 σ a1 a1)
theorem d_SR_noteProbe_0 : decode b_SR_noteProbe 0 = .ok (.aload_n 0, 1) := by decide +kernel
theorem d_SR_noteProbe_1 : decode b_SR_noteProbe 1 = .ok (.getfield 11, 3) := by decide +kernel
theorem d_SR_noteProbe_4 : decode b_SR_noteProbe 4 = .ok (.iconst 0, 1) := by decide +kernel
theorem d_SR_noteProbe_5 : decode b_SR_noteProbe 5 = .ok (.iload_n 1, 1) := by decide +kernel
theorem d_SR_noteProbe_6 : decode b_SR_noteProbe 6 = .ok (.iconst (-1), 1) := by decide +kernel
theorem d_SR_noteProbe_7 : decode b_SR_noteProbe 7 = .ok (.if_icmp .ne 8, 3) := by decide +kernel
theorem d_SR_noteProbe_10 : decode b_SR_noteProbe 10 = .ok (.ldc 38, 2) := by decide +kernel
theorem d_SR_noteProbe_12 : decode b_SR_noteProbe 12 = .ok (.goto 4, 3) := by decide +kernel
theorem d_SR_noteProbe_15 : decode b_SR_noteProbe 15 = .ok (.iload_n 1, 1) := by decide +kernel
theorem d_SR_noteProbe_16 : decode b_SR_noteProbe 16 = .ok (.iastore, 1) := by decide +kernel
theorem d_SR_noteProbe_17 : decode b_SR_noteProbe 17 = .ok (.return_, 1) := by decide +kernel
set_option maxHeartbeats 4000000 in
set_option maxRecDepth 100000 in
theorem c_SR_noteProbe (l : Launch) (E : Ev) (ad : Nat → Nat) (σ : XS) (a1 : Int32) : rC xCl l E (xW E ad) y_SR_noteProbe b_SR_noteProbe 2 (Option.none : Option Jvm.ClassFile.FieldType) (rmo 0 0) [.ref (ad 2), .int a1] σ (zV (f_SR_noteProbe σ a1)) := by
  refine rC.of (by decide) (Nat.le_of_ble_eq_true rfl) ?_
  intro p e s m below meth c A ls hc w hl
  generalize e0 : zV (f_SR_noteProbe σ a1) = Z
  have hc : Cx xCl E A p s m ([.ref (ad 2), .int a1] : List Value).toArray meth c b_SR_noteProbe 2 (Option.none : Option Jvm.ClassFile.FieldType) "PageMachine$SystemRegisters" := hc
  have hx := hc.1
  have hb := hc.2.1
  have ho := hc.2.2.2.2.2.1
  have hT := hc.2.2.2.2.2.2.1
  have hl : lv_has ls 2 [(0, .ref (ad 2)), (1, .int a1)] := hl
  have J16 : ∀ (w16_2 : Int32) (H : Heap) (locs : List Loc) (ls : Array Slot), Wd xCl E A s.heap H locs (xW E ad σ) → lv_has ls 2 [] → zV (f_SR_noteProbe_16 σ a1 w16_2) = Z → W p l e (rmo 0 0) s m ([.ref (ad 2), .int a1] : List Value).toArray below meth c H locs 0 0 (MQ below (rQ xCl (xW E ad) E A Z) ([.ref (ad 2), .int a1] : List Value).toArray s 0 0 A) (F0 m 16 ls [.int w16_2, .int (0 : Int32), .ref (ad 12)]) := by
    intro w16_2 H locs ls w hl e16
    refine s_SR_values hc w (by unfold vp_in; decide) d_SR_noteProbe_16 (fun σ16 H locs hs16 w => ?_)
    have e_c1 : zV (f_SR_noteProbe_c1 σ16 a1 ) = Z := by rw [← e16, f_SR_noteProbe_16, hs16]
    exact rt_v hc w d_SR_noteProbe_17 (by rw [← e_c1, f_SR_noteProbe_c1] <;> rfl)
  refine lv_aload_n hx hb d_SR_noteProbe_0 rfl (lv_at hl 0 rfl) ?_
  refine g_SR_values hc w mw_47 d_SR_noteProbe_1 ?_
  refine lv_iconst (v := 0) hx hb d_SR_noteProbe_4 (by decide) ?_
  refine lv_iload_n hx hb d_SR_noteProbe_5 rfl (lv_at hl 1 rfl) ?_
  refine lv_iconst (v := -1) hx hb d_SR_noteProbe_6 (by decide) ?_
  refine lv_icmp_ne (tgt := 15) hx hb d_SR_noteProbe_7 (by decide) (fun q7 => ?_) (fun q7 => ?_)
  · refine lv_iload_n hx hb d_SR_noteProbe_15 rfl (lv_at hl 1 rfl) ?_
    exact J16 a1 _ _ _ w (lv_sub hl [] rfl) (by rw [← e0, f_SR_noteProbe, if_neg q7])
  · refine lv_ldc (v := -2147483648) hx hb ho (hT _ mw_474) d_SR_noteProbe_10 ?_
    refine lv_goto (tgt := 16) hx hb d_SR_noteProbe_12 (by decide) ?_
    exact J16 (-2147483648 : Int32) _ _ _ w (lv_sub hl [] rfl) (by rw [← e0, f_SR_noteProbe, if_pos q7])
-- SR_loadEntry
def f_SR_loadEntry_c3 (σ21 : XS) (a1 : Int32) (a2 : Int32) (a3 : Int32)  : XS := σ21
def f_SR_loadEntry_c2 (σ14 : XS) (a1 : Int32) (a2 : Int32) (a3 : Int32)  : XS := f_SR_loadEntry_c3 (xs_values σ14 (upd (x_values σ14) (Int32.toNatClampNeg (3 : Int32)) a3)) a1 a2 a3 
def f_SR_loadEntry_c1 (σ7 : XS) (a1 : Int32) (a2 : Int32) (a3 : Int32)  : XS := f_SR_loadEntry_c2 (xs_values σ7 (upd (x_values σ7) (Int32.toNatClampNeg (2 : Int32)) a2)) a1 a2 a3 
def f_SR_loadEntry (σ : XS) (a1 : Int32) (a2 : Int32) (a3 : Int32) : XS := f_SR_loadEntry_c1 (xs_values σ (upd (x_values σ) (Int32.toNatClampNeg (10 : Int32)) a1)) a1 a2 a3 
theorem d_SR_loadEntry_0 : decode b_SR_loadEntry 0 = .ok (.aload_n 0, 1) := by decide +kernel
theorem d_SR_loadEntry_1 : decode b_SR_loadEntry 1 = .ok (.getfield 11, 3) := by decide +kernel
theorem d_SR_loadEntry_4 : decode b_SR_loadEntry 4 = .ok (.bipush 10, 2) := by decide +kernel
theorem d_SR_loadEntry_6 : decode b_SR_loadEntry 6 = .ok (.iload_n 1, 1) := by decide +kernel
theorem d_SR_loadEntry_7 : decode b_SR_loadEntry 7 = .ok (.iastore, 1) := by decide +kernel
theorem d_SR_loadEntry_8 : decode b_SR_loadEntry 8 = .ok (.aload_n 0, 1) := by decide +kernel
theorem d_SR_loadEntry_9 : decode b_SR_loadEntry 9 = .ok (.getfield 11, 3) := by decide +kernel
theorem d_SR_loadEntry_12 : decode b_SR_loadEntry 12 = .ok (.iconst 2, 1) := by decide +kernel
theorem d_SR_loadEntry_13 : decode b_SR_loadEntry 13 = .ok (.iload_n 2, 1) := by decide +kernel
theorem d_SR_loadEntry_14 : decode b_SR_loadEntry 14 = .ok (.iastore, 1) := by decide +kernel
theorem d_SR_loadEntry_15 : decode b_SR_loadEntry 15 = .ok (.aload_n 0, 1) := by decide +kernel
theorem d_SR_loadEntry_16 : decode b_SR_loadEntry 16 = .ok (.getfield 11, 3) := by decide +kernel
theorem d_SR_loadEntry_19 : decode b_SR_loadEntry 19 = .ok (.iconst 3, 1) := by decide +kernel
theorem d_SR_loadEntry_20 : decode b_SR_loadEntry 20 = .ok (.iload_n 3, 1) := by decide +kernel
theorem d_SR_loadEntry_21 : decode b_SR_loadEntry 21 = .ok (.iastore, 1) := by decide +kernel
theorem d_SR_loadEntry_22 : decode b_SR_loadEntry 22 = .ok (.return_, 1) := by decide +kernel
set_option maxHeartbeats 4000000 in
set_option maxRecDepth 100000 in
theorem c_SR_loadEntry (l : Launch) (E : Ev) (ad : Nat → Nat) (σ : XS) (a1 : Int32) (a2 : Int32) (a3 : Int32) : rC xCl l E (xW E ad) y_SR_loadEntry b_SR_loadEntry 4 (Option.none : Option Jvm.ClassFile.FieldType) (rmo 0 0) [.ref (ad 2), .int a1, .int a2, .int a3] σ (zV (f_SR_loadEntry σ a1 a2 a3)) := by
  refine rC.of (by decide) (Nat.le_of_ble_eq_true rfl) ?_
  intro p e s m below meth c A ls hc w hl
  generalize e0 : zV (f_SR_loadEntry σ a1 a2 a3) = Z
  have hc : Cx xCl E A p s m ([.ref (ad 2), .int a1, .int a2, .int a3] : List Value).toArray meth c b_SR_loadEntry 4 (Option.none : Option Jvm.ClassFile.FieldType) "PageMachine$SystemRegisters" := hc
  have hx := hc.1
  have hb := hc.2.1
  have ho := hc.2.2.2.2.2.1
  have hT := hc.2.2.2.2.2.2.1
  have hl : lv_has ls 4 [(0, .ref (ad 2)), (1, .int a1), (2, .int a2), (3, .int a3)] := hl
  refine lv_aload_n hx hb d_SR_loadEntry_0 rfl (lv_at hl 0 rfl) ?_
  refine g_SR_values hc w mw_47 d_SR_loadEntry_1 ?_
  refine lv_bipush (v := 10) hx hb d_SR_loadEntry_4 (by decide) ?_
  refine lv_iload_n hx hb d_SR_loadEntry_6 rfl (lv_at hl 1 rfl) ?_
  refine s_SR_values hc w (by unfold vp_in; decide) d_SR_loadEntry_7 (fun σ7 H locs hs7 w => ?_)
  have e_c1 : zV (f_SR_loadEntry_c1 σ7 a1 a2 a3 ) = Z := by rw [← e0, f_SR_loadEntry, hs7]
  refine lv_aload_n hx hb d_SR_loadEntry_8 rfl (lv_at hl 0 rfl) ?_
  refine g_SR_values hc w mw_47 d_SR_loadEntry_9 ?_
  refine lv_iconst (v := 2) hx hb d_SR_loadEntry_12 (by decide) ?_
  refine lv_iload_n hx hb d_SR_loadEntry_13 rfl (lv_at hl 2 rfl) ?_
  refine s_SR_values hc w (by unfold vp_in; decide) d_SR_loadEntry_14 (fun σ14 H locs hs14 w => ?_)
  have e_c2 : zV (f_SR_loadEntry_c2 σ14 a1 a2 a3 ) = Z := by rw [← e_c1, f_SR_loadEntry_c1, hs14]
  refine lv_aload_n hx hb d_SR_loadEntry_15 rfl (lv_at hl 0 rfl) ?_
  refine g_SR_values hc w mw_47 d_SR_loadEntry_16 ?_
  refine lv_iconst (v := 3) hx hb d_SR_loadEntry_19 (by decide) ?_
  refine lv_iload_n hx hb d_SR_loadEntry_20 rfl (lv_at hl 3 rfl) ?_
  refine s_SR_values hc w (by unfold vp_in; decide) d_SR_loadEntry_21 (fun σ21 H locs hs21 w => ?_)
  have e_c3 : zV (f_SR_loadEntry_c3 σ21 a1 a2 a3 ) = Z := by rw [← e_c2, f_SR_loadEntry_c2, hs21]
  exact rt_v hc w d_SR_loadEntry_22 (by rw [← e_c3, f_SR_loadEntry_c3] <;> rfl)
-- SR_leaveFault
def f_SR_leaveFault_c1 (σ11 : XS)   : XS × Int32 := (σ11, x_values σ11 (Int32.toNatClampNeg (14 : Int32)))
def f_SR_leaveFault (σ : XS) : XS × Int32 := f_SR_leaveFault_c1 (xs_values σ (upd (x_values σ) (Int32.toNatClampNeg (12 : Int32)) ((x_values σ (Int32.toNatClampNeg (12 : Int32))) &&& (-3 : Int32))))  
theorem d_SR_leaveFault_0 : decode b_SR_leaveFault 0 = .ok (.aload_n 0, 1) := by decide +kernel
theorem d_SR_leaveFault_1 : decode b_SR_leaveFault 1 = .ok (.getfield 11, 3) := by decide +kernel
theorem d_SR_leaveFault_4 : decode b_SR_leaveFault 4 = .ok (.bipush 12, 2) := by decide +kernel
theorem d_SR_leaveFault_6 : decode b_SR_leaveFault 6 = .ok (.dup2, 1) := by decide +kernel
theorem d_SR_leaveFault_7 : decode b_SR_leaveFault 7 = .ok (.iaload, 1) := by decide +kernel
theorem d_SR_leaveFault_8 : decode b_SR_leaveFault 8 = .ok (.bipush (-3), 2) := by decide +kernel
theorem d_SR_leaveFault_10 : decode b_SR_leaveFault 10 = .ok (.iand, 1) := by decide +kernel
theorem d_SR_leaveFault_11 : decode b_SR_leaveFault 11 = .ok (.iastore, 1) := by decide +kernel
theorem d_SR_leaveFault_12 : decode b_SR_leaveFault 12 = .ok (.aload_n 0, 1) := by decide +kernel
theorem d_SR_leaveFault_13 : decode b_SR_leaveFault 13 = .ok (.getfield 11, 3) := by decide +kernel
theorem d_SR_leaveFault_16 : decode b_SR_leaveFault 16 = .ok (.bipush 14, 2) := by decide +kernel
theorem d_SR_leaveFault_18 : decode b_SR_leaveFault 18 = .ok (.iaload, 1) := by decide +kernel
theorem d_SR_leaveFault_19 : decode b_SR_leaveFault 19 = .ok (.ireturn, 1) := by decide +kernel
set_option maxHeartbeats 4000000 in
set_option maxRecDepth 100000 in
theorem c_SR_leaveFault (l : Launch) (E : Ev) (ad : Nat → Nat) (σ : XS) : rC xCl l E (xW E ad) y_SR_leaveFault b_SR_leaveFault 1 (Option.some Jvm.ClassFile.FieldType.int) (rmo 0 0) [.ref (ad 2)] σ (zI (f_SR_leaveFault σ)) := by
  refine rC.of (by decide) (Nat.le_of_ble_eq_true rfl) ?_
  intro p e s m below meth c A ls hc w hl
  generalize e0 : zI (f_SR_leaveFault σ) = Z
  have hc : Cx xCl E A p s m ([.ref (ad 2)] : List Value).toArray meth c b_SR_leaveFault 1 (Option.some Jvm.ClassFile.FieldType.int) "PageMachine$SystemRegisters" := hc
  have hx := hc.1
  have hb := hc.2.1
  have ho := hc.2.2.2.2.2.1
  have hT := hc.2.2.2.2.2.2.1
  have hl : lv_has ls 1 [(0, .ref (ad 2))] := hl
  refine lv_aload_n hx hb d_SR_leaveFault_0 rfl (lv_at hl 0 rfl) ?_
  refine g_SR_values hc w mw_47 d_SR_leaveFault_1 ?_
  refine lv_bipush (v := 12) hx hb d_SR_leaveFault_4 (by decide) ?_
  refine lv_dup2_11 hx hb d_SR_leaveFault_6 rfl rfl ?_
  refine a_SR_values hc w (by unfold vp_in; decide) d_SR_leaveFault_7 ?_
  refine lv_bipush (v := -3) hx hb d_SR_leaveFault_8 (by decide) ?_
  refine lv_iand hx hb d_SR_leaveFault_10 ?_
  refine s_SR_values hc w (by unfold vp_in; decide) d_SR_leaveFault_11 (fun σ11 H locs hs11 w => ?_)
  have e_c1 : zI (f_SR_leaveFault_c1 σ11  ) = Z := by rw [← e0, f_SR_leaveFault, hs11]
  refine lv_aload_n hx hb d_SR_leaveFault_12 rfl (lv_at hl 0 rfl) ?_
  refine g_SR_values hc w mw_47 d_SR_leaveFault_13 ?_
  refine lv_bipush (v := 14) hx hb d_SR_leaveFault_16 (by decide) ?_
  refine a_SR_values hc w (by unfold vp_in; decide) d_SR_leaveFault_18 ?_
  exact rt_i hc w d_SR_leaveFault_19 (by rw [← e_c1, f_SR_leaveFault_c1] <;> rfl)
-- SR_noteAddress
def f_SR_noteAddress_c3 (σ95 : XS) (a1 : Int32) (a2 : Int32)  : XS := σ95
def f_SR_noteAddress_c2 (σ71 : XS) (a1 : Int32) (a2 : Int32)  : XS := f_SR_noteAddress_c3 (xs_values σ71 (upd (x_values σ71) (Int32.toNatClampNeg (10 : Int32)) (((x_values σ71 (Int32.toNatClampNeg (10 : Int32))) &&& (255 : Int32)) ||| (a2 &&& (-8192 : Int32))))) a1 a2 
def f_SR_noteAddress_43 (σ43 : XS) (a1 : Int32) (a2 : Int32) (v43_3 : Bool) : XS := if (zb v43_3) = 0 then (σ43) else (f_SR_noteAddress_c2 (xs_values σ43 (upd (x_values σ43) (Int32.toNatClampNeg (4 : Int32)) (((x_values σ43 (Int32.toNatClampNeg (4 : Int32))) &&& (wbI (Int32.toNatClampNeg (4 : Int32)))) ||| (((Int32.toUInt32 a2 >>> (Int32.toUInt32 (13 : Int32) &&& Int32.toUInt32 31)).toInt32) <<< ((4 : Int32) &&& 31))))) a1 a2 )
def f_SR_noteAddress_c1 (σ42 : XS) (a1 : Int32) (a2 : Int32) (v35_3 : Bool) : XS := f_SR_noteAddress_43 σ42 a1 a2 v35_3
def f_SR_noteAddress_35 (σ : XS) (a1 : Int32) (a2 : Int32) (v35_3 : Bool) : XS := f_SR_noteAddress_c1 (xs_values σ (upd (x_values σ) (Int32.toNatClampNeg (8 : Int32)) a2)) a1 a2 v35_3
def f_SR_noteAddress_20 (σ : XS) (a1 : Int32) (a2 : Int32) (w20_0 : Bool) : XS := if (zb w20_0) = 0 then (if a1 = (4 : Int32) then (f_SR_noteAddress_35 σ a1 a2 w20_0) else (if a1 = (5 : Int32) then (f_SR_noteAddress_35 σ a1 a2 w20_0) else (f_SR_noteAddress_43 σ a1 a2 w20_0))) else (f_SR_noteAddress_35 σ a1 a2 w20_0)
def f_SR_noteAddress_15 (σ : XS) (a1 : Int32) (a2 : Int32) : XS := f_SR_noteAddress_20 σ a1 a2 true
def f_SR_noteAddress (σ : XS) (a1 : Int32) (a2 : Int32) : XS := if a1 = (1 : Int32) then (f_SR_noteAddress_15 σ a1 a2) else (if a1 = (2 : Int32) then (f_SR_noteAddress_15 σ a1 a2) else (if a1 = (3 : Int32) then (f_SR_noteAddress_15 σ a1 a2) else (f_SR_noteAddress_20 σ a1 a2 false)))
theorem d_SR_noteAddress_0 : decode b_SR_noteAddress 0 = .ok (.iload_n 1, 1) := by decide +kernel
theorem d_SR_noteAddress_1 : decode b_SR_noteAddress 1 = .ok (.iconst 1, 1) := by decide +kernel
theorem d_SR_noteAddress_2 : decode b_SR_noteAddress 2 = .ok (.if_icmp .eq 13, 3) := by decide +kernel
theorem d_SR_noteAddress_5 : decode b_SR_noteAddress 5 = .ok (.iload_n 1, 1) := by decide +kernel
theorem d_SR_noteAddress_6 : decode b_SR_noteAddress 6 = .ok (.iconst 2, 1) := by decide +kernel
theorem d_SR_noteAddress_7 : decode b_SR_noteAddress 7 = .ok (.if_icmp .eq 8, 3) := by decide +kernel
theorem d_SR_noteAddress_10 : decode b_SR_noteAddress 10 = .ok (.iload_n 1, 1) := by decide +kernel
theorem d_SR_noteAddress_11 : decode b_SR_noteAddress 11 = .ok (.iconst 3, 1) := by decide +kernel
theorem d_SR_noteAddress_12 : decode b_SR_noteAddress 12 = .ok (.if_icmp .ne 7, 3) := by decide +kernel
theorem d_SR_noteAddress_15 : decode b_SR_noteAddress 15 = .ok (.iconst 1, 1) := by decide +kernel
theorem d_SR_noteAddress_16 : decode b_SR_noteAddress 16 = .ok (.goto 4, 3) := by decide +kernel
theorem d_SR_noteAddress_19 : decode b_SR_noteAddress 19 = .ok (.iconst 0, 1) := by decide +kernel
theorem d_SR_noteAddress_20 : decode b_SR_noteAddress 20 = .ok (.istore_n 3, 1) := by decide +kernel
theorem d_SR_noteAddress_21 : decode b_SR_noteAddress 21 = .ok (.iload_n 3, 1) := by decide +kernel
theorem d_SR_noteAddress_22 : decode b_SR_noteAddress 22 = .ok (.ifCond .ne 13, 3) := by decide +kernel
theorem d_SR_noteAddress_25 : decode b_SR_noteAddress 25 = .ok (.iload_n 1, 1) := by decide +kernel
theorem d_SR_noteAddress_26 : decode b_SR_noteAddress 26 = .ok (.iconst 4, 1) := by decide +kernel
theorem d_SR_noteAddress_27 : decode b_SR_noteAddress 27 = .ok (.if_icmp .eq 8, 3) := by decide +kernel
theorem d_SR_noteAddress_30 : decode b_SR_noteAddress 30 = .ok (.iload_n 1, 1) := by decide +kernel
theorem d_SR_noteAddress_31 : decode b_SR_noteAddress 31 = .ok (.iconst 5, 1) := by decide +kernel
theorem d_SR_noteAddress_32 : decode b_SR_noteAddress 32 = .ok (.if_icmp .ne 11, 3) := by decide +kernel
theorem d_SR_noteAddress_35 : decode b_SR_noteAddress 35 = .ok (.aload_n 0, 1) := by decide +kernel
theorem d_SR_noteAddress_36 : decode b_SR_noteAddress 36 = .ok (.getfield 11, 3) := by decide +kernel
theorem d_SR_noteAddress_39 : decode b_SR_noteAddress 39 = .ok (.bipush 8, 2) := by decide +kernel
theorem d_SR_noteAddress_41 : decode b_SR_noteAddress 41 = .ok (.iload_n 2, 1) := by decide +kernel
theorem d_SR_noteAddress_42 : decode b_SR_noteAddress 42 = .ok (.iastore, 1) := by decide +kernel
theorem d_SR_noteAddress_43 : decode b_SR_noteAddress 43 = .ok (.iload_n 3, 1) := by decide +kernel
theorem d_SR_noteAddress_44 : decode b_SR_noteAddress 44 = .ok (.ifCond .eq 52, 3) := by decide +kernel
theorem d_SR_noteAddress_47 : decode b_SR_noteAddress 47 = .ok (.aload_n 0, 1) := by decide +kernel
theorem d_SR_noteAddress_48 : decode b_SR_noteAddress 48 = .ok (.getfield 11, 3) := by decide +kernel
theorem d_SR_noteAddress_51 : decode b_SR_noteAddress 51 = .ok (.iconst 4, 1) := by decide +kernel
theorem d_SR_noteAddress_52 : decode b_SR_noteAddress 52 = .ok (.aload_n 0, 1) := by decide +kernel
theorem d_SR_noteAddress_53 : decode b_SR_noteAddress 53 = .ok (.getfield 11, 3) := by decide +kernel
theorem d_SR_noteAddress_56 : decode b_SR_noteAddress 56 = .ok (.iconst 4, 1) := by decide +kernel
theorem d_SR_noteAddress_57 : decode b_SR_noteAddress 57 = .ok (.iaload, 1) := by decide +kernel
theorem d_SR_noteAddress_58 : decode b_SR_noteAddress 58 = .ok (.getstatic 25, 3) := by decide +kernel
theorem d_SR_noteAddress_61 : decode b_SR_noteAddress 61 = .ok (.iconst 4, 1) := by decide +kernel
theorem d_SR_noteAddress_62 : decode b_SR_noteAddress 62 = .ok (.iaload, 1) := by decide +kernel
theorem d_SR_noteAddress_63 : decode b_SR_noteAddress 63 = .ok (.iand, 1) := by decide +kernel
theorem d_SR_noteAddress_64 : decode b_SR_noteAddress 64 = .ok (.iload_n 2, 1) := by decide +kernel
theorem d_SR_noteAddress_65 : decode b_SR_noteAddress 65 = .ok (.bipush 13, 2) := by decide +kernel
theorem d_SR_noteAddress_67 : decode b_SR_noteAddress 67 = .ok (.iushr, 1) := by decide +kernel
theorem d_SR_noteAddress_68 : decode b_SR_noteAddress 68 = .ok (.iconst 4, 1) := by decide +kernel
theorem d_SR_noteAddress_69 : decode b_SR_noteAddress 69 = .ok (.ishl, 1) := by decide +kernel
theorem d_SR_noteAddress_70 : decode b_SR_noteAddress 70 = .ok (.ior, 1) := by decide +kernel
theorem d_SR_noteAddress_71 : decode b_SR_noteAddress 71 = .ok (.iastore, 1) := by decide +kernel
theorem d_SR_noteAddress_72 : decode b_SR_noteAddress 72 = .ok (.aload_n 0, 1) := by decide +kernel
theorem d_SR_noteAddress_73 : decode b_SR_noteAddress 73 = .ok (.getfield 11, 3) := by decide +kernel
theorem d_SR_noteAddress_76 : decode b_SR_noteAddress 76 = .ok (.bipush 10, 2) := by decide +kernel
theorem d_SR_noteAddress_78 : decode b_SR_noteAddress 78 = .ok (.aload_n 0, 1) := by decide +kernel
theorem d_SR_noteAddress_79 : decode b_SR_noteAddress 79 = .ok (.getfield 11, 3) := by decide +kernel
theorem d_SR_noteAddress_82 : decode b_SR_noteAddress 82 = .ok (.bipush 10, 2) := by decide +kernel
theorem d_SR_noteAddress_84 : decode b_SR_noteAddress 84 = .ok (.iaload, 1) := by decide +kernel
theorem d_SR_noteAddress_85 : decode b_SR_noteAddress 85 = .ok (.sipush 255, 3) := by decide +kernel
theorem d_SR_noteAddress_88 : decode b_SR_noteAddress 88 = .ok (.iand, 1) := by decide +kernel
theorem d_SR_noteAddress_89 : decode b_SR_noteAddress 89 = .ok (.iload_n 2, 1) := by decide +kernel
theorem d_SR_noteAddress_90 : decode b_SR_noteAddress 90 = .ok (.sipush (-8192), 3) := by decide +kernel
theorem d_SR_noteAddress_93 : decode b_SR_noteAddress 93 = .ok (.iand, 1) := by decide +kernel
theorem d_SR_noteAddress_94 : decode b_SR_noteAddress 94 = .ok (.ior, 1) := by decide +kernel
theorem d_SR_noteAddress_95 : decode b_SR_noteAddress 95 = .ok (.iastore, 1) := by decide +kernel
theorem d_SR_noteAddress_96 : decode b_SR_noteAddress 96 = .ok (.return_, 1) := by decide +kernel
set_option maxHeartbeats 4000000 in
set_option maxRecDepth 100000 in
theorem c_SR_noteAddress (l : Launch) (E : Ev) (ad : Nat → Nat) (σ : XS) (a1 : Int32) (a2 : Int32) : rC xCl l E (xW E ad) y_SR_noteAddress b_SR_noteAddress 4 (Option.none : Option Jvm.ClassFile.FieldType) (rmo 0 0) [.ref (ad 2), .int a1, .int a2] σ (zV (f_SR_noteAddress σ a1 a2)) := by
  refine rC.of (by decide) (Nat.le_of_ble_eq_true rfl) ?_
  intro p e s m below meth c A ls hc w hl
  generalize e0 : zV (f_SR_noteAddress σ a1 a2) = Z
  have hc : Cx xCl E A p s m ([.ref (ad 2), .int a1, .int a2] : List Value).toArray meth c b_SR_noteAddress 4 (Option.none : Option Jvm.ClassFile.FieldType) "PageMachine$SystemRegisters" := hc
  have hx := hc.1
  have hb := hc.2.1
  have ho := hc.2.2.2.2.2.1
  have hT := hc.2.2.2.2.2.2.1
  have hl : lv_has ls 4 [(0, .ref (ad 2)), (1, .int a1), (2, .int a2)] := hl
  have J43 : ∀ (σ43 : XS) (v43_3 : Bool) (H : Heap) (locs : List Loc) (ls : Array Slot), Wd xCl E A s.heap H locs (xW E ad σ43) → lv_has ls 4 [(3, .int (zb v43_3)), (0, .ref (ad 2)), (2, .int a2)] → zV (f_SR_noteAddress_43 σ43 a1 a2 v43_3) = Z → W p l e (rmo 0 0) s m ([.ref (ad 2), .int a1, .int a2] : List Value).toArray below meth c H locs 0 0 (MQ below (rQ xCl (xW E ad) E A Z) ([.ref (ad 2), .int a1, .int a2] : List Value).toArray s 0 0 A) (F0 m 43 ls []) := by
    intro σ43 v43_3 H locs ls w hl e43
    refine lv_iload_n hx hb d_SR_noteAddress_43 rfl (lv_at hl 0 rfl) ?_
    refine lv_if_eq (tgt := 96) hx hb d_SR_noteAddress_44 (by decide) (fun q44 => ?_) (fun q44 => ?_)
    · exact rt_v hc w d_SR_noteAddress_96 (by rw [← e43, f_SR_noteAddress_43, if_pos q44] <;> rfl)
    · refine lv_aload_n hx hb d_SR_noteAddress_47 rfl (lv_at hl 1 rfl) ?_
      refine g_SR_values hc w mw_47 d_SR_noteAddress_48 ?_
      refine lv_iconst (v := 4) hx hb d_SR_noteAddress_51 (by decide) ?_
      refine lv_aload_n hx hb d_SR_noteAddress_52 rfl (lv_at hl 1 rfl) ?_
      refine g_SR_values hc w mw_47 d_SR_noteAddress_53 ?_
      refine lv_iconst (v := 4) hx hb d_SR_noteAddress_56 (by decide) ?_
      refine a_SR_values hc w (by unfold vp_in; decide) d_SR_noteAddress_57 ?_
      refine va_gets hx hb hc.2.2.2.2.2.2.2.2.1.1 w.2.2.1 ho (hT _ mw_398) (fun _ h => h) d_SR_noteAddress_58 ?_
      refine lv_iconst (v := 4) hx hb d_SR_noteAddress_61 (by decide) ?_
      refine va_ti hx hb hc.2.2.2.2.2.2.2.2.1.2 w.2.2.1 (by unfold vp_in; decide) rfl d_SR_noteAddress_62 ?_
      refine lv_iand hx hb d_SR_noteAddress_63 ?_
      refine lv_iload_n hx hb d_SR_noteAddress_64 rfl (lv_at hl 2 rfl) ?_
      refine lv_bipush (v := 13) hx hb d_SR_noteAddress_65 (by decide) ?_
      refine lv_iushr hx hb d_SR_noteAddress_67 rfl ?_
      refine lv_iconst (v := 4) hx hb d_SR_noteAddress_68 (by decide) ?_
      refine lv_ishl hx hb d_SR_noteAddress_69 ?_
      refine lv_ior hx hb d_SR_noteAddress_70 ?_
      refine s_SR_values hc w (by unfold vp_in; decide) d_SR_noteAddress_71 (fun σ71 H locs hs71 w => ?_)
      have e_c2 : zV (f_SR_noteAddress_c2 σ71 a1 a2 ) = Z := by rw [← e43, f_SR_noteAddress_43, if_neg q44, hs71]
      refine lv_aload_n hx hb d_SR_noteAddress_72 rfl (lv_at hl 1 rfl) ?_
      refine g_SR_values hc w mw_47 d_SR_noteAddress_73 ?_
      refine lv_bipush (v := 10) hx hb d_SR_noteAddress_76 (by decide) ?_
      refine lv_aload_n hx hb d_SR_noteAddress_78 rfl (lv_at hl 1 rfl) ?_
      refine g_SR_values hc w mw_47 d_SR_noteAddress_79 ?_
      refine lv_bipush (v := 10) hx hb d_SR_noteAddress_82 (by decide) ?_
      refine a_SR_values hc w (by unfold vp_in; decide) d_SR_noteAddress_84 ?_
      refine lv_sipush (v := 255) hx hb d_SR_noteAddress_85 (by decide) ?_
      refine lv_iand hx hb d_SR_noteAddress_88 ?_
      refine lv_iload_n hx hb d_SR_noteAddress_89 rfl (lv_at hl 2 rfl) ?_
      refine lv_sipush (v := -8192) hx hb d_SR_noteAddress_90 (by decide) ?_
      refine lv_iand hx hb d_SR_noteAddress_93 ?_
      refine lv_ior hx hb d_SR_noteAddress_94 ?_
      refine s_SR_values hc w (by unfold vp_in; decide) d_SR_noteAddress_95 (fun σ95 H locs hs95 w => ?_)
      have e_c3 : zV (f_SR_noteAddress_c3 σ95 a1 a2 ) = Z := by rw [← e_c2, f_SR_noteAddress_c2, hs95]
      exact rt_v hc w d_SR_noteAddress_96 (by rw [← e_c3, f_SR_noteAddress_c3] <;> rfl)
  have J35 : ∀ (v35_3 : Bool) (H : Heap) (locs : List Loc) (ls : Array Slot), Wd xCl E A s.heap H locs (xW E ad σ) → lv_has ls 4 [(3, .int (zb v35_3)), (0, .ref (ad 2)), (2, .int a2)] → zV (f_SR_noteAddress_35 σ a1 a2 v35_3) = Z → W p l e (rmo 0 0) s m ([.ref (ad 2), .int a1, .int a2] : List Value).toArray below meth c H locs 0 0 (MQ below (rQ xCl (xW E ad) E A Z) ([.ref (ad 2), .int a1, .int a2] : List Value).toArray s 0 0 A) (F0 m 35 ls []) := by
    intro v35_3 H locs ls w hl e35
    refine lv_aload_n hx hb d_SR_noteAddress_35 rfl (lv_at hl 1 rfl) ?_
    refine g_SR_values hc w mw_47 d_SR_noteAddress_36 ?_
    refine lv_bipush (v := 8) hx hb d_SR_noteAddress_39 (by decide) ?_
    refine lv_iload_n hx hb d_SR_noteAddress_41 rfl (lv_at hl 2 rfl) ?_
    refine s_SR_values hc w (by unfold vp_in; decide) d_SR_noteAddress_42 (fun σ42 H locs hs42 w => ?_)
    have e_c1 : zV (f_SR_noteAddress_c1 σ42 a1 a2 v35_3) = Z := by rw [← e35, f_SR_noteAddress_35, hs42]
    exact J43 σ42 v35_3 _ _ _ w (lv_sub hl [0, 1, 2] rfl) (by rw [← e_c1, f_SR_noteAddress_c1])
  have J20 : ∀ (w20_0 : Bool) (H : Heap) (locs : List Loc) (ls : Array Slot), Wd xCl E A s.heap H locs (xW E ad σ) → lv_has ls 4 [(0, .ref (ad 2)), (1, .int a1), (2, .int a2)] → zV (f_SR_noteAddress_20 σ a1 a2 w20_0) = Z → W p l e (rmo 0 0) s m ([.ref (ad 2), .int a1, .int a2] : List Value).toArray below meth c H locs 0 0 (MQ below (rQ xCl (xW E ad) E A Z) ([.ref (ad 2), .int a1, .int a2] : List Value).toArray s 0 0 A) (F0 m 20 ls [.int (zb w20_0)]) := by
    intro w20_0 H locs ls w hl e20
    refine lv_istore_n (lv' := [(3, .int (zb w20_0)), (0, .ref (ad 2)), (1, .int a1), (2, .int a2)]) hx hb d_SR_noteAddress_20 rfl hl (by decide) rfl (fun ls hl => ?_)
    refine lv_iload_n hx hb d_SR_noteAddress_21 rfl (lv_at hl 0 rfl) ?_
    refine lv_if_ne (tgt := 35) hx hb d_SR_noteAddress_22 (by decide) (fun q22 => ?_) (fun q22 => ?_)
    · exact J35 w20_0 _ _ _ w (lv_sub hl [0, 1, 3] rfl) (by rw [← e20, f_SR_noteAddress_20, if_neg q22])
    · refine lv_iload_n hx hb d_SR_noteAddress_25 rfl (lv_at hl 2 rfl) ?_
      refine lv_iconst (v := 4) hx hb d_SR_noteAddress_26 (by decide) ?_
      refine lv_icmp_eq (tgt := 35) hx hb d_SR_noteAddress_27 (by decide) (fun q27 => ?_) (fun q27 => ?_)
      · exact J35 w20_0 _ _ _ w (lv_sub hl [0, 1, 3] rfl) (by rw [← e20, f_SR_noteAddress_20, if_pos q22, if_pos q27])
      · refine lv_iload_n hx hb d_SR_noteAddress_30 rfl (lv_at hl 2 rfl) ?_
        refine lv_iconst (v := 5) hx hb d_SR_noteAddress_31 (by decide) ?_
        refine lv_icmp_ne (tgt := 43) hx hb d_SR_noteAddress_32 (by decide) (fun q32 => ?_) (fun q32 => ?_)
        · exact J43 σ w20_0 _ _ _ w (lv_sub hl [0, 1, 3] rfl) (by rw [← e20, f_SR_noteAddress_20, if_pos q22, if_neg q27, if_neg q32])
        · exact J35 w20_0 _ _ _ w (lv_sub hl [0, 1, 3] rfl) (by rw [← e20, f_SR_noteAddress_20, if_pos q22, if_neg q27, if_pos q32])
  have J15 : ∀ (H : Heap) (locs : List Loc) (ls : Array Slot), Wd xCl E A s.heap H locs (xW E ad σ) → lv_has ls 4 [(0, .ref (ad 2)), (1, .int a1), (2, .int a2)] → zV (f_SR_noteAddress_15 σ a1 a2) = Z → W p l e (rmo 0 0) s m ([.ref (ad 2), .int a1, .int a2] : List Value).toArray below meth c H locs 0 0 (MQ below (rQ xCl (xW E ad) E A Z) ([.ref (ad 2), .int a1, .int a2] : List Value).toArray s 0 0 A) (F0 m 15 ls []) := by
    intro  H locs ls w hl e15
    refine lv_iconst (v := 1) hx hb d_SR_noteAddress_15 (by decide) ?_
    refine lv_goto (tgt := 20) hx hb d_SR_noteAddress_16 (by decide) ?_
    exact J20 true _ _ _ w (lv_sub hl [0, 1, 2] rfl) (by rw [← e15, f_SR_noteAddress_15])
  refine lv_iload_n hx hb d_SR_noteAddress_0 rfl (lv_at hl 1 rfl) ?_
  refine lv_iconst (v := 1) hx hb d_SR_noteAddress_1 (by decide) ?_
  refine lv_icmp_eq (tgt := 15) hx hb d_SR_noteAddress_2 (by decide) (fun q2 => ?_) (fun q2 => ?_)
  · exact J15  _ _ _ w (lv_sub hl [0, 1, 2] rfl) (by rw [← e0, f_SR_noteAddress, if_pos q2])
  · refine lv_iload_n hx hb d_SR_noteAddress_5 rfl (lv_at hl 1 rfl) ?_
    refine lv_iconst (v := 2) hx hb d_SR_noteAddress_6 (by decide) ?_
    refine lv_icmp_eq (tgt := 15) hx hb d_SR_noteAddress_7 (by decide) (fun q7 => ?_) (fun q7 => ?_)
    · exact J15  _ _ _ w (lv_sub hl [0, 1, 2] rfl) (by rw [← e0, f_SR_noteAddress, if_neg q2, if_pos q7])
    · refine lv_iload_n hx hb d_SR_noteAddress_10 rfl (lv_at hl 1 rfl) ?_
      refine lv_iconst (v := 3) hx hb d_SR_noteAddress_11 (by decide) ?_
      refine lv_icmp_ne (tgt := 19) hx hb d_SR_noteAddress_12 (by decide) (fun q12 => ?_) (fun q12 => ?_)
      · refine lv_iconst (v := 0) hx hb d_SR_noteAddress_19 (by decide) ?_
        exact J20 false _ _ _ w (lv_sub hl [0, 1, 2] rfl) (by rw [← e0, f_SR_noteAddress, if_neg q2, if_neg q7, if_neg q12])
      · exact J15  _ _ _ w (lv_sub hl [0, 1, 2] rfl) (by rw [← e0, f_SR_noteAddress, if_neg q2, if_neg q7, if_pos q12])
-- SR_enterFault
def f_SR_enterFault_c5 (σ124 : XS) (a1 : Int32) (a2 : Int32) (a3 : Bool) (a4 : Int32) (v70_5 : Bool) : XS × Int32 := if (zb v70_5) = 0 then ((σ124, (-2147483264 : Int32))) else (if (zb (f_FA_isRefill σ124 a1)) = 0 then ((σ124, (-2147483264 : Int32))) else ((σ124, (-2147483648 : Int32))))
def f_SR_enterFault_c4 (z111 : XS) (a1 : Int32) (a2 : Int32) (a3 : Bool) (a4 : Int32) (v70_5 : Bool) : XS × Int32 := f_SR_enterFault_c5 (xs_values z111 (upd (x_values z111) (Int32.toNatClampNeg (12 : Int32)) ((x_values z111 (Int32.toNatClampNeg (12 : Int32))) ||| (2 : Int32)))) a1 a2 a3 a4 v70_5
def f_SR_enterFault_c3 (σ105 : XS) (a1 : Int32) (a2 : Int32) (a3 : Bool) (a4 : Int32) (u3_6 : Int32) (v70_5 : Bool) : XS × Int32 := f_SR_enterFault_c4 (f_SR_noteAddress σ105 u3_6 a4) a1 a2 a3 a4 v70_5
def f_SR_enterFault_70 (σ70 : XS) (a1 : Int32) (a2 : Int32) (a3 : Bool) (a4 : Int32) (v70_5 : Bool) : XS × Int32 := f_SR_enterFault_c3 (xs_values σ70 (upd (x_values σ70) (Int32.toNatClampNeg (13 : Int32)) ((((x_values σ70 (Int32.toNatClampNeg (13 : Int32))) &&& (-805306493 : Int32)) ||| ((f_FA_coprocessorOf σ70 a1) <<< ((28 : Int32) &&& 31))) ||| ((f_FA_codeOf σ70 a1) <<< ((2 : Int32) &&& 31))))) a1 a2 a3 a4 (f_FA_codeOf σ70 a1) v70_5
def f_SR_enterFault_c2 (σ69 : XS) (a1 : Int32) (a2 : Int32) (a3 : Bool) (a4 : Int32) (v68_5 : Bool) : XS × Int32 := f_SR_enterFault_70 σ69 a1 a2 a3 a4 v68_5
def f_SR_enterFault_68 (σ68 : XS) (a1 : Int32) (a2 : Int32) (a3 : Bool) (a4 : Int32) (v68_5 : Bool) (w68_2 : Int32) (w68_3 : Int32) : XS × Int32 := f_SR_enterFault_c2 (xs_values σ68 (upd (x_values σ68) (Int32.toNatClampNeg (13 : Int32)) (w68_2 ||| w68_3))) a1 a2 a3 a4 v68_5
def f_SR_enterFault_c1 (σ41 : XS) (a1 : Int32) (a2 : Int32) (a3 : Bool) (a4 : Int32) (v41_5 : Bool) : XS × Int32 := if (zb a3) = 0 then (f_SR_enterFault_68 σ41 a1 a2 a3 a4 v41_5 ((x_values σ41 (Int32.toNatClampNeg (13 : Int32))) &&& (2147483647 : Int32)) (0 : Int32)) else (f_SR_enterFault_68 σ41 a1 a2 a3 a4 v41_5 ((x_values σ41 (Int32.toNatClampNeg (13 : Int32))) &&& (2147483647 : Int32)) (-2147483648 : Int32))
def f_SR_enterFault_41 (σ : XS) (a1 : Int32) (a2 : Int32) (a3 : Bool) (a4 : Int32) (v41_5 : Bool) (w41_2 : Int32) : XS × Int32 := f_SR_enterFault_c1 (xs_values σ (upd (x_values σ) (Int32.toNatClampNeg (14 : Int32)) w41_2)) a1 a2 a3 a4 v41_5
def f_SR_enterFault_17 (σ : XS) (a1 : Int32) (a2 : Int32) (a3 : Bool) (a4 : Int32) (w17_0 : Bool) : XS × Int32 := if (zb w17_0) = 0 then (f_SR_enterFault_70 σ a1 a2 a3 a4 w17_0) else (if (zb a3) = 0 then (f_SR_enterFault_41 σ a1 a2 a3 a4 w17_0 a2) else (f_SR_enterFault_41 σ a1 a2 a3 a4 w17_0 (a2 - (4 : Int32))))
def f_SR_enterFault (σ : XS) (a1 : Int32) (a2 : Int32) (a3 : Bool) (a4 : Int32) : XS × Int32 := if ((x_values σ (Int32.toNatClampNeg (12 : Int32))) &&& (2 : Int32)) = 0 then (f_SR_enterFault_17 σ a1 a2 a3 a4 true) else (f_SR_enterFault_17 σ a1 a2 a3 a4 false)
theorem d_SR_enterFault_0 : decode b_SR_enterFault 0 = .ok (.aload_n 0, 1) := by decide +kernel
theorem d_SR_enterFault_1 : decode b_SR_enterFault 1 = .ok (.getfield 11, 3) := by decide +kernel
theorem d_SR_enterFault_4 : decode b_SR_enterFault 4 = .ok (.bipush 12, 2) := by decide +kernel
theorem d_SR_enterFault_6 : decode b_SR_enterFault 6 = .ok (.iaload, 1) := by decide +kernel
theorem d_SR_enterFault_7 : decode b_SR_enterFault 7 = .ok (.iconst 2, 1) := by decide +kernel
theorem d_SR_enterFault_8 : decode b_SR_enterFault 8 = .ok (.iand, 1) := by decide +kernel
theorem d_SR_enterFault_9 : decode b_SR_enterFault 9 = .ok (.ifCond .ne 7, 3) := by decide +kernel
theorem d_SR_enterFault_12 : decode b_SR_enterFault 12 = .ok (.iconst 1, 1) := by decide +kernel
theorem d_SR_enterFault_13 : decode b_SR_enterFault 13 = .ok (.goto 4, 3) := by decide +kernel
theorem d_SR_enterFault_16 : decode b_SR_enterFault 16 = .ok (.iconst 0, 1) := by decide +kernel
theorem d_SR_enterFault_17 : decode b_SR_enterFault 17 = .ok (.istore 5, 2) := by decide +kernel
theorem d_SR_enterFault_19 : decode b_SR_enterFault 19 = .ok (.iload 5, 2) := by decide +kernel
theorem d_SR_enterFault_21 : decode b_SR_enterFault 21 = .ok (.ifCond .eq 49, 3) := by decide +kernel
theorem d_SR_enterFault_24 : decode b_SR_enterFault 24 = .ok (.aload_n 0, 1) := by decide +kernel
theorem d_SR_enterFault_25 : decode b_SR_enterFault 25 = .ok (.getfield 11, 3) := by decide +kernel
theorem d_SR_enterFault_28 : decode b_SR_enterFault 28 = .ok (.bipush 14, 2) := by decide +kernel
theorem d_SR_enterFault_30 : decode b_SR_enterFault 30 = .ok (.iload_n 3, 1) := by decide +kernel
theorem d_SR_enterFault_31 : decode b_SR_enterFault 31 = .ok (.ifCond .eq 9, 3) := by decide +kernel
theorem d_SR_enterFault_34 : decode b_SR_enterFault 34 = .ok (.iload_n 2, 1) := by decide +kernel
theorem d_SR_enterFault_35 : decode b_SR_enterFault 35 = .ok (.iconst 4, 1) := by decide +kernel
theorem d_SR_enterFault_36 : decode b_SR_enterFault 36 = .ok (.isub, 1) := by decide +kernel
theorem d_SR_enterFault_37 : decode b_SR_enterFault 37 = .ok (.goto 4, 3) := by decide +kernel
theorem d_SR_enterFault_40 : decode b_SR_enterFault 40 = .ok (.iload_n 2, 1) := by decide +kernel
theorem d_SR_enterFault_41 : decode b_SR_enterFault 41 = .ok (.iastore, 1) := by decide +kernel
theorem d_SR_enterFault_42 : decode b_SR_enterFault 42 = .ok (.aload_n 0, 1) := by decide +kernel
theorem d_SR_enterFault_43 : decode b_SR_enterFault 43 = .ok (.getfield 11, 3) := by decide +kernel
theorem d_SR_enterFault_46 : decode b_SR_enterFault 46 = .ok (.bipush 13, 2) := by decide +kernel
theorem d_SR_enterFault_48 : decode b_SR_enterFault 48 = .ok (.aload_n 0, 1) := by decide +kernel
theorem d_SR_enterFault_49 : decode b_SR_enterFault 49 = .ok (.getfield 11, 3) := by decide +kernel
theorem d_SR_enterFault_52 : decode b_SR_enterFault 52 = .ok (.bipush 13, 2) := by decide +kernel
theorem d_SR_enterFault_54 : decode b_SR_enterFault 54 = .ok (.iaload, 1) := by decide +kernel
theorem d_SR_enterFault_55 : decode b_SR_enterFault 55 = .ok (.ldc 39, 2) := by decide +kernel
theorem d_SR_enterFault_57 : decode b_SR_enterFault 57 = .ok (.iand, 1) := by decide +kernel
theorem d_SR_enterFault_58 : decode b_SR_enterFault 58 = .ok (.iload_n 3, 1) := by decide +kernel
theorem d_SR_enterFault_59 : decode b_SR_enterFault 59 = .ok (.ifCond .eq 8, 3) := by decide +kernel
theorem d_SR_enterFault_62 : decode b_SR_enterFault 62 = .ok (.ldc 38, 2) := by decide +kernel
theorem d_SR_enterFault_64 : decode b_SR_enterFault 64 = .ok (.goto 4, 3) := by decide +kernel
theorem d_SR_enterFault_67 : decode b_SR_enterFault 67 = .ok (.iconst 0, 1) := by decide +kernel
theorem d_SR_enterFault_68 : decode b_SR_enterFault 68 = .ok (.ior, 1) := by decide +kernel
theorem d_SR_enterFault_69 : decode b_SR_enterFault 69 = .ok (.iastore, 1) := by decide +kernel
theorem d_SR_enterFault_70 : decode b_SR_enterFault 70 = .ok (.iload_n 1, 1) := by decide +kernel
theorem d_SR_enterFault_71 : decode b_SR_enterFault 71 = .ok (.invokestatic 40, 3) := by decide +kernel
theorem d_SR_enterFault_74 : decode b_SR_enterFault 74 = .ok (.istore 6, 2) := by decide +kernel
theorem d_SR_enterFault_76 : decode b_SR_enterFault 76 = .ok (.aload_n 0, 1) := by decide +kernel
theorem d_SR_enterFault_77 : decode b_SR_enterFault 77 = .ok (.getfield 11, 3) := by decide +kernel
theorem d_SR_enterFault_80 : decode b_SR_enterFault 80 = .ok (.bipush 13, 2) := by decide +kernel
theorem d_SR_enterFault_82 : decode b_SR_enterFault 82 = .ok (.aload_n 0, 1) := by decide +kernel
theorem d_SR_enterFault_83 : decode b_SR_enterFault 83 = .ok (.getfield 11, 3) := by decide +kernel
theorem d_SR_enterFault_86 : decode b_SR_enterFault 86 = .ok (.bipush 13, 2) := by decide +kernel
theorem d_SR_enterFault_88 : decode b_SR_enterFault 88 = .ok (.iaload, 1) := by decide +kernel
theorem d_SR_enterFault_89 : decode b_SR_enterFault 89 = .ok (.ldc 45, 2) := by decide +kernel
theorem d_SR_enterFault_91 : decode b_SR_enterFault 91 = .ok (.iand, 1) := by decide +kernel
theorem d_SR_enterFault_92 : decode b_SR_enterFault 92 = .ok (.iload_n 1, 1) := by decide +kernel
theorem d_SR_enterFault_93 : decode b_SR_enterFault 93 = .ok (.invokestatic 46, 3) := by decide +kernel
theorem d_SR_enterFault_96 : decode b_SR_enterFault 96 = .ok (.bipush 28, 2) := by decide +kernel
theorem d_SR_enterFault_98 : decode b_SR_enterFault 98 = .ok (.ishl, 1) := by decide +kernel
theorem d_SR_enterFault_99 : decode b_SR_enterFault 99 = .ok (.ior, 1) := by decide +kernel
theorem d_SR_enterFault_100 : decode b_SR_enterFault 100 = .ok (.iload 6, 2) := by decide +kernel
theorem d_SR_enterFault_102 : decode b_SR_enterFault 102 = .ok (.iconst 2, 1) := by decide +kernel
theorem d_SR_enterFault_103 : decode b_SR_enterFault 103 = .ok (.ishl, 1) := by decide +kernel
theorem d_SR_enterFault_104 : decode b_SR_enterFault 104 = .ok (.ior, 1) := by decide +kernel
theorem d_SR_enterFault_105 : decode b_SR_enterFault 105 = .ok (.iastore, 1) := by decide +kernel
theorem d_SR_enterFault_106 : decode b_SR_enterFault 106 = .ok (.aload_n 0, 1) := by decide +kernel
theorem d_SR_enterFault_107 : decode b_SR_enterFault 107 = .ok (.iload 6, 2) := by decide +kernel
theorem d_SR_enterFault_109 : decode b_SR_enterFault 109 = .ok (.iload 4, 2) := by decide +kernel
theorem d_SR_enterFault_111 : decode b_SR_enterFault 111 = .ok (.invokevirtual 49, 3) := by decide +kernel
theorem d_SR_enterFault_114 : decode b_SR_enterFault 114 = .ok (.aload_n 0, 1) := by decide +kernel
theorem d_SR_enterFault_115 : decode b_SR_enterFault 115 = .ok (.getfield 11, 3) := by decide +kernel
theorem d_SR_enterFault_118 : decode b_SR_enterFault 118 = .ok (.bipush 12, 2) := by decide +kernel
theorem d_SR_enterFault_120 : decode b_SR_enterFault 120 = .ok (.dup2, 1) := by decide +kernel
theorem d_SR_enterFault_121 : decode b_SR_enterFault 121 = .ok (.iaload, 1) := by decide +kernel
theorem d_SR_enterFault_122 : decode b_SR_enterFault 122 = .ok (.iconst 2, 1) := by decide +kernel
theorem d_SR_enterFault_123 : decode b_SR_enterFault 123 = .ok (.ior, 1) := by decide +kernel
theorem d_SR_enterFault_124 : decode b_SR_enterFault 124 = .ok (.iastore, 1) := by decide +kernel
theorem d_SR_enterFault_125 : decode b_SR_enterFault 125 = .ok (.iload 5, 2) := by decide +kernel
theorem d_SR_enterFault_127 : decode b_SR_enterFault 127 = .ok (.ifCond .eq 15, 3) := by decide +kernel
theorem d_SR_enterFault_130 : decode b_SR_enterFault 130 = .ok (.iload_n 1, 1) := by decide +kernel
theorem d_SR_enterFault_131 : decode b_SR_enterFault 131 = .ok (.invokestatic 53, 3) := by decide +kernel
theorem d_SR_enterFault_134 : decode b_SR_enterFault 134 = .ok (.ifCond .eq 8, 3) := by decide +kernel
theorem d_SR_enterFault_137 : decode b_SR_enterFault 137 = .ok (.ldc 38, 2) := by decide +kernel
theorem d_SR_enterFault_139 : decode b_SR_enterFault 139 = .ok (.goto 5, 3) := by decide +kernel
theorem d_SR_enterFault_142 : decode b_SR_enterFault 142 = .ok (.ldc 57, 2) := by decide +kernel
theorem d_SR_enterFault_144 : decode b_SR_enterFault 144 = .ok (.ireturn, 1) := by decide +kernel
set_option maxHeartbeats 4000000 in
set_option maxRecDepth 100000 in
theorem c_SR_enterFault (l : Launch) (E : Ev) (ad : Nat → Nat) (σ : XS) (a1 : Int32) (a2 : Int32) (a3 : Bool) (a4 : Int32) : rC xCl l E (xW E ad) y_SR_enterFault b_SR_enterFault 7 (Option.some Jvm.ClassFile.FieldType.int) (rmo 1 23) [.ref (ad 2), .int a1, .int a2, .int (zb a3), .int a4] σ (zI (f_SR_enterFault σ a1 a2 a3 a4)) := by
  refine rC.of (by decide) (Nat.le_of_ble_eq_true rfl) ?_
  intro p e s m below meth c A ls hc w hl
  generalize e0 : zI (f_SR_enterFault σ a1 a2 a3 a4) = Z
  have hc : Cx xCl E A p s m ([.ref (ad 2), .int a1, .int a2, .int (zb a3), .int a4] : List Value).toArray meth c b_SR_enterFault 7 (Option.some Jvm.ClassFile.FieldType.int) "PageMachine$SystemRegisters" := hc
  have hx := hc.1
  have hb := hc.2.1
  have ho := hc.2.2.2.2.2.1
  have hT := hc.2.2.2.2.2.2.1
  have hl : lv_has ls 7 [(0, .ref (ad 2)), (1, .int a1), (2, .int a2), (3, .int (zb a3)), (4, .int a4)] := hl
  have J70 : ∀ (σ70 : XS) (v70_5 : Bool) (H : Heap) (locs : List Loc) (ls : Array Slot), Wd xCl E A s.heap H locs (xW E ad σ70) → lv_has ls 7 [(5, .int (zb v70_5)), (0, .ref (ad 2)), (1, .int a1), (4, .int a4)] → zI (f_SR_enterFault_70 σ70 a1 a2 a3 a4 v70_5) = Z → W p l e (rmo 1 23) s m ([.ref (ad 2), .int a1, .int a2, .int (zb a3), .int a4] : List Value).toArray below meth c H locs 0 0 (MQ below (rQ xCl (xW E ad) E A Z) ([.ref (ad 2), .int a1, .int a2, .int (zb a3), .int a4] : List Value).toArray s 0 0 A) (F0 m 70 ls []) := by
    intro σ70 v70_5 H locs ls w hl e70
    refine lv_iload_n hx hb d_SR_enterFault_70 rfl (lv_at hl 2 rfl) ?_
    refine rSI (rest := []) hc w (c_FA_codeOf l E ad σ70 a1) ks_FA_codeOf mw_475 ⟨Nat.le_of_ble_eq_true rfl, Nat.le_of_ble_eq_true rfl⟩ hl.1 rfl (Nat.le_of_ble_eq_true rfl) ⟨Nat.zero_le _, Nat.zero_le _⟩ d_SR_enterFault_71 (fun H locs w => ?_)
    refine lv_istore (lv' := [(6, .int (f_FA_codeOf σ70 a1)), (5, .int (zb v70_5)), (0, .ref (ad 2)), (1, .int a1), (4, .int a4)]) hx hb d_SR_enterFault_74 hl (by decide) rfl (fun ls hl => ?_)
    refine lv_aload_n hx hb d_SR_enterFault_76 rfl (lv_at hl 2 rfl) ?_
    refine g_SR_values hc w mw_47 d_SR_enterFault_77 ?_
    refine lv_bipush (v := 13) hx hb d_SR_enterFault_80 (by decide) ?_
    refine lv_aload_n hx hb d_SR_enterFault_82 rfl (lv_at hl 2 rfl) ?_
    refine g_SR_values hc w mw_47 d_SR_enterFault_83 ?_
    refine lv_bipush (v := 13) hx hb d_SR_enterFault_86 (by decide) ?_
    refine a_SR_values hc w (by unfold vp_in; decide) d_SR_enterFault_88 ?_
    refine lv_ldc (v := -805306493) hx hb ho (hT _ mw_476) d_SR_enterFault_89 ?_
    refine lv_iand hx hb d_SR_enterFault_91 ?_
    refine lv_iload_n hx hb d_SR_enterFault_92 rfl (lv_at hl 3 rfl) ?_
    refine rSI (rest := [.int ((x_values σ70 (Int32.toNatClampNeg (13 : Int32))) &&& (-805306493 : Int32)), .int (13 : Int32), .ref (ad 12)]) hc w (c_FA_coprocessorOf l E ad σ70 a1) ks_FA_coprocessorOf mw_477 ⟨Nat.le_of_ble_eq_true rfl, Nat.le_of_ble_eq_true rfl⟩ hl.1 rfl (Nat.le_of_ble_eq_true rfl) ⟨Nat.zero_le _, Nat.zero_le _⟩ d_SR_enterFault_93 (fun H locs w => ?_)
    refine lv_bipush (v := 28) hx hb d_SR_enterFault_96 (by decide) ?_
    refine lv_ishl hx hb d_SR_enterFault_98 ?_
    refine lv_ior hx hb d_SR_enterFault_99 ?_
    refine lv_iload hx hb d_SR_enterFault_100 (lv_at hl 0 rfl) ?_
    refine lv_iconst (v := 2) hx hb d_SR_enterFault_102 (by decide) ?_
    refine lv_ishl hx hb d_SR_enterFault_103 ?_
    refine lv_ior hx hb d_SR_enterFault_104 ?_
    refine s_SR_values hc w (by unfold vp_in; decide) d_SR_enterFault_105 (fun σ105 H locs hs105 w => ?_)
    generalize hv_u3_6 : f_FA_codeOf σ70 a1 = u3_6 at hl ⊢
    have e_c3 : zI (f_SR_enterFault_c3 σ105 a1 a2 a3 a4 u3_6 v70_5) = Z := by rw [← e70, f_SR_enterFault_70, hs105, hv_u3_6]
    refine lv_aload_n hx hb d_SR_enterFault_106 rfl (lv_at hl 2 rfl) ?_
    refine lv_iload hx hb d_SR_enterFault_107 (lv_at hl 0 rfl) ?_
    refine lv_iload hx hb d_SR_enterFault_109 (lv_at hl 4 rfl) ?_
    refine cVV (rest := []) hc w (c_SR_noteAddress l E ad σ105 u3_6 a4) kv_SR_noteAddress mw_480 2 rfl rfl ⟨Nat.le_of_ble_eq_true rfl, Nat.le_of_ble_eq_true rfl⟩ hl.1 rfl (Nat.le_of_ble_eq_true rfl) ⟨Nat.zero_le _, Nat.zero_le _⟩ d_SR_enterFault_111 (fun z111 H locs hs111 w => ?_)
    have e_c4 : zI (f_SR_enterFault_c4 z111 a1 a2 a3 a4 v70_5) = Z := by rw [← e_c3, f_SR_enterFault_c3, hs111]
    refine lv_aload_n hx hb d_SR_enterFault_114 rfl (lv_at hl 2 rfl) ?_
    refine g_SR_values hc w mw_47 d_SR_enterFault_115 ?_
    refine lv_bipush (v := 12) hx hb d_SR_enterFault_118 (by decide) ?_
    refine lv_dup2_11 hx hb d_SR_enterFault_120 rfl rfl ?_
    refine a_SR_values hc w (by unfold vp_in; decide) d_SR_enterFault_121 ?_
    refine lv_iconst (v := 2) hx hb d_SR_enterFault_122 (by decide) ?_
    refine lv_ior hx hb d_SR_enterFault_123 ?_
    refine s_SR_values hc w (by unfold vp_in; decide) d_SR_enterFault_124 (fun σ124 H locs hs124 w => ?_)
    have e_c5 : zI (f_SR_enterFault_c5 σ124 a1 a2 a3 a4 v70_5) = Z := by rw [← e_c4, f_SR_enterFault_c4, hs124]
    refine lv_iload hx hb d_SR_enterFault_125 (lv_at hl 1 rfl) ?_
    refine lv_if_eq (tgt := 142) hx hb d_SR_enterFault_127 (by decide) (fun q127 => ?_) (fun q127 => ?_)
    · refine lv_ldc (v := -2147483264) hx hb ho (hT _ mw_487) d_SR_enterFault_142 ?_
      exact rt_i hc w d_SR_enterFault_144 (by rw [← e_c5, f_SR_enterFault_c5, if_pos q127] <;> rfl)
    · refine lv_iload_n hx hb d_SR_enterFault_130 rfl (lv_at hl 3 rfl) ?_
      refine rSZ (rest := []) hc w (c_FA_isRefill l E ad σ124 a1) ks_FA_isRefill mw_484 ⟨Nat.le_of_ble_eq_true rfl, Nat.le_of_ble_eq_true rfl⟩ hl.1 rfl (Nat.le_of_ble_eq_true rfl) ⟨Nat.zero_le _, Nat.zero_le _⟩ d_SR_enterFault_131 (fun H locs w => ?_)
      refine lv_if_eq (tgt := 142) hx hb d_SR_enterFault_134 (by decide) (fun q134 => ?_) (fun q134 => ?_)
      · refine lv_ldc (v := -2147483264) hx hb ho (hT _ mw_487) d_SR_enterFault_142 ?_
        exact rt_i hc w d_SR_enterFault_144 (by rw [← e_c5, f_SR_enterFault_c5, if_neg q127, if_pos q134] <;> rfl)
      · refine lv_ldc (v := -2147483648) hx hb ho (hT _ mw_474) d_SR_enterFault_137 ?_
        refine lv_goto (tgt := 144) hx hb d_SR_enterFault_139 (by decide) ?_
        exact rt_i hc w d_SR_enterFault_144 (by rw [← e_c5, f_SR_enterFault_c5, if_neg q127, if_neg q134] <;> rfl)
  have J68 : ∀ (σ68 : XS) (v68_5 : Bool) (w68_2 : Int32) (w68_3 : Int32) (H : Heap) (locs : List Loc) (ls : Array Slot), Wd xCl E A s.heap H locs (xW E ad σ68) → lv_has ls 7 [(5, .int (zb v68_5)), (0, .ref (ad 2)), (1, .int a1), (4, .int a4)] → zI (f_SR_enterFault_68 σ68 a1 a2 a3 a4 v68_5 w68_2 w68_3) = Z → W p l e (rmo 1 23) s m ([.ref (ad 2), .int a1, .int a2, .int (zb a3), .int a4] : List Value).toArray below meth c H locs 0 0 (MQ below (rQ xCl (xW E ad) E A Z) ([.ref (ad 2), .int a1, .int a2, .int (zb a3), .int a4] : List Value).toArray s 0 0 A) (F0 m 68 ls [.int w68_3, .int w68_2, .int (13 : Int32), .ref (ad 12)]) := by
    intro σ68 v68_5 w68_2 w68_3 H locs ls w hl e68
    refine lv_ior hx hb d_SR_enterFault_68 ?_
    refine s_SR_values hc w (by unfold vp_in; decide) d_SR_enterFault_69 (fun σ69 H locs hs69 w => ?_)
    have e_c2 : zI (f_SR_enterFault_c2 σ69 a1 a2 a3 a4 v68_5) = Z := by rw [← e68, f_SR_enterFault_68, hs69]
    exact J70 σ69 v68_5 _ _ _ w (lv_sub hl [0, 1, 2, 3] rfl) (by rw [← e_c2, f_SR_enterFault_c2])
  have J41 : ∀ (v41_5 : Bool) (w41_2 : Int32) (H : Heap) (locs : List Loc) (ls : Array Slot), Wd xCl E A s.heap H locs (xW E ad σ) → lv_has ls 7 [(5, .int (zb v41_5)), (0, .ref (ad 2)), (1, .int a1), (3, .int (zb a3)), (4, .int a4)] → zI (f_SR_enterFault_41 σ a1 a2 a3 a4 v41_5 w41_2) = Z → W p l e (rmo 1 23) s m ([.ref (ad 2), .int a1, .int a2, .int (zb a3), .int a4] : List Value).toArray below meth c H locs 0 0 (MQ below (rQ xCl (xW E ad) E A Z) ([.ref (ad 2), .int a1, .int a2, .int (zb a3), .int a4] : List Value).toArray s 0 0 A) (F0 m 41 ls [.int w41_2, .int (14 : Int32), .ref (ad 12)]) := by
    intro v41_5 w41_2 H locs ls w hl e41
    refine s_SR_values hc w (by unfold vp_in; decide) d_SR_enterFault_41 (fun σ41 H locs hs41 w => ?_)
    have e_c1 : zI (f_SR_enterFault_c1 σ41 a1 a2 a3 a4 v41_5) = Z := by rw [← e41, f_SR_enterFault_41, hs41]
    refine lv_aload_n hx hb d_SR_enterFault_42 rfl (lv_at hl 1 rfl) ?_
    refine g_SR_values hc w mw_47 d_SR_enterFault_43 ?_
    refine lv_bipush (v := 13) hx hb d_SR_enterFault_46 (by decide) ?_
    refine lv_aload_n hx hb d_SR_enterFault_48 rfl (lv_at hl 1 rfl) ?_
    refine g_SR_values hc w mw_47 d_SR_enterFault_49 ?_
    refine lv_bipush (v := 13) hx hb d_SR_enterFault_52 (by decide) ?_
    refine a_SR_values hc w (by unfold vp_in; decide) d_SR_enterFault_54 ?_
    refine lv_ldc (v := 2147483647) hx hb ho (hT _ mw_473) d_SR_enterFault_55 ?_
    refine lv_iand hx hb d_SR_enterFault_57 ?_
    refine lv_iload_n hx hb d_SR_enterFault_58 rfl (lv_at hl 3 rfl) ?_
    refine lv_if_eq (tgt := 67) hx hb d_SR_enterFault_59 (by decide) (fun q59 => ?_) (fun q59 => ?_)
    · refine lv_iconst (v := 0) hx hb d_SR_enterFault_67 (by decide) ?_
      exact J68 σ41 v41_5 ((x_values σ41 (Int32.toNatClampNeg (13 : Int32))) &&& (2147483647 : Int32)) (0 : Int32) _ _ _ w (lv_sub hl [0, 1, 2, 4] rfl) (by rw [← e_c1, f_SR_enterFault_c1, if_pos q59])
    · refine lv_ldc (v := -2147483648) hx hb ho (hT _ mw_474) d_SR_enterFault_62 ?_
      refine lv_goto (tgt := 68) hx hb d_SR_enterFault_64 (by decide) ?_
      exact J68 σ41 v41_5 ((x_values σ41 (Int32.toNatClampNeg (13 : Int32))) &&& (2147483647 : Int32)) (-2147483648 : Int32) _ _ _ w (lv_sub hl [0, 1, 2, 4] rfl) (by rw [← e_c1, f_SR_enterFault_c1, if_neg q59])
  have J17 : ∀ (w17_0 : Bool) (H : Heap) (locs : List Loc) (ls : Array Slot), Wd xCl E A s.heap H locs (xW E ad σ) → lv_has ls 7 [(0, .ref (ad 2)), (1, .int a1), (2, .int a2), (3, .int (zb a3)), (4, .int a4)] → zI (f_SR_enterFault_17 σ a1 a2 a3 a4 w17_0) = Z → W p l e (rmo 1 23) s m ([.ref (ad 2), .int a1, .int a2, .int (zb a3), .int a4] : List Value).toArray below meth c H locs 0 0 (MQ below (rQ xCl (xW E ad) E A Z) ([.ref (ad 2), .int a1, .int a2, .int (zb a3), .int a4] : List Value).toArray s 0 0 A) (F0 m 17 ls [.int (zb w17_0)]) := by
    intro w17_0 H locs ls w hl e17
    refine lv_istore (lv' := [(5, .int (zb w17_0)), (0, .ref (ad 2)), (1, .int a1), (2, .int a2), (3, .int (zb a3)), (4, .int a4)]) hx hb d_SR_enterFault_17 hl (by decide) rfl (fun ls hl => ?_)
    refine lv_iload hx hb d_SR_enterFault_19 (lv_at hl 0 rfl) ?_
    refine lv_if_eq (tgt := 70) hx hb d_SR_enterFault_21 (by decide) (fun q21 => ?_) (fun q21 => ?_)
    · exact J70 σ w17_0 _ _ _ w (lv_sub hl [0, 1, 2, 5] rfl) (by rw [← e17, f_SR_enterFault_17, if_pos q21])
    · refine lv_aload_n hx hb d_SR_enterFault_24 rfl (lv_at hl 1 rfl) ?_
      refine g_SR_values hc w mw_47 d_SR_enterFault_25 ?_
      refine lv_bipush (v := 14) hx hb d_SR_enterFault_28 (by decide) ?_
      refine lv_iload_n hx hb d_SR_enterFault_30 rfl (lv_at hl 4 rfl) ?_
      refine lv_if_eq (tgt := 40) hx hb d_SR_enterFault_31 (by decide) (fun q31 => ?_) (fun q31 => ?_)
      · refine lv_iload_n hx hb d_SR_enterFault_40 rfl (lv_at hl 3 rfl) ?_
        exact J41 w17_0 a2 _ _ _ w (lv_sub hl [0, 1, 2, 4, 5] rfl) (by rw [← e17, f_SR_enterFault_17, if_neg q21, if_pos q31])
      · refine lv_iload_n hx hb d_SR_enterFault_34 rfl (lv_at hl 3 rfl) ?_
        refine lv_iconst (v := 4) hx hb d_SR_enterFault_35 (by decide) ?_
        refine lv_isub hx hb d_SR_enterFault_36 ?_
        refine lv_goto (tgt := 41) hx hb d_SR_enterFault_37 (by decide) ?_
        exact J41 w17_0 (a2 - (4 : Int32)) _ _ _ w (lv_sub hl [0, 1, 2, 4, 5] rfl) (by rw [← e17, f_SR_enterFault_17, if_neg q21, if_neg q31])
  refine lv_aload_n hx hb d_SR_enterFault_0 rfl (lv_at hl 0 rfl) ?_
  refine g_SR_values hc w mw_47 d_SR_enterFault_1 ?_
  refine lv_bipush (v := 12) hx hb d_SR_enterFault_4 (by decide) ?_
  refine a_SR_values hc w (by unfold vp_in; decide) d_SR_enterFault_6 ?_
  refine lv_iconst (v := 2) hx hb d_SR_enterFault_7 (by decide) ?_
  refine lv_iand hx hb d_SR_enterFault_8 ?_
  refine lv_if_ne (tgt := 16) hx hb d_SR_enterFault_9 (by decide) (fun q9 => ?_) (fun q9 => ?_)
  · refine lv_iconst (v := 0) hx hb d_SR_enterFault_16 (by decide) ?_
    exact J17 false _ _ _ w (lv_sub hl [0, 1, 2, 3, 4] rfl) (by rw [← e0, f_SR_enterFault, if_neg q9])
  · refine lv_iconst (v := 1) hx hb d_SR_enterFault_12 (by decide) ?_
    refine lv_goto (tgt := 17) hx hb d_SR_enterFault_13 (by decide) ?_
    exact J17 true _ _ _ w (lv_sub hl [0, 1, 2, 3, 4] rfl) (by rw [← e0, f_SR_enterFault, if_pos q9])
end
section
-- AS_lastAsked
def f_AS_lastAsked (σ : XS) : Int32 := x_asked σ
theorem d_AS_lastAsked_0 : decode b_AS_lastAsked 0 = .ok (.aload_n 0, 1) := by decide +kernel
theorem d_AS_lastAsked_1 : decode b_AS_lastAsked 1 = .ok (.getfield 23, 3) := by decide +kernel
theorem d_AS_lastAsked_4 : decode b_AS_lastAsked 4 = .ok (.ireturn, 1) := by decide +kernel
set_option maxHeartbeats 4000000 in
set_option maxRecDepth 100000 in
theorem c_AS_lastAsked (l : Launch) (E : Ev) (ad : Nat → Nat) (σ : XS) : rC xCl l E (xW E ad) y_AS_lastAsked b_AS_lastAsked 1 (Option.some Jvm.ClassFile.FieldType.int) (rmo 0 0) [.ref (ad 4)] σ ((σ, some (Value.int (f_AS_lastAsked σ)))) := by
  refine rC.of (by decide) (Nat.le_of_ble_eq_true rfl) ?_
  intro p e s m below meth c A ls hc w hl
  generalize e0 : (σ, some (Value.int (f_AS_lastAsked σ))) = Z
  have hc : Cx xCl E A p s m ([.ref (ad 4)] : List Value).toArray meth c b_AS_lastAsked 1 (Option.some Jvm.ClassFile.FieldType.int) "PageMachine$AddressSpace" := hc
  have hx := hc.1
  have hb := hc.2.1
  have ho := hc.2.2.2.2.2.1
  have hT := hc.2.2.2.2.2.2.1
  have hl : lv_has ls 1 [(0, .ref (ad 4))] := hl
  refine lv_aload_n hx hb d_AS_lastAsked_0 rfl (lv_at hl 0 rfl) ?_
  refine g_AS_asked hc w mw_88 d_AS_lastAsked_1 ?_
  exact rt_i hc w d_AS_lastAsked_4 (by rw [← e0, f_AS_lastAsked] <;> rfl)
-- AS_faultIn
def f_AS_faultIn (σ : XS) (a1 : Int64) : Int32 := Int64.toInt32 ((-1 : Int64) - a1)
theorem d_AS_faultIn_0 : decode b_AS_faultIn 0 = .ok (.ldc2_w 27, 3) := by decide +kernel
theorem d_AS_faultIn_3 : decode b_AS_faultIn 3 = .ok (.lload_n 0, 1) := by decide +kernel
theorem d_AS_faultIn_4 : decode b_AS_faultIn 4 = .ok (.lsub, 1) := by decide +kernel
theorem d_AS_faultIn_5 : decode b_AS_faultIn 5 = .ok (.l2i, 1) := by decide +kernel
theorem d_AS_faultIn_6 : decode b_AS_faultIn 6 = .ok (.ireturn, 1) := by decide +kernel
set_option maxHeartbeats 4000000 in
set_option maxRecDepth 100000 in
theorem c_AS_faultIn (l : Launch) (E : Ev) (ad : Nat → Nat) (σ : XS) (a1 : Int64) : rC xCl l E (xW E ad) y_AS_faultIn b_AS_faultIn 2 (Option.some Jvm.ClassFile.FieldType.int) (rmo 0 0) [.long a1] σ ((σ, some (Value.int (f_AS_faultIn σ a1)))) := by
  refine rC.of (by decide) (Nat.le_of_ble_eq_true rfl) ?_
  intro p e s m below meth c A ls hc w hl
  generalize e0 : (σ, some (Value.int (f_AS_faultIn σ a1))) = Z
  have hc : Cx xCl E A p s m ([.long a1] : List Value).toArray meth c b_AS_faultIn 2 (Option.some Jvm.ClassFile.FieldType.int) "PageMachine$AddressSpace" := hc
  have hx := hc.1
  have hb := hc.2.1
  have ho := hc.2.2.2.2.2.1
  have hT := hc.2.2.2.2.2.2.1
  have hl : lv_has ls 2 [(0, .long a1)] := hl
  refine lv_ldc2 (v := -1) hx hb ho (hT _ mw_526) d_AS_faultIn_0 ?_
  refine lv_lload_n hx hb d_AS_faultIn_3 rfl (lv_at hl 0 rfl) ?_
  refine lv_lsub hx hb d_AS_faultIn_4 ?_
  refine lv_l2i hx hb d_AS_faultIn_5 rfl ?_
  exact rt_i hc w d_AS_faultIn_6 (by rw [← e0, f_AS_faultIn] <;> rfl)
-- AS_faulty
def f_AS_faulty (σ : XS) (a1 : Int32) : Int64 := Int32.toInt64 ((-1 : Int32) - a1)
theorem d_AS_faulty_0 : decode b_AS_faulty 0 = .ok (.iconst (-1), 1) := by decide +kernel
theorem d_AS_faulty_1 : decode b_AS_faulty 1 = .ok (.iload_n 0, 1) := by decide +kernel
theorem d_AS_faulty_2 : decode b_AS_faulty 2 = .ok (.isub, 1) := by decide +kernel
theorem d_AS_faulty_3 : decode b_AS_faulty 3 = .ok (.i2l, 1) := by decide +kernel
theorem d_AS_faulty_4 : decode b_AS_faulty 4 = .ok (.lreturn, 1) := by decide +kernel
set_option maxHeartbeats 4000000 in
set_option maxRecDepth 100000 in
theorem c_AS_faulty (l : Launch) (E : Ev) (ad : Nat → Nat) (σ : XS) (a1 : Int32) : rC xCl l E (xW E ad) y_AS_faulty b_AS_faulty 1 (Option.some Jvm.ClassFile.FieldType.long) (rmo 0 0) [.int a1] σ ((σ, some (Value.long (f_AS_faulty σ a1)))) := by
  refine rC.of (by decide) (Nat.le_of_ble_eq_true rfl) ?_
  intro p e s m below meth c A ls hc w hl
  generalize e0 : (σ, some (Value.long (f_AS_faulty σ a1))) = Z
  have hc : Cx xCl E A p s m ([.int a1] : List Value).toArray meth c b_AS_faulty 1 (Option.some Jvm.ClassFile.FieldType.long) "PageMachine$AddressSpace" := hc
  have hx := hc.1
  have hb := hc.2.1
  have ho := hc.2.2.2.2.2.1
  have hT := hc.2.2.2.2.2.2.1
  have hl : lv_has ls 1 [(0, .int a1)] := hl
  refine lv_iconst (v := -1) hx hb d_AS_faulty_0 (by decide) ?_
  refine lv_iload_n hx hb d_AS_faulty_1 rfl (lv_at hl 0 rfl) ?_
  refine lv_isub hx hb d_AS_faulty_2 ?_
  refine lv_i2l hx hb d_AS_faulty_3 rfl ?_
  exact rt_l hc w d_AS_faulty_4 (by rw [← e0, f_AS_faulty] <;> rfl)
-- AS_locateMapped
def f_AS_locateMapped_90 (σ : XS) (a1 : Int32) (a2 : Int32) (v90_5 : Int32) : Int64 := ((Int32.toInt64 ((Int32.toUInt32 v90_5 >>> (Int32.toUInt32 (6 : Int32) &&& Int32.toUInt32 31)).toInt32)) <<< (Int32.toInt64 (12 : Int32) &&& 63)) ||| (Int32.toInt64 (a1 &&& (4095 : Int32)))
def f_AS_locateMapped_10 (σ : XS) (a1 : Int32) (a2 : Int32) (w10_0 : Int32) : Int64 := if (f_TL_match σ a1 (f_SR_read σ (10 : Int32))) = (-1 : Int32) then (f_AS_faulty σ (w10_0 + (16 : Int32))) else (if ((f_TL_halfOf σ (f_TL_match σ a1 (f_SR_read σ (10 : Int32))) (((Int32.toUInt32 a1 >>> (Int32.toUInt32 (12 : Int32) &&& Int32.toUInt32 31)).toInt32) &&& (1 : Int32))) &&& (2 : Int32)) = 0 then (f_AS_faulty σ w10_0) else (if a2 = (1 : Int32) then (if ((f_TL_halfOf σ (f_TL_match σ a1 (f_SR_read σ (10 : Int32))) (((Int32.toUInt32 a1 >>> (Int32.toUInt32 (12 : Int32) &&& Int32.toUInt32 31)).toInt32) &&& (1 : Int32))) &&& (4 : Int32)) = 0 then (f_AS_faulty σ (1 : Int32)) else (f_AS_locateMapped_90 σ a1 a2 (f_TL_halfOf σ (f_TL_match σ a1 (f_SR_read σ (10 : Int32))) (((Int32.toUInt32 a1 >>> (Int32.toUInt32 (12 : Int32) &&& Int32.toUInt32 31)).toInt32) &&& (1 : Int32))))) else (f_AS_locateMapped_90 σ a1 a2 (f_TL_halfOf σ (f_TL_match σ a1 (f_SR_read σ (10 : Int32))) (((Int32.toUInt32 a1 >>> (Int32.toUInt32 (12 : Int32) &&& Int32.toUInt32 31)).toInt32) &&& (1 : Int32))))))
def f_AS_locateMapped (σ : XS) (a1 : Int32) (a2 : Int32) : Int64 := if a2 = (1 : Int32) then (f_AS_locateMapped_10 σ a1 a2 (3 : Int32)) else (f_AS_locateMapped_10 σ a1 a2 (2 : Int32))
theorem d_AS_locateMapped_0 : decode b_AS_locateMapped 0 = .ok (.iload_n 2, 1) := by decide +kernel
theorem d_AS_locateMapped_1 : decode b_AS_locateMapped 1 = .ok (.iconst 1, 1) := by decide +kernel
theorem d_AS_locateMapped_2 : decode b_AS_locateMapped 2 = .ok (.if_icmp .ne 7, 3) := by decide +kernel
theorem d_AS_locateMapped_5 : decode b_AS_locateMapped 5 = .ok (.iconst 3, 1) := by decide +kernel
theorem d_AS_locateMapped_6 : decode b_AS_locateMapped 6 = .ok (.goto 4, 3) := by decide +kernel
theorem d_AS_locateMapped_9 : decode b_AS_locateMapped 9 = .ok (.iconst 2, 1) := by decide +kernel
theorem d_AS_locateMapped_10 : decode b_AS_locateMapped 10 = .ok (.istore_n 3, 1) := by decide +kernel
theorem d_AS_locateMapped_11 : decode b_AS_locateMapped 11 = .ok (.aload_n 0, 1) := by decide +kernel
theorem d_AS_locateMapped_12 : decode b_AS_locateMapped 12 = .ok (.getfield 19, 3) := by decide +kernel
theorem d_AS_locateMapped_15 : decode b_AS_locateMapped 15 = .ok (.iload_n 1, 1) := by decide +kernel
theorem d_AS_locateMapped_16 : decode b_AS_locateMapped 16 = .ok (.aload_n 0, 1) := by decide +kernel
theorem d_AS_locateMapped_17 : decode b_AS_locateMapped 17 = .ok (.getfield 15, 3) := by decide +kernel
theorem d_AS_locateMapped_20 : decode b_AS_locateMapped 20 = .ok (.bipush 10, 2) := by decide +kernel
theorem d_AS_locateMapped_22 : decode b_AS_locateMapped 22 = .ok (.invokevirtual 55, 3) := by decide +kernel
theorem d_AS_locateMapped_25 : decode b_AS_locateMapped 25 = .ok (.invokevirtual 59, 3) := by decide +kernel
theorem d_AS_locateMapped_28 : decode b_AS_locateMapped 28 = .ok (.istore 4, 2) := by decide +kernel
theorem d_AS_locateMapped_30 : decode b_AS_locateMapped 30 = .ok (.iload 4, 2) := by decide +kernel
theorem d_AS_locateMapped_32 : decode b_AS_locateMapped 32 = .ok (.iconst (-1), 1) := by decide +kernel
theorem d_AS_locateMapped_33 : decode b_AS_locateMapped 33 = .ok (.if_icmp .ne 11, 3) := by decide +kernel
theorem d_AS_locateMapped_36 : decode b_AS_locateMapped 36 = .ok (.iload_n 3, 1) := by decide +kernel
theorem d_AS_locateMapped_37 : decode b_AS_locateMapped 37 = .ok (.bipush 16, 2) := by decide +kernel
theorem d_AS_locateMapped_39 : decode b_AS_locateMapped 39 = .ok (.iadd, 1) := by decide +kernel
theorem d_AS_locateMapped_40 : decode b_AS_locateMapped 40 = .ok (.invokestatic 31, 3) := by decide +kernel
theorem d_AS_locateMapped_43 : decode b_AS_locateMapped 43 = .ok (.lreturn, 1) := by decide +kernel
theorem d_AS_locateMapped_44 : decode b_AS_locateMapped 44 = .ok (.aload_n 0, 1) := by decide +kernel
theorem d_AS_locateMapped_45 : decode b_AS_locateMapped 45 = .ok (.getfield 19, 3) := by decide +kernel
theorem d_AS_locateMapped_48 : decode b_AS_locateMapped 48 = .ok (.iload 4, 2) := by decide +kernel
theorem d_AS_locateMapped_50 : decode b_AS_locateMapped 50 = .ok (.iload_n 1, 1) := by decide +kernel
theorem d_AS_locateMapped_51 : decode b_AS_locateMapped 51 = .ok (.bipush 12, 2) := by decide +kernel
theorem d_AS_locateMapped_53 : decode b_AS_locateMapped 53 = .ok (.iushr, 1) := by decide +kernel
theorem d_AS_locateMapped_54 : decode b_AS_locateMapped 54 = .ok (.iconst 1, 1) := by decide +kernel
theorem d_AS_locateMapped_55 : decode b_AS_locateMapped 55 = .ok (.iand, 1) := by decide +kernel
theorem d_AS_locateMapped_56 : decode b_AS_locateMapped 56 = .ok (.invokevirtual 65, 3) := by decide +kernel
theorem d_AS_locateMapped_59 : decode b_AS_locateMapped 59 = .ok (.istore 5, 2) := by decide +kernel
theorem d_AS_locateMapped_61 : decode b_AS_locateMapped 61 = .ok (.iload 5, 2) := by decide +kernel
theorem d_AS_locateMapped_63 : decode b_AS_locateMapped 63 = .ok (.iconst 2, 1) := by decide +kernel
theorem d_AS_locateMapped_64 : decode b_AS_locateMapped 64 = .ok (.iand, 1) := by decide +kernel
theorem d_AS_locateMapped_65 : decode b_AS_locateMapped 65 = .ok (.ifCond .ne 8, 3) := by decide +kernel
theorem d_AS_locateMapped_68 : decode b_AS_locateMapped 68 = .ok (.iload_n 3, 1) := by decide +kernel
theorem d_AS_locateMapped_69 : decode b_AS_locateMapped 69 = .ok (.invokestatic 31, 3) := by decide +kernel
theorem d_AS_locateMapped_72 : decode b_AS_locateMapped 72 = .ok (.lreturn, 1) := by decide +kernel
theorem d_AS_locateMapped_73 : decode b_AS_locateMapped 73 = .ok (.iload_n 2, 1) := by decide +kernel
theorem d_AS_locateMapped_74 : decode b_AS_locateMapped 74 = .ok (.iconst 1, 1) := by decide +kernel
theorem d_AS_locateMapped_75 : decode b_AS_locateMapped 75 = .ok (.if_icmp .ne 15, 3) := by decide +kernel
theorem d_AS_locateMapped_78 : decode b_AS_locateMapped 78 = .ok (.iload 5, 2) := by decide +kernel
theorem d_AS_locateMapped_80 : decode b_AS_locateMapped 80 = .ok (.iconst 4, 1) := by decide +kernel
theorem d_AS_locateMapped_81 : decode b_AS_locateMapped 81 = .ok (.iand, 1) := by decide +kernel
theorem d_AS_locateMapped_82 : decode b_AS_locateMapped 82 = .ok (.ifCond .ne 8, 3) := by decide +kernel
theorem d_AS_locateMapped_85 : decode b_AS_locateMapped 85 = .ok (.iconst 1, 1) := by decide +kernel
theorem d_AS_locateMapped_86 : decode b_AS_locateMapped 86 = .ok (.invokestatic 31, 3) := by decide +kernel
theorem d_AS_locateMapped_89 : decode b_AS_locateMapped 89 = .ok (.lreturn, 1) := by decide +kernel
theorem d_AS_locateMapped_90 : decode b_AS_locateMapped 90 = .ok (.iload 5, 2) := by decide +kernel
theorem d_AS_locateMapped_92 : decode b_AS_locateMapped 92 = .ok (.bipush 6, 2) := by decide +kernel
theorem d_AS_locateMapped_94 : decode b_AS_locateMapped 94 = .ok (.iushr, 1) := by decide +kernel
theorem d_AS_locateMapped_95 : decode b_AS_locateMapped 95 = .ok (.i2l, 1) := by decide +kernel
theorem d_AS_locateMapped_96 : decode b_AS_locateMapped 96 = .ok (.bipush 12, 2) := by decide +kernel
theorem d_AS_locateMapped_98 : decode b_AS_locateMapped 98 = .ok (.lshl, 1) := by decide +kernel
theorem d_AS_locateMapped_99 : decode b_AS_locateMapped 99 = .ok (.iload_n 1, 1) := by decide +kernel
theorem d_AS_locateMapped_100 : decode b_AS_locateMapped 100 = .ok (.sipush 4095, 3) := by decide +kernel
theorem d_AS_locateMapped_103 : decode b_AS_locateMapped 103 = .ok (.iand, 1) := by decide +kernel
theorem d_AS_locateMapped_104 : decode b_AS_locateMapped 104 = .ok (.i2l, 1) := by decide +kernel
theorem d_AS_locateMapped_105 : decode b_AS_locateMapped 105 = .ok (.lor, 1) := by decide +kernel
theorem d_AS_locateMapped_106 : decode b_AS_locateMapped 106 = .ok (.lreturn, 1) := by decide +kernel
set_option maxHeartbeats 4000000 in
set_option maxRecDepth 100000 in
theorem c_AS_locateMapped (l : Launch) (E : Ev) (ad : Nat → Nat) (σ : XS) (a1 : Int32) (a2 : Int32) : rC xCl l E (xW E ad) y_AS_locateMapped b_AS_locateMapped 6 (Option.some Jvm.ClassFile.FieldType.long) (rmo 1 25) [.ref (ad 4), .int a1, .int a2] σ ((σ, some (Value.long (f_AS_locateMapped σ a1 a2)))) := by
  refine rC.of (by decide) (Nat.le_of_ble_eq_true rfl) ?_
  intro p e s m below meth c A ls hc w hl
  generalize e0 : (σ, some (Value.long (f_AS_locateMapped σ a1 a2))) = Z
  have hc : Cx xCl E A p s m ([.ref (ad 4), .int a1, .int a2] : List Value).toArray meth c b_AS_locateMapped 6 (Option.some Jvm.ClassFile.FieldType.long) "PageMachine$AddressSpace" := hc
  have hx := hc.1
  have hb := hc.2.1
  have ho := hc.2.2.2.2.2.1
  have hT := hc.2.2.2.2.2.2.1
  have hl : lv_has ls 6 [(0, .ref (ad 4)), (1, .int a1), (2, .int a2)] := hl
  have J90 : ∀ (v90_5 : Int32) (H : Heap) (locs : List Loc) (ls : Array Slot), Wd xCl E A s.heap H locs (xW E ad σ) → lv_has ls 6 [(5, .int v90_5), (1, .int a1)] → (σ, some (Value.long (f_AS_locateMapped_90 σ a1 a2 v90_5))) = Z → W p l e (rmo 1 25) s m ([.ref (ad 4), .int a1, .int a2] : List Value).toArray below meth c H locs 0 0 (MQ below (rQ xCl (xW E ad) E A Z) ([.ref (ad 4), .int a1, .int a2] : List Value).toArray s 0 0 A) (F0 m 90 ls []) := by
    intro v90_5 H locs ls w hl e90
    refine lv_iload hx hb d_AS_locateMapped_90 (lv_at hl 0 rfl) ?_
    refine lv_bipush (v := 6) hx hb d_AS_locateMapped_92 (by decide) ?_
    refine lv_iushr hx hb d_AS_locateMapped_94 rfl ?_
    refine lv_i2l hx hb d_AS_locateMapped_95 rfl ?_
    refine lv_bipush (v := 12) hx hb d_AS_locateMapped_96 (by decide) ?_
    refine lv_lshl hx hb d_AS_locateMapped_98 rfl ?_
    refine lv_iload_n hx hb d_AS_locateMapped_99 rfl (lv_at hl 1 rfl) ?_
    refine lv_sipush (v := 4095) hx hb d_AS_locateMapped_100 (by decide) ?_
    refine lv_iand hx hb d_AS_locateMapped_103 ?_
    refine lv_i2l hx hb d_AS_locateMapped_104 rfl ?_
    refine lv_lor hx hb d_AS_locateMapped_105 ?_
    exact rt_l hc w d_AS_locateMapped_106 (by rw [← e90, f_AS_locateMapped_90] <;> rfl)
  have J10 : ∀ (w10_0 : Int32) (H : Heap) (locs : List Loc) (ls : Array Slot), Wd xCl E A s.heap H locs (xW E ad σ) → lv_has ls 6 [(0, .ref (ad 4)), (1, .int a1), (2, .int a2)] → (σ, some (Value.long (f_AS_locateMapped_10 σ a1 a2 w10_0))) = Z → W p l e (rmo 1 25) s m ([.ref (ad 4), .int a1, .int a2] : List Value).toArray below meth c H locs 0 0 (MQ below (rQ xCl (xW E ad) E A Z) ([.ref (ad 4), .int a1, .int a2] : List Value).toArray s 0 0 A) (F0 m 10 ls [.int w10_0]) := by
    intro w10_0 H locs ls w hl e10
    refine lv_istore_n (lv' := [(3, .int w10_0), (0, .ref (ad 4)), (1, .int a1), (2, .int a2)]) hx hb d_AS_locateMapped_10 rfl hl (by decide) rfl (fun ls hl => ?_)
    refine lv_aload_n hx hb d_AS_locateMapped_11 rfl (lv_at hl 1 rfl) ?_
    refine g_AS_tlb hc w mw_87 d_AS_locateMapped_12 ?_
    refine lv_iload_n hx hb d_AS_locateMapped_15 rfl (lv_at hl 2 rfl) ?_
    refine lv_aload_n hx hb d_AS_locateMapped_16 rfl (lv_at hl 1 rfl) ?_
    refine g_AS_system hc w mw_86 d_AS_locateMapped_17 ?_
    refine lv_bipush (v := 10) hx hb d_AS_locateMapped_20 (by decide) ?_
    refine rVI (rest := [.int a1, .ref (ad 3)]) hc w (c_SR_read l E ad σ (10 : Int32)) kv_SR_read mw_513 2 rfl rfl ⟨Nat.le_of_ble_eq_true rfl, Nat.le_of_ble_eq_true rfl⟩ hl.1 rfl (Nat.le_of_ble_eq_true rfl) ⟨Nat.zero_le _, Nat.zero_le _⟩ d_AS_locateMapped_22 (fun H locs w => ?_)
    refine rVI (rest := []) hc w (c_TL_match l E ad σ a1 (f_SR_read σ (10 : Int32))) kv_TL_match mw_514 3 rfl rfl ⟨Nat.le_of_ble_eq_true rfl, Nat.le_of_ble_eq_true rfl⟩ hl.1 rfl (Nat.le_of_ble_eq_true rfl) ⟨Nat.zero_le _, Nat.zero_le _⟩ d_AS_locateMapped_25 (fun H locs w => ?_)
    refine lv_istore (lv' := [(4, .int (f_TL_match σ a1 (f_SR_read σ (10 : Int32)))), (3, .int w10_0), (0, .ref (ad 4)), (1, .int a1), (2, .int a2)]) hx hb d_AS_locateMapped_28 hl (by decide) rfl (fun ls hl => ?_)
    refine lv_iload hx hb d_AS_locateMapped_30 (lv_at hl 0 rfl) ?_
    refine lv_iconst (v := -1) hx hb d_AS_locateMapped_32 (by decide) ?_
    refine lv_icmp_ne (tgt := 44) hx hb d_AS_locateMapped_33 (by decide) (fun q33 => ?_) (fun q33 => ?_)
    · refine lv_aload_n hx hb d_AS_locateMapped_44 rfl (lv_at hl 2 rfl) ?_
      refine g_AS_tlb hc w mw_87 d_AS_locateMapped_45 ?_
      refine lv_iload hx hb d_AS_locateMapped_48 (lv_at hl 0 rfl) ?_
      refine lv_iload_n hx hb d_AS_locateMapped_50 rfl (lv_at hl 3 rfl) ?_
      refine lv_bipush (v := 12) hx hb d_AS_locateMapped_51 (by decide) ?_
      refine lv_iushr hx hb d_AS_locateMapped_53 rfl ?_
      refine lv_iconst (v := 1) hx hb d_AS_locateMapped_54 (by decide) ?_
      refine lv_iand hx hb d_AS_locateMapped_55 ?_
      refine rVI (rest := []) hc w (c_TL_halfOf l E ad σ (f_TL_match σ a1 (f_SR_read σ (10 : Int32))) (((Int32.toUInt32 a1 >>> (Int32.toUInt32 (12 : Int32) &&& Int32.toUInt32 31)).toInt32) &&& (1 : Int32))) kv_TL_halfOf mw_518 3 rfl rfl ⟨Nat.le_of_ble_eq_true rfl, Nat.le_of_ble_eq_true rfl⟩ hl.1 rfl (Nat.le_of_ble_eq_true rfl) ⟨Nat.zero_le _, Nat.zero_le _⟩ d_AS_locateMapped_56 (fun H locs w => ?_)
      refine lv_istore (lv' := [(5, .int (f_TL_halfOf σ (f_TL_match σ a1 (f_SR_read σ (10 : Int32))) (((Int32.toUInt32 a1 >>> (Int32.toUInt32 (12 : Int32) &&& Int32.toUInt32 31)).toInt32) &&& (1 : Int32)))), (4, .int (f_TL_match σ a1 (f_SR_read σ (10 : Int32)))), (3, .int w10_0), (0, .ref (ad 4)), (1, .int a1), (2, .int a2)]) hx hb d_AS_locateMapped_59 hl (by decide) rfl (fun ls hl => ?_)
      refine lv_iload hx hb d_AS_locateMapped_61 (lv_at hl 0 rfl) ?_
      refine lv_iconst (v := 2) hx hb d_AS_locateMapped_63 (by decide) ?_
      refine lv_iand hx hb d_AS_locateMapped_64 ?_
      refine lv_if_ne (tgt := 73) hx hb d_AS_locateMapped_65 (by decide) (fun q65 => ?_) (fun q65 => ?_)
      · refine lv_iload_n hx hb d_AS_locateMapped_73 rfl (lv_at hl 5 rfl) ?_
        refine lv_iconst (v := 1) hx hb d_AS_locateMapped_74 (by decide) ?_
        refine lv_icmp_ne (tgt := 90) hx hb d_AS_locateMapped_75 (by decide) (fun q75 => ?_) (fun q75 => ?_)
        · exact J90 (f_TL_halfOf σ (f_TL_match σ a1 (f_SR_read σ (10 : Int32))) (((Int32.toUInt32 a1 >>> (Int32.toUInt32 (12 : Int32) &&& Int32.toUInt32 31)).toInt32) &&& (1 : Int32))) _ _ _ w (lv_sub hl [0, 4] rfl) (by rw [← e10, f_AS_locateMapped_10, if_neg q33, if_neg q65, if_neg q75])
        · refine lv_iload hx hb d_AS_locateMapped_78 (lv_at hl 0 rfl) ?_
          refine lv_iconst (v := 4) hx hb d_AS_locateMapped_80 (by decide) ?_
          refine lv_iand hx hb d_AS_locateMapped_81 ?_
          refine lv_if_ne (tgt := 90) hx hb d_AS_locateMapped_82 (by decide) (fun q82 => ?_) (fun q82 => ?_)
          · exact J90 (f_TL_halfOf σ (f_TL_match σ a1 (f_SR_read σ (10 : Int32))) (((Int32.toUInt32 a1 >>> (Int32.toUInt32 (12 : Int32) &&& Int32.toUInt32 31)).toInt32) &&& (1 : Int32))) _ _ _ w (lv_sub hl [0, 4] rfl) (by rw [← e10, f_AS_locateMapped_10, if_neg q33, if_neg q65, if_pos q75, if_neg q82])
          · refine lv_iconst (v := 1) hx hb d_AS_locateMapped_85 (by decide) ?_
            refine rSL (rest := []) hc w (c_AS_faulty l E ad σ (1 : Int32)) ks_AS_faulty mw_497 ⟨Nat.le_of_ble_eq_true rfl, Nat.le_of_ble_eq_true rfl⟩ hl.1 rfl (Nat.le_of_ble_eq_true rfl) ⟨Nat.zero_le _, Nat.zero_le _⟩ d_AS_locateMapped_86 (fun H locs w => ?_)
            exact rt_l hc w d_AS_locateMapped_89 (by rw [← e10, f_AS_locateMapped_10, if_neg q33, if_neg q65, if_pos q75, if_pos q82] <;> rfl)
      · refine lv_iload_n hx hb d_AS_locateMapped_68 rfl (lv_at hl 2 rfl) ?_
        refine rSL (rest := []) hc w (c_AS_faulty l E ad σ w10_0) ks_AS_faulty mw_497 ⟨Nat.le_of_ble_eq_true rfl, Nat.le_of_ble_eq_true rfl⟩ hl.1 rfl (Nat.le_of_ble_eq_true rfl) ⟨Nat.zero_le _, Nat.zero_le _⟩ d_AS_locateMapped_69 (fun H locs w => ?_)
        exact rt_l hc w d_AS_locateMapped_72 (by rw [← e10, f_AS_locateMapped_10, if_neg q33, if_pos q65] <;> rfl)
    · refine lv_iload_n hx hb d_AS_locateMapped_36 rfl (lv_at hl 1 rfl) ?_
      refine lv_bipush (v := 16) hx hb d_AS_locateMapped_37 (by decide) ?_
      refine lv_iadd hx hb d_AS_locateMapped_39 ?_
      refine rSL (rest := []) hc w (c_AS_faulty l E ad σ (w10_0 + (16 : Int32))) ks_AS_faulty mw_497 ⟨Nat.le_of_ble_eq_true rfl, Nat.le_of_ble_eq_true rfl⟩ hl.1 rfl (Nat.le_of_ble_eq_true rfl) ⟨Nat.zero_le _, Nat.zero_le _⟩ d_AS_locateMapped_40 (fun H locs w => ?_)
      exact rt_l hc w d_AS_locateMapped_43 (by rw [← e10, f_AS_locateMapped_10, if_pos q33] <;> rfl)
  refine lv_iload_n hx hb d_AS_locateMapped_0 rfl (lv_at hl 2 rfl) ?_
  refine lv_iconst (v := 1) hx hb d_AS_locateMapped_1 (by decide) ?_
  refine lv_icmp_ne (tgt := 9) hx hb d_AS_locateMapped_2 (by decide) (fun q2 => ?_) (fun q2 => ?_)
  · refine lv_iconst (v := 2) hx hb d_AS_locateMapped_9 (by decide) ?_
    exact J10 (2 : Int32) _ _ _ w (lv_sub hl [0, 1, 2] rfl) (by rw [← e0, f_AS_locateMapped, if_neg q2])
  · refine lv_iconst (v := 3) hx hb d_AS_locateMapped_5 (by decide) ?_
    refine lv_goto (tgt := 10) hx hb d_AS_locateMapped_6 (by decide) ?_
    exact J10 (3 : Int32) _ _ _ w (lv_sub hl [0, 1, 2] rfl) (by rw [← e0, f_AS_locateMapped, if_pos q2])
-- AS_locate
def f_AS_locate_93 (σ : XS) (a1 : Int32) (a2 : Int32) (w93_0 : Int32) : Int64 := f_AS_faulty σ w93_0
def f_AS_locate_60 (σ : XS) (a1 : Int32) (a2 : Int32) (w60_0 : Int64) : Int64 := if (lg_cmp w60_0 (0 : Int64)) < 0 then (w60_0) else (if (zb (f_ME_has σ w60_0)) = 0 then (if a2 = (2 : Int32) then (f_AS_locate_93 σ a1 a2 (6 : Int32)) else (f_AS_locate_93 σ a1 a2 (7 : Int32))) else (w60_0))
def f_AS_locate_41 (σ : XS) (a1 : Int32) (a2 : Int32) (w41_0 : Bool) : Int64 := if (zb w41_0) = 0 then (f_AS_locate_60 σ a1 a2 (f_AS_locateMapped σ a1 a2)) else (f_AS_locate_60 σ a1 a2 (Int32.toInt64 (a1 &&& (536870911 : Int32))))
def f_AS_locate_28 (σ : XS) (a1 : Int32) (a2 : Int32) : Int64 := if ((Int32.toUInt32 a1 >>> (Int32.toUInt32 (30 : Int32) &&& Int32.toUInt32 31)).toInt32) = (2 : Int32) then (f_AS_locate_41 σ a1 a2 true) else (f_AS_locate_41 σ a1 a2 false)
def f_AS_locate_24 (σ : XS) (a1 : Int32) (a2 : Int32) (w24_0 : Int32) : Int64 := f_AS_faulty σ w24_0
def f_AS_locate (σ : XS) (a1 : Int32) (a2 : Int32) : Int64 := if 0 ≤ a1 then (f_AS_locate_28 σ a1 a2) else (if (zb (f_SR_inUserMode σ)) = 0 then (f_AS_locate_28 σ a1 a2) else (if a2 = (1 : Int32) then (f_AS_locate_24 σ a1 a2 (5 : Int32)) else (f_AS_locate_24 σ a1 a2 (4 : Int32))))
theorem d_AS_locate_0 : decode b_AS_locate 0 = .ok (.iload_n 1, 1) := by decide +kernel
theorem d_AS_locate_1 : decode b_AS_locate 1 = .ok (.ifCond .ge 27, 3) := by decide +kernel
theorem d_AS_locate_4 : decode b_AS_locate 4 = .ok (.aload_n 0, 1) := by decide +kernel
theorem d_AS_locate_5 : decode b_AS_locate 5 = .ok (.getfield 15, 3) := by decide +kernel
theorem d_AS_locate_8 : decode b_AS_locate 8 = .ok (.invokevirtual 39, 3) := by decide +kernel
theorem d_AS_locate_11 : decode b_AS_locate 11 = .ok (.ifCond .eq 17, 3) := by decide +kernel
theorem d_AS_locate_14 : decode b_AS_locate 14 = .ok (.iload_n 2, 1) := by decide +kernel
theorem d_AS_locate_15 : decode b_AS_locate 15 = .ok (.iconst 1, 1) := by decide +kernel
theorem d_AS_locate_16 : decode b_AS_locate 16 = .ok (.if_icmp .ne 7, 3) := by decide +kernel
theorem d_AS_locate_19 : decode b_AS_locate 19 = .ok (.iconst 5, 1) := by decide +kernel
theorem d_AS_locate_20 : decode b_AS_locate 20 = .ok (.goto 4, 3) := by decide +kernel
theorem d_AS_locate_23 : decode b_AS_locate 23 = .ok (.iconst 4, 1) := by decide +kernel
theorem d_AS_locate_24 : decode b_AS_locate 24 = .ok (.invokestatic 31, 3) := by decide +kernel
theorem d_AS_locate_27 : decode b_AS_locate 27 = .ok (.lreturn, 1) := by decide +kernel
theorem d_AS_locate_28 : decode b_AS_locate 28 = .ok (.iload_n 1, 1) := by decide +kernel
theorem d_AS_locate_29 : decode b_AS_locate 29 = .ok (.bipush 30, 2) := by decide +kernel
theorem d_AS_locate_31 : decode b_AS_locate 31 = .ok (.iushr, 1) := by decide +kernel
theorem d_AS_locate_32 : decode b_AS_locate 32 = .ok (.iconst 2, 1) := by decide +kernel
theorem d_AS_locate_33 : decode b_AS_locate 33 = .ok (.if_icmp .ne 7, 3) := by decide +kernel
theorem d_AS_locate_36 : decode b_AS_locate 36 = .ok (.iconst 1, 1) := by decide +kernel
theorem d_AS_locate_37 : decode b_AS_locate 37 = .ok (.goto 4, 3) := by decide +kernel
theorem d_AS_locate_40 : decode b_AS_locate 40 = .ok (.iconst 0, 1) := by decide +kernel
theorem d_AS_locate_41 : decode b_AS_locate 41 = .ok (.istore_n 3, 1) := by decide +kernel
theorem d_AS_locate_42 : decode b_AS_locate 42 = .ok (.iload_n 3, 1) := by decide +kernel
theorem d_AS_locate_43 : decode b_AS_locate 43 = .ok (.ifCond .eq 11, 3) := by decide +kernel
theorem d_AS_locate_46 : decode b_AS_locate 46 = .ok (.iload_n 1, 1) := by decide +kernel
theorem d_AS_locate_47 : decode b_AS_locate 47 = .ok (.ldc 45, 2) := by decide +kernel
theorem d_AS_locate_49 : decode b_AS_locate 49 = .ok (.iand, 1) := by decide +kernel
theorem d_AS_locate_50 : decode b_AS_locate 50 = .ok (.i2l, 1) := by decide +kernel
theorem d_AS_locate_51 : decode b_AS_locate 51 = .ok (.goto 9, 3) := by decide +kernel
theorem d_AS_locate_54 : decode b_AS_locate 54 = .ok (.aload_n 0, 1) := by decide +kernel
theorem d_AS_locate_55 : decode b_AS_locate 55 = .ok (.iload_n 1, 1) := by decide +kernel
theorem d_AS_locate_56 : decode b_AS_locate 56 = .ok (.iload_n 2, 1) := by decide +kernel
theorem d_AS_locate_57 : decode b_AS_locate 57 = .ok (.invokevirtual 46, 3) := by decide +kernel
theorem d_AS_locate_60 : decode b_AS_locate 60 = .ok (.lstore 4, 2) := by decide +kernel
theorem d_AS_locate_62 : decode b_AS_locate 62 = .ok (.lload 4, 2) := by decide +kernel
theorem d_AS_locate_64 : decode b_AS_locate 64 = .ok (.lconst 0, 1) := by decide +kernel
theorem d_AS_locate_65 : decode b_AS_locate 65 = .ok (.lcmp, 1) := by decide +kernel
theorem d_AS_locate_66 : decode b_AS_locate 66 = .ok (.ifCond .lt 31, 3) := by decide +kernel
theorem d_AS_locate_69 : decode b_AS_locate 69 = .ok (.aload_n 0, 1) := by decide +kernel
theorem d_AS_locate_70 : decode b_AS_locate 70 = .ok (.getfield 9, 3) := by decide +kernel
theorem d_AS_locate_73 : decode b_AS_locate 73 = .ok (.lload 4, 2) := by decide +kernel
theorem d_AS_locate_75 : decode b_AS_locate 75 = .ok (.invokevirtual 49, 3) := by decide +kernel
theorem d_AS_locate_78 : decode b_AS_locate 78 = .ok (.ifCond .ne 19, 3) := by decide +kernel
theorem d_AS_locate_81 : decode b_AS_locate 81 = .ok (.iload_n 2, 1) := by decide +kernel
theorem d_AS_locate_82 : decode b_AS_locate 82 = .ok (.iconst 2, 1) := by decide +kernel
theorem d_AS_locate_83 : decode b_AS_locate 83 = .ok (.if_icmp .ne 8, 3) := by decide +kernel
theorem d_AS_locate_86 : decode b_AS_locate 86 = .ok (.bipush 6, 2) := by decide +kernel
theorem d_AS_locate_88 : decode b_AS_locate 88 = .ok (.goto 5, 3) := by decide +kernel
theorem d_AS_locate_91 : decode b_AS_locate 91 = .ok (.bipush 7, 2) := by decide +kernel
theorem d_AS_locate_93 : decode b_AS_locate 93 = .ok (.invokestatic 31, 3) := by decide +kernel
theorem d_AS_locate_96 : decode b_AS_locate 96 = .ok (.lreturn, 1) := by decide +kernel
theorem d_AS_locate_97 : decode b_AS_locate 97 = .ok (.lload 4, 2) := by decide +kernel
theorem d_AS_locate_99 : decode b_AS_locate 99 = .ok (.lreturn, 1) := by decide +kernel
set_option maxHeartbeats 4000000 in
set_option maxRecDepth 100000 in
theorem c_AS_locate (l : Launch) (E : Ev) (ad : Nat → Nat) (σ : XS) (a1 : Int32) (a2 : Int32) : rC xCl l E (xW E ad) y_AS_locate b_AS_locate 6 (Option.some Jvm.ClassFile.FieldType.long) (rmo 2 50) [.ref (ad 4), .int a1, .int a2] σ ((σ, some (Value.long (f_AS_locate σ a1 a2)))) := by
  refine rC.of (by decide) (Nat.le_of_ble_eq_true rfl) ?_
  intro p e s m below meth c A ls hc w hl
  generalize e0 : (σ, some (Value.long (f_AS_locate σ a1 a2))) = Z
  have hc : Cx xCl E A p s m ([.ref (ad 4), .int a1, .int a2] : List Value).toArray meth c b_AS_locate 6 (Option.some Jvm.ClassFile.FieldType.long) "PageMachine$AddressSpace" := hc
  have hx := hc.1
  have hb := hc.2.1
  have ho := hc.2.2.2.2.2.1
  have hT := hc.2.2.2.2.2.2.1
  have hl : lv_has ls 6 [(0, .ref (ad 4)), (1, .int a1), (2, .int a2)] := hl
  have J93 : ∀ (w93_0 : Int32) (H : Heap) (locs : List Loc) (ls : Array Slot), Wd xCl E A s.heap H locs (xW E ad σ) → lv_has ls 6 [] → (σ, some (Value.long (f_AS_locate_93 σ a1 a2 w93_0))) = Z → W p l e (rmo 2 50) s m ([.ref (ad 4), .int a1, .int a2] : List Value).toArray below meth c H locs 0 0 (MQ below (rQ xCl (xW E ad) E A Z) ([.ref (ad 4), .int a1, .int a2] : List Value).toArray s 0 0 A) (F0 m 93 ls [.int w93_0]) := by
    intro w93_0 H locs ls w hl e93
    refine rSL (rest := []) hc w (c_AS_faulty l E ad σ w93_0) ks_AS_faulty mw_497 ⟨Nat.le_of_ble_eq_true rfl, Nat.le_of_ble_eq_true rfl⟩ hl.1 rfl (Nat.le_of_ble_eq_true rfl) ⟨Nat.zero_le _, Nat.zero_le _⟩ d_AS_locate_93 (fun H locs w => ?_)
    exact rt_l hc w d_AS_locate_96 (by rw [← e93, f_AS_locate_93] <;> rfl)
  have J60 : ∀ (w60_0 : Int64) (H : Heap) (locs : List Loc) (ls : Array Slot), Wd xCl E A s.heap H locs (xW E ad σ) → lv_has ls 6 [(0, .ref (ad 4)), (2, .int a2)] → (σ, some (Value.long (f_AS_locate_60 σ a1 a2 w60_0))) = Z → W p l e (rmo 2 50) s m ([.ref (ad 4), .int a1, .int a2] : List Value).toArray below meth c H locs 0 0 (MQ below (rQ xCl (xW E ad) E A Z) ([.ref (ad 4), .int a1, .int a2] : List Value).toArray s 0 0 A) (F0 m 60 ls [.long w60_0]) := by
    intro w60_0 H locs ls w hl e60
    refine lv_lstore (lv' := [(4, .long w60_0), (0, .ref (ad 4)), (2, .int a2)]) hx hb d_AS_locate_60 hl (by decide) rfl (fun ls hl => ?_)
    refine lv_lload hx hb d_AS_locate_62 (lv_at hl 0 rfl) ?_
    refine lv_lconst (v := 0) hx hb d_AS_locate_64 (by decide) ?_
    refine W.lcmp hx hb d_AS_locate_65 ?_
    refine lv_if_lt (tgt := 97) hx hb d_AS_locate_66 (by decide) (fun q66 => ?_) (fun q66 => ?_)
    · refine lv_lload hx hb d_AS_locate_97 (lv_at hl 0 rfl) ?_
      exact rt_l hc w d_AS_locate_99 (by rw [← e60, f_AS_locate_60, if_pos q66] <;> rfl)
    · refine lv_aload_n hx hb d_AS_locate_69 rfl (lv_at hl 1 rfl) ?_
      refine g_AS_memory hc w mw_85 d_AS_locate_70 ?_
      refine lv_lload hx hb d_AS_locate_73 (lv_at hl 0 rfl) ?_
      refine rVZ (rest := []) hc w (c_ME_has l E ad σ w60_0) kv_ME_has mw_522 1 rfl rfl ⟨Nat.le_of_ble_eq_true rfl, Nat.le_of_ble_eq_true rfl⟩ hl.1 rfl (Nat.le_of_ble_eq_true rfl) ⟨Nat.zero_le _, Nat.zero_le _⟩ d_AS_locate_75 (fun H locs w => ?_)
      refine lv_if_ne (tgt := 97) hx hb d_AS_locate_78 (by decide) (fun q78 => ?_) (fun q78 => ?_)
      · refine lv_lload hx hb d_AS_locate_97 (lv_at hl 0 rfl) ?_
        exact rt_l hc w d_AS_locate_99 (by rw [← e60, f_AS_locate_60, if_neg q66, if_neg q78] <;> rfl)
      · refine lv_iload_n hx hb d_AS_locate_81 rfl (lv_at hl 2 rfl) ?_
        refine lv_iconst (v := 2) hx hb d_AS_locate_82 (by decide) ?_
        refine lv_icmp_ne (tgt := 91) hx hb d_AS_locate_83 (by decide) (fun q83 => ?_) (fun q83 => ?_)
        · refine lv_bipush (v := 7) hx hb d_AS_locate_91 (by decide) ?_
          exact J93 (7 : Int32) _ _ _ w (lv_sub hl [] rfl) (by rw [← e60, f_AS_locate_60, if_neg q66, if_pos q78, if_neg q83])
        · refine lv_bipush (v := 6) hx hb d_AS_locate_86 (by decide) ?_
          refine lv_goto (tgt := 93) hx hb d_AS_locate_88 (by decide) ?_
          exact J93 (6 : Int32) _ _ _ w (lv_sub hl [] rfl) (by rw [← e60, f_AS_locate_60, if_neg q66, if_pos q78, if_pos q83])
  have J41 : ∀ (w41_0 : Bool) (H : Heap) (locs : List Loc) (ls : Array Slot), Wd xCl E A s.heap H locs (xW E ad σ) → lv_has ls 6 [(0, .ref (ad 4)), (1, .int a1), (2, .int a2)] → (σ, some (Value.long (f_AS_locate_41 σ a1 a2 w41_0))) = Z → W p l e (rmo 2 50) s m ([.ref (ad 4), .int a1, .int a2] : List Value).toArray below meth c H locs 0 0 (MQ below (rQ xCl (xW E ad) E A Z) ([.ref (ad 4), .int a1, .int a2] : List Value).toArray s 0 0 A) (F0 m 41 ls [.int (zb w41_0)]) := by
    intro w41_0 H locs ls w hl e41
    refine lv_istore_n (lv' := [(3, .int (zb w41_0)), (0, .ref (ad 4)), (1, .int a1), (2, .int a2)]) hx hb d_AS_locate_41 rfl hl (by decide) rfl (fun ls hl => ?_)
    refine lv_iload_n hx hb d_AS_locate_42 rfl (lv_at hl 0 rfl) ?_
    refine lv_if_eq (tgt := 54) hx hb d_AS_locate_43 (by decide) (fun q43 => ?_) (fun q43 => ?_)
    · refine lv_aload_n hx hb d_AS_locate_54 rfl (lv_at hl 1 rfl) ?_
      refine lv_iload_n hx hb d_AS_locate_55 rfl (lv_at hl 2 rfl) ?_
      refine lv_iload_n hx hb d_AS_locate_56 rfl (lv_at hl 3 rfl) ?_
      refine rVL (rest := []) hc w (c_AS_locateMapped l E ad σ a1 a2) kv_AS_locateMapped mw_509 4 rfl rfl ⟨Nat.le_of_ble_eq_true rfl, Nat.le_of_ble_eq_true rfl⟩ hl.1 rfl (Nat.le_of_ble_eq_true rfl) ⟨Nat.zero_le _, Nat.zero_le _⟩ d_AS_locate_57 (fun H locs w => ?_)
      exact J60 (f_AS_locateMapped σ a1 a2) _ _ _ w (lv_sub hl [1, 3] rfl) (by rw [← e41, f_AS_locate_41, if_pos q43])
    · refine lv_iload_n hx hb d_AS_locate_46 rfl (lv_at hl 2 rfl) ?_
      refine lv_ldc (v := 536870911) hx hb ho (hT _ mw_508) d_AS_locate_47 ?_
      refine lv_iand hx hb d_AS_locate_49 ?_
      refine lv_i2l hx hb d_AS_locate_50 rfl ?_
      refine lv_goto (tgt := 60) hx hb d_AS_locate_51 (by decide) ?_
      exact J60 (Int32.toInt64 (a1 &&& (536870911 : Int32))) _ _ _ w (lv_sub hl [1, 3] rfl) (by rw [← e41, f_AS_locate_41, if_neg q43])
  have J28 : ∀ (H : Heap) (locs : List Loc) (ls : Array Slot), Wd xCl E A s.heap H locs (xW E ad σ) → lv_has ls 6 [(0, .ref (ad 4)), (1, .int a1), (2, .int a2)] → (σ, some (Value.long (f_AS_locate_28 σ a1 a2))) = Z → W p l e (rmo 2 50) s m ([.ref (ad 4), .int a1, .int a2] : List Value).toArray below meth c H locs 0 0 (MQ below (rQ xCl (xW E ad) E A Z) ([.ref (ad 4), .int a1, .int a2] : List Value).toArray s 0 0 A) (F0 m 28 ls []) := by
    intro  H locs ls w hl e28
    refine lv_iload_n hx hb d_AS_locate_28 rfl (lv_at hl 1 rfl) ?_
    refine lv_bipush (v := 30) hx hb d_AS_locate_29 (by decide) ?_
    refine lv_iushr hx hb d_AS_locate_31 rfl ?_
    refine lv_iconst (v := 2) hx hb d_AS_locate_32 (by decide) ?_
    refine lv_icmp_ne (tgt := 40) hx hb d_AS_locate_33 (by decide) (fun q33 => ?_) (fun q33 => ?_)
    · refine lv_iconst (v := 0) hx hb d_AS_locate_40 (by decide) ?_
      exact J41 false _ _ _ w (lv_sub hl [0, 1, 2] rfl) (by rw [← e28, f_AS_locate_28, if_neg q33])
    · refine lv_iconst (v := 1) hx hb d_AS_locate_36 (by decide) ?_
      refine lv_goto (tgt := 41) hx hb d_AS_locate_37 (by decide) ?_
      exact J41 true _ _ _ w (lv_sub hl [0, 1, 2] rfl) (by rw [← e28, f_AS_locate_28, if_pos q33])
  have J24 : ∀ (w24_0 : Int32) (H : Heap) (locs : List Loc) (ls : Array Slot), Wd xCl E A s.heap H locs (xW E ad σ) → lv_has ls 6 [] → (σ, some (Value.long (f_AS_locate_24 σ a1 a2 w24_0))) = Z → W p l e (rmo 2 50) s m ([.ref (ad 4), .int a1, .int a2] : List Value).toArray below meth c H locs 0 0 (MQ below (rQ xCl (xW E ad) E A Z) ([.ref (ad 4), .int a1, .int a2] : List Value).toArray s 0 0 A) (F0 m 24 ls [.int w24_0]) := by
    intro w24_0 H locs ls w hl e24
    refine rSL (rest := []) hc w (c_AS_faulty l E ad σ w24_0) ks_AS_faulty mw_497 ⟨Nat.le_of_ble_eq_true rfl, Nat.le_of_ble_eq_true rfl⟩ hl.1 rfl (Nat.le_of_ble_eq_true rfl) ⟨Nat.zero_le _, Nat.zero_le _⟩ d_AS_locate_24 (fun H locs w => ?_)
    exact rt_l hc w d_AS_locate_27 (by rw [← e24, f_AS_locate_24] <;> rfl)
  refine lv_iload_n hx hb d_AS_locate_0 rfl (lv_at hl 1 rfl) ?_
  refine lv_if_ge (tgt := 28) hx hb d_AS_locate_1 (by decide) (fun q1 => ?_) (fun q1 => ?_)
  · exact J28  _ _ _ w (lv_sub hl [0, 1, 2] rfl) (by rw [← e0, f_AS_locate, if_pos q1])
  · refine lv_aload_n hx hb d_AS_locate_4 rfl (lv_at hl 0 rfl) ?_
    refine g_AS_system hc w mw_86 d_AS_locate_5 ?_
    refine rVZ (rest := []) hc w (c_SR_inUserMode l E ad σ) kv_SR_inUserMode mw_504 2 rfl rfl ⟨Nat.le_of_ble_eq_true rfl, Nat.le_of_ble_eq_true rfl⟩ hl.1 rfl (Nat.le_of_ble_eq_true rfl) ⟨Nat.zero_le _, Nat.zero_le _⟩ d_AS_locate_8 (fun H locs w => ?_)
    refine lv_if_eq (tgt := 28) hx hb d_AS_locate_11 (by decide) (fun q11 => ?_) (fun q11 => ?_)
    · exact J28  _ _ _ w (lv_sub hl [0, 1, 2] rfl) (by rw [← e0, f_AS_locate, if_neg q1, if_pos q11])
    · refine lv_iload_n hx hb d_AS_locate_14 rfl (lv_at hl 2 rfl) ?_
      refine lv_iconst (v := 1) hx hb d_AS_locate_15 (by decide) ?_
      refine lv_icmp_ne (tgt := 23) hx hb d_AS_locate_16 (by decide) (fun q16 => ?_) (fun q16 => ?_)
      · refine lv_iconst (v := 4) hx hb d_AS_locate_23 (by decide) ?_
        exact J24 (4 : Int32) _ _ _ w (lv_sub hl [] rfl) (by rw [← e0, f_AS_locate, if_neg q1, if_neg q11, if_neg q16])
      · refine lv_iconst (v := 5) hx hb d_AS_locate_19 (by decide) ?_
        refine lv_goto (tgt := 24) hx hb d_AS_locate_20 (by decide) ?_
        exact J24 (5 : Int32) _ _ _ w (lv_sub hl [] rfl) (by rw [← e0, f_AS_locate, if_neg q1, if_neg q11, if_pos q16])
-- AS_locateAligned
def f_AS_locateAligned_21 (σ21 : XS) (a1 : Int32) (a2 : Int32) (a3 : Int32) (w21_0 : Int32) : XS × Int64 := (σ21, f_AS_faulty σ21 w21_0)
def f_AS_locateAligned_c1 (σ2 : XS) (a1 : Int32) (a2 : Int32) (a3 : Int32)  : XS × Int64 := if (a1 &&& a3) = 0 then ((σ2, f_AS_locate σ2 a1 a2)) else (if a2 = (1 : Int32) then (f_AS_locateAligned_21 σ2 a1 a2 a3 (5 : Int32)) else (f_AS_locateAligned_21 σ2 a1 a2 a3 (4 : Int32)))
def f_AS_locateAligned (σ : XS) (a1 : Int32) (a2 : Int32) (a3 : Int32) : XS × Int64 := f_AS_locateAligned_c1 (xs_asked σ a1) a1 a2 a3 
theorem d_AS_locateAligned_0 : decode b_AS_locateAligned 0 = .ok (.aload_n 0, 1) := by decide +kernel
theorem d_AS_locateAligned_1 : decode b_AS_locateAligned 1 = .ok (.iload_n 1, 1) := by decide +kernel
theorem d_AS_locateAligned_2 : decode b_AS_locateAligned 2 = .ok (.putfield 23, 3) := by decide +kernel
theorem d_AS_locateAligned_5 : decode b_AS_locateAligned 5 = .ok (.iload_n 1, 1) := by decide +kernel
theorem d_AS_locateAligned_6 : decode b_AS_locateAligned 6 = .ok (.iload_n 3, 1) := by decide +kernel
theorem d_AS_locateAligned_7 : decode b_AS_locateAligned 7 = .ok (.iand, 1) := by decide +kernel
theorem d_AS_locateAligned_8 : decode b_AS_locateAligned 8 = .ok (.ifCond .eq 17, 3) := by decide +kernel
theorem d_AS_locateAligned_11 : decode b_AS_locateAligned 11 = .ok (.iload_n 2, 1) := by decide +kernel
theorem d_AS_locateAligned_12 : decode b_AS_locateAligned 12 = .ok (.iconst 1, 1) := by decide +kernel
theorem d_AS_locateAligned_13 : decode b_AS_locateAligned 13 = .ok (.if_icmp .ne 7, 3) := by decide +kernel
theorem d_AS_locateAligned_16 : decode b_AS_locateAligned 16 = .ok (.iconst 5, 1) := by decide +kernel
theorem d_AS_locateAligned_17 : decode b_AS_locateAligned 17 = .ok (.goto 4, 3) := by decide +kernel
theorem d_AS_locateAligned_20 : decode b_AS_locateAligned 20 = .ok (.iconst 4, 1) := by decide +kernel
theorem d_AS_locateAligned_21 : decode b_AS_locateAligned 21 = .ok (.invokestatic 31, 3) := by decide +kernel
theorem d_AS_locateAligned_24 : decode b_AS_locateAligned 24 = .ok (.lreturn, 1) := by decide +kernel
theorem d_AS_locateAligned_25 : decode b_AS_locateAligned 25 = .ok (.aload_n 0, 1) := by decide +kernel
theorem d_AS_locateAligned_26 : decode b_AS_locateAligned 26 = .ok (.iload_n 1, 1) := by decide +kernel
theorem d_AS_locateAligned_27 : decode b_AS_locateAligned 27 = .ok (.iload_n 2, 1) := by decide +kernel
theorem d_AS_locateAligned_28 : decode b_AS_locateAligned 28 = .ok (.invokevirtual 35, 3) := by decide +kernel
theorem d_AS_locateAligned_31 : decode b_AS_locateAligned 31 = .ok (.lreturn, 1) := by decide +kernel
set_option maxHeartbeats 4000000 in
set_option maxRecDepth 100000 in
theorem c_AS_locateAligned (l : Launch) (E : Ev) (ad : Nat → Nat) (σ : XS) (a1 : Int32) (a2 : Int32) (a3 : Int32) : rC xCl l E (xW E ad) y_AS_locateAligned b_AS_locateAligned 4 (Option.some Jvm.ClassFile.FieldType.long) (rmo 3 75) [.ref (ad 4), .int a1, .int a2, .int a3] σ (zL (f_AS_locateAligned σ a1 a2 a3)) := by
  refine rC.of (by decide) (Nat.le_of_ble_eq_true rfl) ?_
  intro p e s m below meth c A ls hc w hl
  generalize e0 : zL (f_AS_locateAligned σ a1 a2 a3) = Z
  have hc : Cx xCl E A p s m ([.ref (ad 4), .int a1, .int a2, .int a3] : List Value).toArray meth c b_AS_locateAligned 4 (Option.some Jvm.ClassFile.FieldType.long) "PageMachine$AddressSpace" := hc
  have hx := hc.1
  have hb := hc.2.1
  have ho := hc.2.2.2.2.2.1
  have hT := hc.2.2.2.2.2.2.1
  have hl : lv_has ls 4 [(0, .ref (ad 4)), (1, .int a1), (2, .int a2), (3, .int a3)] := hl
  have J21 : ∀ (σ21 : XS) (w21_0 : Int32) (H : Heap) (locs : List Loc) (ls : Array Slot), Wd xCl E A s.heap H locs (xW E ad σ21) → lv_has ls 4 [] → zL (f_AS_locateAligned_21 σ21 a1 a2 a3 w21_0) = Z → W p l e (rmo 3 75) s m ([.ref (ad 4), .int a1, .int a2, .int a3] : List Value).toArray below meth c H locs 0 0 (MQ below (rQ xCl (xW E ad) E A Z) ([.ref (ad 4), .int a1, .int a2, .int a3] : List Value).toArray s 0 0 A) (F0 m 21 ls [.int w21_0]) := by
    intro σ21 w21_0 H locs ls w hl e21
    refine rSL (rest := []) hc w (c_AS_faulty l E ad σ21 w21_0) ks_AS_faulty mw_497 ⟨Nat.le_of_ble_eq_true rfl, Nat.le_of_ble_eq_true rfl⟩ hl.1 rfl (Nat.le_of_ble_eq_true rfl) ⟨Nat.zero_le _, Nat.zero_le _⟩ d_AS_locateAligned_21 (fun H locs w => ?_)
    exact rt_l hc w d_AS_locateAligned_24 (by rw [← e21, f_AS_locateAligned_21] <;> rfl)
  refine lv_aload_n hx hb d_AS_locateAligned_0 rfl (lv_at hl 0 rfl) ?_
  refine lv_iload_n hx hb d_AS_locateAligned_1 rfl (lv_at hl 1 rfl) ?_
  refine p_AS_asked hc w mw_88 d_AS_locateAligned_2 (fun σ2 H locs hs2 w => ?_)
  have e_c1 : zL (f_AS_locateAligned_c1 σ2 a1 a2 a3 ) = Z := by rw [← e0, f_AS_locateAligned, hs2]
  refine lv_iload_n hx hb d_AS_locateAligned_5 rfl (lv_at hl 1 rfl) ?_
  refine lv_iload_n hx hb d_AS_locateAligned_6 rfl (lv_at hl 3 rfl) ?_
  refine lv_iand hx hb d_AS_locateAligned_7 ?_
  refine lv_if_eq (tgt := 25) hx hb d_AS_locateAligned_8 (by decide) (fun q8 => ?_) (fun q8 => ?_)
  · refine lv_aload_n hx hb d_AS_locateAligned_25 rfl (lv_at hl 0 rfl) ?_
    refine lv_iload_n hx hb d_AS_locateAligned_26 rfl (lv_at hl 1 rfl) ?_
    refine lv_iload_n hx hb d_AS_locateAligned_27 rfl (lv_at hl 2 rfl) ?_
    refine rVL (rest := []) hc w (c_AS_locate l E ad σ2 a1 a2) kv_AS_locate mw_500 4 rfl rfl ⟨Nat.le_of_ble_eq_true rfl, Nat.le_of_ble_eq_true rfl⟩ hl.1 rfl (Nat.le_of_ble_eq_true rfl) ⟨Nat.zero_le _, Nat.zero_le _⟩ d_AS_locateAligned_28 (fun H locs w => ?_)
    exact rt_l hc w d_AS_locateAligned_31 (by rw [← e_c1, f_AS_locateAligned_c1, if_pos q8] <;> rfl)
  · refine lv_iload_n hx hb d_AS_locateAligned_11 rfl (lv_at hl 2 rfl) ?_
    refine lv_iconst (v := 1) hx hb d_AS_locateAligned_12 (by decide) ?_
    refine lv_icmp_ne (tgt := 20) hx hb d_AS_locateAligned_13 (by decide) (fun q13 => ?_) (fun q13 => ?_)
    · refine lv_iconst (v := 4) hx hb d_AS_locateAligned_20 (by decide) ?_
      exact J21 σ2 (4 : Int32) _ _ _ w (lv_sub hl [] rfl) (by rw [← e_c1, f_AS_locateAligned_c1, if_neg q8, if_neg q13])
    · refine lv_iconst (v := 5) hx hb d_AS_locateAligned_16 (by decide) ?_
      refine lv_goto (tgt := 21) hx hb d_AS_locateAligned_17 (by decide) ?_
      exact J21 σ2 (5 : Int32) _ _ _ w (lv_sub hl [] rfl) (by rw [← e_c1, f_AS_locateAligned_c1, if_neg q8, if_pos q13])
end
