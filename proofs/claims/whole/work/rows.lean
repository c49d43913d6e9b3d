section
-- ===== PART A: goes FIRST, ahead of the names: the tables' words, and 'selects' of the private methods out of them =====
/-- a private method of a class that the tables say can be made, by its rows of tables_1 -/
def lw_okq (q : MethodName × Nat) : Prop := (q.1.cls ≠ "java/lang/invoke/MethodHandle" ∧ q.1.cls ≠ "java/lang/invoke/VarHandle") ∧ Cond.instantiable q.1.cls q.2 ∈ tables_1 ∧ Cond.privateMethod q.1 ∈ tables_1 ∧ Cond.instanceMethod q.1 ∈ tables_1
theorem lw_p0 : lw_okq (⟨"PageMachine", "checkWordAddress", "(I)V"⟩, 6) := ⟨⟨by decide +kernel, by decide +kernel⟩, List.mem_of_getElem? (i := 21) (by decide +kernel), List.mem_of_getElem? (i := 281) (by decide +kernel), List.mem_of_getElem? (i := 282) (by decide +kernel)⟩
theorem lw_p1 : lw_okq (⟨"java/lang/Throwable", "fillInStackTrace", "(I)Ljava/lang/Throwable;"⟩, 6) := ⟨⟨by decide +kernel, by decide +kernel⟩, List.mem_of_getElem? (i := 322) (by decide +kernel), List.mem_of_getElem? (i := 320) (by decide +kernel), List.mem_of_getElem? (i := 321) (by decide +kernel)⟩
theorem lw_p2 : lw_okq (⟨"PageMachine$Processor", "enter", "(I)V"⟩, 10) := ⟨⟨by decide +kernel, by decide +kernel⟩, List.mem_of_getElem? (i := 150) (by decide +kernel), List.mem_of_getElem? (i := 459) (by decide +kernel), List.mem_of_getElem? (i := 460) (by decide +kernel)⟩
theorem lw_p3 : lw_okq (⟨"PageMachine$SystemRegisters", "noteAddress", "(II)V"⟩, 3) := ⟨⟨by decide +kernel, by decide +kernel⟩, List.mem_of_getElem? (i := 41) (by decide +kernel), List.mem_of_getElem? (i := 481) (by decide +kernel), List.mem_of_getElem? (i := 482) (by decide +kernel)⟩
theorem lw_p4 : lw_okq (⟨"PageMachine$Processor", "fetch", "()I"⟩, 10) := ⟨⟨by decide +kernel, by decide +kernel⟩, List.mem_of_getElem? (i := 150) (by decide +kernel), List.mem_of_getElem? (i := 490) (by decide +kernel), List.mem_of_getElem? (i := 491) (by decide +kernel)⟩
theorem lw_p5 : lw_okq (⟨"PageMachine$AddressSpace", "locateMapped", "(II)J"⟩, 4) := ⟨⟨by decide +kernel, by decide +kernel⟩, List.mem_of_getElem? (i := 80) (by decide +kernel), List.mem_of_getElem? (i := 510) (by decide +kernel), List.mem_of_getElem? (i := 511) (by decide +kernel)⟩
theorem lw_p6 : lw_okq (⟨"PageMachine$Processor", "perform", "(I)I"⟩, 10) := ⟨⟨by decide +kernel, by decide +kernel⟩, List.mem_of_getElem? (i := 150) (by decide +kernel), List.mem_of_getElem? (i := 537) (by decide +kernel), List.mem_of_getElem? (i := 538) (by decide +kernel)⟩
theorem lw_p7 : lw_okq (⟨"PageMachine$Processor", "performOp0", "()I"⟩, 10) := ⟨⟨by decide +kernel, by decide +kernel⟩, List.mem_of_getElem? (i := 150) (by decide +kernel), List.mem_of_getElem? (i := 541) (by decide +kernel), List.mem_of_getElem? (i := 542) (by decide +kernel)⟩
theorem lw_p8 : lw_okq (⟨"PageMachine$Arithmetic", "shift", "(I)I"⟩, 1) := ⟨⟨by decide +kernel, by decide +kernel⟩, List.mem_of_getElem? (i := 156) (by decide +kernel), List.mem_of_getElem? (i := 571) (by decide +kernel), List.mem_of_getElem? (i := 572) (by decide +kernel)⟩
theorem lw_p9 : lw_okq (⟨"PageMachine$Arithmetic", "moveOrCall", "(I)I"⟩, 1) := ⟨⟨by decide +kernel, by decide +kernel⟩, List.mem_of_getElem? (i := 156) (by decide +kernel), List.mem_of_getElem? (i := 586) (by decide +kernel), List.mem_of_getElem? (i := 587) (by decide +kernel)⟩
theorem lw_p10 : lw_okq (⟨"PageMachine$Arithmetic", "moveHiLo", "(I)I"⟩, 1) := ⟨⟨by decide +kernel, by decide +kernel⟩, List.mem_of_getElem? (i := 156) (by decide +kernel), List.mem_of_getElem? (i := 590) (by decide +kernel), List.mem_of_getElem? (i := 591) (by decide +kernel)⟩
theorem lw_p11 : lw_okq (⟨"PageMachine$Arithmetic", "multiplyOrDivide", "(I)I"⟩, 1) := ⟨⟨by decide +kernel, by decide +kernel⟩, List.mem_of_getElem? (i := 156) (by decide +kernel), List.mem_of_getElem? (i := 594) (by decide +kernel), List.mem_of_getElem? (i := 595) (by decide +kernel)⟩
theorem lw_p12 : lw_okq (⟨"PageMachine$Arithmetic", "product", "()J"⟩, 1) := ⟨⟨by decide +kernel, by decide +kernel⟩, List.mem_of_getElem? (i := 156) (by decide +kernel), List.mem_of_getElem? (i := 598) (by decide +kernel), List.mem_of_getElem? (i := 599) (by decide +kernel)⟩
theorem lw_p13 : lw_okq (⟨"PageMachine$Arithmetic", "plainProduct", "()J"⟩, 1) := ⟨⟨by decide +kernel, by decide +kernel⟩, List.mem_of_getElem? (i := 156) (by decide +kernel), List.mem_of_getElem? (i := 606) (by decide +kernel), List.mem_of_getElem? (i := 607) (by decide +kernel)⟩
theorem lw_p14 : lw_okq (⟨"PageMachine$Arithmetic", "divide", "(JJ)I"⟩, 1) := ⟨⟨by decide +kernel, by decide +kernel⟩, List.mem_of_getElem? (i := 156) (by decide +kernel), List.mem_of_getElem? (i := 614) (by decide +kernel), List.mem_of_getElem? (i := 615) (by decide +kernel)⟩
theorem lw_p15 : lw_okq (⟨"PageMachine$Arithmetic", "addOrCombine", "(I)I"⟩, 1) := ⟨⟨by decide +kernel, by decide +kernel⟩, List.mem_of_getElem? (i := 156) (by decide +kernel), List.mem_of_getElem? (i := 618) (by decide +kernel), List.mem_of_getElem? (i := 619) (by decide +kernel)⟩
def lw_privs_1 : List (MethodName × Nat) := [(⟨"PageMachine", "checkWordAddress", "(I)V"⟩, 6), (⟨"java/lang/Throwable", "fillInStackTrace", "(I)Ljava/lang/Throwable;"⟩, 6), (⟨"PageMachine$Processor", "enter", "(I)V"⟩, 10), (⟨"PageMachine$SystemRegisters", "noteAddress", "(II)V"⟩, 3), (⟨"PageMachine$Processor", "fetch", "()I"⟩, 10), (⟨"PageMachine$AddressSpace", "locateMapped", "(II)J"⟩, 4), (⟨"PageMachine$Processor", "perform", "(I)I"⟩, 10), (⟨"PageMachine$Processor", "performOp0", "()I"⟩, 10), (⟨"PageMachine$Arithmetic", "shift", "(I)I"⟩, 1), (⟨"PageMachine$Arithmetic", "moveOrCall", "(I)I"⟩, 1), (⟨"PageMachine$Arithmetic", "moveHiLo", "(I)I"⟩, 1), (⟨"PageMachine$Arithmetic", "multiplyOrDivide", "(I)I"⟩, 1), (⟨"PageMachine$Arithmetic", "product", "()J"⟩, 1), (⟨"PageMachine$Arithmetic", "plainProduct", "()J"⟩, 1), (⟨"PageMachine$Arithmetic", "divide", "(JJ)I"⟩, 1), (⟨"PageMachine$Arithmetic", "addOrCombine", "(I)I"⟩, 1)]
theorem lw_r1 : ∀ q ∈ lw_privs_1, lw_okq q := List.forall_mem_cons.mpr ⟨lw_p0, List.forall_mem_cons.mpr ⟨lw_p1, List.forall_mem_cons.mpr ⟨lw_p2, List.forall_mem_cons.mpr ⟨lw_p3, List.forall_mem_cons.mpr ⟨lw_p4, List.forall_mem_cons.mpr ⟨lw_p5, List.forall_mem_cons.mpr ⟨lw_p6, List.forall_mem_cons.mpr ⟨lw_p7, List.forall_mem_cons.mpr ⟨lw_p8, List.forall_mem_cons.mpr ⟨lw_p9, List.forall_mem_cons.mpr ⟨lw_p10, List.forall_mem_cons.mpr ⟨lw_p11, List.forall_mem_cons.mpr ⟨lw_p12, List.forall_mem_cons.mpr ⟨lw_p13, List.forall_mem_cons.mpr ⟨lw_p14, List.forall_mem_cons.mpr ⟨lw_p15, fun _ h => absurd h List.not_mem_nil⟩⟩⟩⟩⟩⟩⟩⟩⟩⟩⟩⟩⟩⟩⟩⟩
theorem lw_p16 : lw_okq (⟨"PageMachine$Arithmetic", "putChecked", "(IJ)I"⟩, 1) := ⟨⟨by decide +kernel, by decide +kernel⟩, List.mem_of_getElem? (i := 156) (by decide +kernel), List.mem_of_getElem? (i := 622) (by decide +kernel), List.mem_of_getElem? (i := 623) (by decide +kernel)⟩
theorem lw_p17 : lw_okq (⟨"PageMachine$Arithmetic", "compare", "(I)I"⟩, 1) := ⟨⟨by decide +kernel, by decide +kernel⟩, List.mem_of_getElem? (i := 156) (by decide +kernel), List.mem_of_getElem? (i := 626) (by decide +kernel), List.mem_of_getElem? (i := 627) (by decide +kernel)⟩
theorem lw_p18 : lw_okq (⟨"PageMachine$Arithmetic", "trap", "(II)I"⟩, 1) := ⟨⟨by decide +kernel, by decide +kernel⟩, List.mem_of_getElem? (i := 156) (by decide +kernel), List.mem_of_getElem? (i := 634) (by decide +kernel), List.mem_of_getElem? (i := 635) (by decide +kernel)⟩
theorem lw_p19 : lw_okq (⟨"PageMachine$Processor", "performOp1", "()I"⟩, 10) := ⟨⟨by decide +kernel, by decide +kernel⟩, List.mem_of_getElem? (i := 150) (by decide +kernel), List.mem_of_getElem? (i := 641) (by decide +kernel), List.mem_of_getElem? (i := 642) (by decide +kernel)⟩
theorem lw_p20 : lw_okq (⟨"PageMachine$Branches", "branch", "(ZZ)V"⟩, 1) := ⟨⟨by decide +kernel, by decide +kernel⟩, List.mem_of_getElem? (i := 166) (by decide +kernel), List.mem_of_getElem? (i := 654) (by decide +kernel), List.mem_of_getElem? (i := 655) (by decide +kernel)⟩
theorem lw_p21 : lw_okq (⟨"PageMachine$Coprocessor", "command", "(I)I"⟩, 3) := ⟨⟨by decide +kernel, by decide +kernel⟩, List.mem_of_getElem? (i := 192) (by decide +kernel), List.mem_of_getElem? (i := 720) (by decide +kernel), List.mem_of_getElem? (i := 721) (by decide +kernel)⟩
theorem lw_p22 : lw_okq (⟨"PageMachine$Coprocessor", "readEntry", "(I)I"⟩, 3) := ⟨⟨by decide +kernel, by decide +kernel⟩, List.mem_of_getElem? (i := 192) (by decide +kernel), List.mem_of_getElem? (i := 725) (by decide +kernel), List.mem_of_getElem? (i := 726) (by decide +kernel)⟩
theorem lw_p23 : lw_okq (⟨"PageMachine$Coprocessor", "writeEntry", "(I)I"⟩, 3) := ⟨⟨by decide +kernel, by decide +kernel⟩, List.mem_of_getElem? (i := 192) (by decide +kernel), List.mem_of_getElem? (i := 746) (by decide +kernel), List.mem_of_getElem? (i := 747) (by decide +kernel)⟩
theorem lw_p24 : lw_okq (⟨"PageMachine$Coprocessor", "probe", "()I"⟩, 3) := ⟨⟨by decide +kernel, by decide +kernel⟩, List.mem_of_getElem? (i := 192) (by decide +kernel), List.mem_of_getElem? (i := 755) (by decide +kernel), List.mem_of_getElem? (i := 756) (by decide +kernel)⟩
theorem lw_p25 : lw_okq (⟨"PageMachine$Coprocessor", "leaveFault", "()I"⟩, 3) := ⟨⟨by decide +kernel, by decide +kernel⟩, List.mem_of_getElem? (i := 192) (by decide +kernel), List.mem_of_getElem? (i := 764) (by decide +kernel), List.mem_of_getElem? (i := 765) (by decide +kernel)⟩
theorem lw_p26 : lw_okq (⟨"PageMachine$Arithmetic", "hiLo", "()J"⟩, 1) := ⟨⟨by decide +kernel, by decide +kernel⟩, List.mem_of_getElem? (i := 156) (by decide +kernel), List.mem_of_getElem? (i := 783) (by decide +kernel), List.mem_of_getElem? (i := 784) (by decide +kernel)⟩
theorem lw_p27 : lw_okq (⟨"PageMachine$LoadsAndStores", "address", "()I"⟩, 3) := ⟨⟨by decide +kernel, by decide +kernel⟩, List.mem_of_getElem? (i := 176) (by decide +kernel), List.mem_of_getElem? (i := 796) (by decide +kernel), List.mem_of_getElem? (i := 797) (by decide +kernel)⟩
theorem lw_p28 : lw_okq (⟨"PageMachine$LoadsAndStores", "endLink", "()I"⟩, 3) := ⟨⟨by decide +kernel, by decide +kernel⟩, List.mem_of_getElem? (i := 176) (by decide +kernel), List.mem_of_getElem? (i := 826) (by decide +kernel), List.mem_of_getElem? (i := 827) (by decide +kernel)⟩
theorem lw_p29 : lw_okq (⟨"PageMachineModel", "fail", "(I)I"⟩, 25) := ⟨⟨by decide +kernel, by decide +kernel⟩, List.mem_of_getElem? (i := 878) (by decide +kernel), List.mem_of_getElem? (i := 972) (by decide +kernel), List.mem_of_getElem? (i := 973) (by decide +kernel)⟩
theorem lw_p30 : lw_okq (⟨"PageMachineModel", "write", "(II)V"⟩, 25) := ⟨⟨by decide +kernel, by decide +kernel⟩, List.mem_of_getElem? (i := 878) (by decide +kernel), List.mem_of_getElem? (i := 991) (by decide +kernel), List.mem_of_getElem? (i := 992) (by decide +kernel)⟩
theorem lw_p31 : lw_okq (⟨"PageMachineModel", "put", "(II)V"⟩, 25) := ⟨⟨by decide +kernel, by decide +kernel⟩, List.mem_of_getElem? (i := 878) (by decide +kernel), List.mem_of_getElem? (i := 1001) (by decide +kernel), List.mem_of_getElem? (i := 1002) (by decide +kernel)⟩
def lw_privs_2 : List (MethodName × Nat) := [(⟨"PageMachine$Arithmetic", "putChecked", "(IJ)I"⟩, 1), (⟨"PageMachine$Arithmetic", "compare", "(I)I"⟩, 1), (⟨"PageMachine$Arithmetic", "trap", "(II)I"⟩, 1), (⟨"PageMachine$Processor", "performOp1", "()I"⟩, 10), (⟨"PageMachine$Branches", "branch", "(ZZ)V"⟩, 1), (⟨"PageMachine$Coprocessor", "command", "(I)I"⟩, 3), (⟨"PageMachine$Coprocessor", "readEntry", "(I)I"⟩, 3), (⟨"PageMachine$Coprocessor", "writeEntry", "(I)I"⟩, 3), (⟨"PageMachine$Coprocessor", "probe", "()I"⟩, 3), (⟨"PageMachine$Coprocessor", "leaveFault", "()I"⟩, 3), (⟨"PageMachine$Arithmetic", "hiLo", "()J"⟩, 1), (⟨"PageMachine$LoadsAndStores", "address", "()I"⟩, 3), (⟨"PageMachine$LoadsAndStores", "endLink", "()I"⟩, 3), (⟨"PageMachineModel", "fail", "(I)I"⟩, 25), (⟨"PageMachineModel", "write", "(II)V"⟩, 25), (⟨"PageMachineModel", "put", "(II)V"⟩, 25)]
theorem lw_r2 : ∀ q ∈ lw_privs_2, lw_okq q := List.forall_mem_cons.mpr ⟨lw_p16, List.forall_mem_cons.mpr ⟨lw_p17, List.forall_mem_cons.mpr ⟨lw_p18, List.forall_mem_cons.mpr ⟨lw_p19, List.forall_mem_cons.mpr ⟨lw_p20, List.forall_mem_cons.mpr ⟨lw_p21, List.forall_mem_cons.mpr ⟨lw_p22, List.forall_mem_cons.mpr ⟨lw_p23, List.forall_mem_cons.mpr ⟨lw_p24, List.forall_mem_cons.mpr ⟨lw_p25, List.forall_mem_cons.mpr ⟨lw_p26, List.forall_mem_cons.mpr ⟨lw_p27, List.forall_mem_cons.mpr ⟨lw_p28, List.forall_mem_cons.mpr ⟨lw_p29, List.forall_mem_cons.mpr ⟨lw_p30, List.forall_mem_cons.mpr ⟨lw_p31, fun _ h => absurd h List.not_mem_nil⟩⟩⟩⟩⟩⟩⟩⟩⟩⟩⟩⟩⟩⟩⟩⟩
theorem lw_p32 : lw_okq (⟨"PageMachineModel", "read", "(I)I"⟩, 25) := ⟨⟨by decide +kernel, by decide +kernel⟩, List.mem_of_getElem? (i := 878) (by decide +kernel), List.mem_of_getElem? (i := 1009) (by decide +kernel), List.mem_of_getElem? (i := 1010) (by decide +kernel)⟩
theorem lw_p33 : lw_okq (⟨"PageMachineModel", "go", "()Z"⟩, 25) := ⟨⟨by decide +kernel, by decide +kernel⟩, List.mem_of_getElem? (i := 878) (by decide +kernel), List.mem_of_getElem? (i := 1021) (by decide +kernel), List.mem_of_getElem? (i := 1022) (by decide +kernel)⟩
theorem lw_p34 : lw_okq (⟨"PageMachineModel", "isCalled", "()Z"⟩, 25) := ⟨⟨by decide +kernel, by decide +kernel⟩, List.mem_of_getElem? (i := 878) (by decide +kernel), List.mem_of_getElem? (i := 1025) (by decide +kernel), List.mem_of_getElem? (i := 1026) (by decide +kernel)⟩
theorem lw_p35 : lw_okq (⟨"PageMachineModel", "isIn", "(I)Z"⟩, 25) := ⟨⟨by decide +kernel, by decide +kernel⟩, List.mem_of_getElem? (i := 878) (by decide +kernel), List.mem_of_getElem? (i := 1029) (by decide +kernel), List.mem_of_getElem? (i := 1030) (by decide +kernel)⟩
theorem lw_p36 : lw_okq (⟨"PageMachineModel", "enter", "()V"⟩, 25) := ⟨⟨by decide +kernel, by decide +kernel⟩, List.mem_of_getElem? (i := 878) (by decide +kernel), List.mem_of_getElem? (i := 1034) (by decide +kernel), List.mem_of_getElem? (i := 1035) (by decide +kernel)⟩
theorem lw_p37 : lw_okq (⟨"PageMachineModel", "aligned", "(IIZZ)J"⟩, 25) := ⟨⟨by decide +kernel, by decide +kernel⟩, List.mem_of_getElem? (i := 878) (by decide +kernel), List.mem_of_getElem? (i := 1042) (by decide +kernel), List.mem_of_getElem? (i := 1043) (by decide +kernel)⟩
theorem lw_p38 : lw_okq (⟨"PageMachineModel", "wrong", "(II)Z"⟩, 25) := ⟨⟨by decide +kernel, by decide +kernel⟩, List.mem_of_getElem? (i := 878) (by decide +kernel), List.mem_of_getElem? (i := 1046) (by decide +kernel), List.mem_of_getElem? (i := 1047) (by decide +kernel)⟩
theorem lw_p39 : lw_okq (⟨"PageMachineModel", "physical", "(IZZ)J"⟩, 25) := ⟨⟨by decide +kernel, by decide +kernel⟩, List.mem_of_getElem? (i := 878) (by decide +kernel), List.mem_of_getElem? (i := 1051) (by decide +kernel), List.mem_of_getElem? (i := 1052) (by decide +kernel)⟩
theorem lw_p40 : lw_okq (⟨"PageMachineModel", "isUser", "()Z"⟩, 25) := ⟨⟨by decide +kernel, by decide +kernel⟩, List.mem_of_getElem? (i := 878) (by decide +kernel), List.mem_of_getElem? (i := 1056) (by decide +kernel), List.mem_of_getElem? (i := 1057) (by decide +kernel)⟩
theorem lw_p41 : lw_okq (⟨"PageMachineModel", "entryOf", "(I)I"⟩, 25) := ⟨⟨by decide +kernel, by decide +kernel⟩, List.mem_of_getElem? (i := 878) (by decide +kernel), List.mem_of_getElem? (i := 1061) (by decide +kernel), List.mem_of_getElem? (i := 1062) (by decide +kernel)⟩
theorem lw_p42 : lw_okq (⟨"PageMachineModel", "matches", "(II)Z"⟩, 25) := ⟨⟨by decide +kernel, by decide +kernel⟩, List.mem_of_getElem? (i := 878) (by decide +kernel), List.mem_of_getElem? (i := 1065) (by decide +kernel), List.mem_of_getElem? (i := 1066) (by decide +kernel)⟩
theorem lw_p43 : lw_okq (⟨"PageMachineModel", "perform", "(I)V"⟩, 25) := ⟨⟨by decide +kernel, by decide +kernel⟩, List.mem_of_getElem? (i := 878) (by decide +kernel), List.mem_of_getElem? (i := 1072) (by decide +kernel), List.mem_of_getElem? (i := 1073) (by decide +kernel)⟩
theorem lw_p44 : lw_okq (⟨"PageMachineModel", "special", "(III)V"⟩, 25) := ⟨⟨by decide +kernel, by decide +kernel⟩, List.mem_of_getElem? (i := 878) (by decide +kernel), List.mem_of_getElem? (i := 1076) (by decide +kernel), List.mem_of_getElem? (i := 1077) (by decide +kernel)⟩
theorem lw_p45 : lw_okq (⟨"PageMachineModel", "raise", "(I)I"⟩, 25) := ⟨⟨by decide +kernel, by decide +kernel⟩, List.mem_of_getElem? (i := 878) (by decide +kernel), List.mem_of_getElem? (i := 1080) (by decide +kernel), List.mem_of_getElem? (i := 1081) (by decide +kernel)⟩
theorem lw_p46 : lw_okq (⟨"PageMachineModel", "branch", "(ZIZ)V"⟩, 25) := ⟨⟨by decide +kernel, by decide +kernel⟩, List.mem_of_getElem? (i := 878) (by decide +kernel), List.mem_of_getElem? (i := 1084) (by decide +kernel), List.mem_of_getElem? (i := 1085) (by decide +kernel)⟩
theorem lw_p47 : lw_okq (⟨"PageMachineModel", "shift", "(IIII)V"⟩, 25) := ⟨⟨by decide +kernel, by decide +kernel⟩, List.mem_of_getElem? (i := 878) (by decide +kernel), List.mem_of_getElem? (i := 1088) (by decide +kernel), List.mem_of_getElem? (i := 1089) (by decide +kernel)⟩
def lw_privs_3 : List (MethodName × Nat) := [(⟨"PageMachineModel", "read", "(I)I"⟩, 25), (⟨"PageMachineModel", "go", "()Z"⟩, 25), (⟨"PageMachineModel", "isCalled", "()Z"⟩, 25), (⟨"PageMachineModel", "isIn", "(I)Z"⟩, 25), (⟨"PageMachineModel", "enter", "()V"⟩, 25), (⟨"PageMachineModel", "aligned", "(IIZZ)J"⟩, 25), (⟨"PageMachineModel", "wrong", "(II)Z"⟩, 25), (⟨"PageMachineModel", "physical", "(IZZ)J"⟩, 25), (⟨"PageMachineModel", "isUser", "()Z"⟩, 25), (⟨"PageMachineModel", "entryOf", "(I)I"⟩, 25), (⟨"PageMachineModel", "matches", "(II)Z"⟩, 25), (⟨"PageMachineModel", "perform", "(I)V"⟩, 25), (⟨"PageMachineModel", "special", "(III)V"⟩, 25), (⟨"PageMachineModel", "raise", "(I)I"⟩, 25), (⟨"PageMachineModel", "branch", "(ZIZ)V"⟩, 25), (⟨"PageMachineModel", "shift", "(IIII)V"⟩, 25)]
theorem lw_r3 : ∀ q ∈ lw_privs_3, lw_okq q := List.forall_mem_cons.mpr ⟨lw_p32, List.forall_mem_cons.mpr ⟨lw_p33, List.forall_mem_cons.mpr ⟨lw_p34, List.forall_mem_cons.mpr ⟨lw_p35, List.forall_mem_cons.mpr ⟨lw_p36, List.forall_mem_cons.mpr ⟨lw_p37, List.forall_mem_cons.mpr ⟨lw_p38, List.forall_mem_cons.mpr ⟨lw_p39, List.forall_mem_cons.mpr ⟨lw_p40, List.forall_mem_cons.mpr ⟨lw_p41, List.forall_mem_cons.mpr ⟨lw_p42, List.forall_mem_cons.mpr ⟨lw_p43, List.forall_mem_cons.mpr ⟨lw_p44, List.forall_mem_cons.mpr ⟨lw_p45, List.forall_mem_cons.mpr ⟨lw_p46, List.forall_mem_cons.mpr ⟨lw_p47, fun _ h => absurd h List.not_mem_nil⟩⟩⟩⟩⟩⟩⟩⟩⟩⟩⟩⟩⟩⟩⟩⟩
theorem lw_p48 : lw_okq (⟨"PageMachineModel", "moves", "(IIII)V"⟩, 25) := ⟨⟨by decide +kernel, by decide +kernel⟩, List.mem_of_getElem? (i := 878) (by decide +kernel), List.mem_of_getElem? (i := 1092) (by decide +kernel), List.mem_of_getElem? (i := 1093) (by decide +kernel)⟩
theorem lw_p49 : lw_okq (⟨"PageMachineModel", "divides", "(III)V"⟩, 25) := ⟨⟨by decide +kernel, by decide +kernel⟩, List.mem_of_getElem? (i := 878) (by decide +kernel), List.mem_of_getElem? (i := 1096) (by decide +kernel), List.mem_of_getElem? (i := 1097) (by decide +kernel)⟩
theorem lw_p50 : lw_okq (⟨"PageMachineModel", "setBoth", "(J)V"⟩, 25) := ⟨⟨by decide +kernel, by decide +kernel⟩, List.mem_of_getElem? (i := 878) (by decide +kernel), List.mem_of_getElem? (i := 1104) (by decide +kernel), List.mem_of_getElem? (i := 1105) (by decide +kernel)⟩
theorem lw_p51 : lw_okq (⟨"PageMachineModel", "trap", "(III)V"⟩, 25) := ⟨⟨by decide +kernel, by decide +kernel⟩, List.mem_of_getElem? (i := 878) (by decide +kernel), List.mem_of_getElem? (i := 1108) (by decide +kernel), List.mem_of_getElem? (i := 1109) (by decide +kernel)⟩
theorem lw_p52 : lw_okq (⟨"PageMachineModel", "sums", "(IIII)V"⟩, 25) := ⟨⟨by decide +kernel, by decide +kernel⟩, List.mem_of_getElem? (i := 878) (by decide +kernel), List.mem_of_getElem? (i := 1115) (by decide +kernel), List.mem_of_getElem? (i := 1116) (by decide +kernel)⟩
theorem lw_p53 : lw_okq (⟨"PageMachineModel", "byRegister", "(III)V"⟩, 25) := ⟨⟨by decide +kernel, by decide +kernel⟩, List.mem_of_getElem? (i := 878) (by decide +kernel), List.mem_of_getElem? (i := 1119) (by decide +kernel), List.mem_of_getElem? (i := 1120) (by decide +kernel)⟩
theorem lw_p54 : lw_okq (⟨"PageMachineModel", "branches", "(IIIII)V"⟩, 25) := ⟨⟨by decide +kernel, by decide +kernel⟩, List.mem_of_getElem? (i := 878) (by decide +kernel), List.mem_of_getElem? (i := 1123) (by decide +kernel), List.mem_of_getElem? (i := 1124) (by decide +kernel)⟩
theorem lw_p55 : lw_okq (⟨"PageMachineModel", "immediate", "(IIII)V"⟩, 25) := ⟨⟨by decide +kernel, by decide +kernel⟩, List.mem_of_getElem? (i := 878) (by decide +kernel), List.mem_of_getElem? (i := 1128) (by decide +kernel), List.mem_of_getElem? (i := 1129) (by decide +kernel)⟩
theorem lw_p56 : lw_okq (⟨"PageMachineModel", "system", "(IIII)V"⟩, 25) := ⟨⟨by decide +kernel, by decide +kernel⟩, List.mem_of_getElem? (i := 878) (by decide +kernel), List.mem_of_getElem? (i := 1133) (by decide +kernel), List.mem_of_getElem? (i := 1134) (by decide +kernel)⟩
theorem lw_p57 : lw_okq (⟨"PageMachineModel", "tables", "(I)V"⟩, 25) := ⟨⟨by decide +kernel, by decide +kernel⟩, List.mem_of_getElem? (i := 878) (by decide +kernel), List.mem_of_getElem? (i := 1137) (by decide +kernel), List.mem_of_getElem? (i := 1138) (by decide +kernel)⟩
theorem lw_p58 : lw_okq (⟨"PageMachineModel", "setEntry", "(I)V"⟩, 25) := ⟨⟨by decide +kernel, by decide +kernel⟩, List.mem_of_getElem? (i := 878) (by decide +kernel), List.mem_of_getElem? (i := 1141) (by decide +kernel), List.mem_of_getElem? (i := 1142) (by decide +kernel)⟩
theorem lw_p59 : lw_okq (⟨"PageMachineModel", "multiplies", "(III)V"⟩, 25) := ⟨⟨by decide +kernel, by decide +kernel⟩, List.mem_of_getElem? (i := 878) (by decide +kernel), List.mem_of_getElem? (i := 1145) (by decide +kernel), List.mem_of_getElem? (i := 1146) (by decide +kernel)⟩
theorem lw_p60 : lw_okq (⟨"PageMachineModel", "memories", "(III)V"⟩, 25) := ⟨⟨by decide +kernel, by decide +kernel⟩, List.mem_of_getElem? (i := 878) (by decide +kernel), List.mem_of_getElem? (i := 1152) (by decide +kernel), List.mem_of_getElem? (i := 1153) (by decide +kernel)⟩
theorem lw_p61 : lw_okq (⟨"PageMachineModel", "other", "(I)V"⟩, 25) := ⟨⟨by decide +kernel, by decide +kernel⟩, List.mem_of_getElem? (i := 878) (by decide +kernel), List.mem_of_getElem? (i := 1156) (by decide +kernel), List.mem_of_getElem? (i := 1157) (by decide +kernel)⟩
theorem lw_p62 : lw_okq (⟨"PageMachineModel", "partly", "(IIJ)V"⟩, 25) := ⟨⟨by decide +kernel, by decide +kernel⟩, List.mem_of_getElem? (i := 878) (by decide +kernel), List.mem_of_getElem? (i := 1160) (by decide +kernel), List.mem_of_getElem? (i := 1161) (by decide +kernel)⟩
theorem lw_p63 : lw_okq (⟨"PageMachineModel", "store", "(JII)V"⟩, 25) := ⟨⟨by decide +kernel, by decide +kernel⟩, List.mem_of_getElem? (i := 878) (by decide +kernel), List.mem_of_getElem? (i := 1164) (by decide +kernel), List.mem_of_getElem? (i := 1165) (by decide +kernel)⟩
def lw_privs_4 : List (MethodName × Nat) := [(⟨"PageMachineModel", "moves", "(IIII)V"⟩, 25), (⟨"PageMachineModel", "divides", "(III)V"⟩, 25), (⟨"PageMachineModel", "setBoth", "(J)V"⟩, 25), (⟨"PageMachineModel", "trap", "(III)V"⟩, 25), (⟨"PageMachineModel", "sums", "(IIII)V"⟩, 25), (⟨"PageMachineModel", "byRegister", "(III)V"⟩, 25), (⟨"PageMachineModel", "branches", "(IIIII)V"⟩, 25), (⟨"PageMachineModel", "immediate", "(IIII)V"⟩, 25), (⟨"PageMachineModel", "system", "(IIII)V"⟩, 25), (⟨"PageMachineModel", "tables", "(I)V"⟩, 25), (⟨"PageMachineModel", "setEntry", "(I)V"⟩, 25), (⟨"PageMachineModel", "multiplies", "(III)V"⟩, 25), (⟨"PageMachineModel", "memories", "(III)V"⟩, 25), (⟨"PageMachineModel", "other", "(I)V"⟩, 25), (⟨"PageMachineModel", "partly", "(IIJ)V"⟩, 25), (⟨"PageMachineModel", "store", "(JII)V"⟩, 25)]
theorem lw_r4 : ∀ q ∈ lw_privs_4, lw_okq q := List.forall_mem_cons.mpr ⟨lw_p48, List.forall_mem_cons.mpr ⟨lw_p49, List.forall_mem_cons.mpr ⟨lw_p50, List.forall_mem_cons.mpr ⟨lw_p51, List.forall_mem_cons.mpr ⟨lw_p52, List.forall_mem_cons.mpr ⟨lw_p53, List.forall_mem_cons.mpr ⟨lw_p54, List.forall_mem_cons.mpr ⟨lw_p55, List.forall_mem_cons.mpr ⟨lw_p56, List.forall_mem_cons.mpr ⟨lw_p57, List.forall_mem_cons.mpr ⟨lw_p58, List.forall_mem_cons.mpr ⟨lw_p59, List.forall_mem_cons.mpr ⟨lw_p60, List.forall_mem_cons.mpr ⟨lw_p61, List.forall_mem_cons.mpr ⟨lw_p62, List.forall_mem_cons.mpr ⟨lw_p63, fun _ h => absurd h List.not_mem_nil⟩⟩⟩⟩⟩⟩⟩⟩⟩⟩⟩⟩⟩⟩⟩⟩
theorem lw_p64 : lw_okq (⟨"PageMachineModel", "bytesAt", "(JI)I"⟩, 25) := ⟨⟨by decide +kernel, by decide +kernel⟩, List.mem_of_getElem? (i := 878) (by decide +kernel), List.mem_of_getElem? (i := 1168) (by decide +kernel), List.mem_of_getElem? (i := 1169) (by decide +kernel)⟩
theorem lw_p65 : lw_okq (⟨"PageMachineModel", "keep", "(IIIJ)V"⟩, 25) := ⟨⟨by decide +kernel, by decide +kernel⟩, List.mem_of_getElem? (i := 878) (by decide +kernel), List.mem_of_getElem? (i := 1172) (by decide +kernel), List.mem_of_getElem? (i := 1173) (by decide +kernel)⟩
theorem lw_p66 : lw_okq (⟨"PageMachineModel", "load", "(IIIJ)V"⟩, 25) := ⟨⟨by decide +kernel, by decide +kernel⟩, List.mem_of_getElem? (i := 878) (by decide +kernel), List.mem_of_getElem? (i := 1176) (by decide +kernel), List.mem_of_getElem? (i := 1177) (by decide +kernel)⟩
def lw_privs_5 : List (MethodName × Nat) := [(⟨"PageMachineModel", "bytesAt", "(JI)I"⟩, 25), (⟨"PageMachineModel", "keep", "(IIIJ)V"⟩, 25), (⟨"PageMachineModel", "load", "(IIIJ)V"⟩, 25)]
theorem lw_r5 : ∀ q ∈ lw_privs_5, lw_okq q := List.forall_mem_cons.mpr ⟨lw_p64, List.forall_mem_cons.mpr ⟨lw_p65, List.forall_mem_cons.mpr ⟨lw_p66, fun _ h => absurd h List.not_mem_nil⟩⟩⟩
def lw_privs : List (MethodName × Nat) := lw_privs_1 ++ (lw_privs_2 ++ (lw_privs_3 ++ (lw_privs_4 ++ (lw_privs_5))))
def lw_tbl : List Cond := k2_sels lw_privs ++ tables_1
theorem lw_privs_ok : ∀ q ∈ lw_privs, lw_okq q := by
  show ∀ q ∈ lw_privs_1 ++ (lw_privs_2 ++ (lw_privs_3 ++ (lw_privs_4 ++ (lw_privs_5)))), lw_okq q
  exact List.forall_mem_append.mpr ⟨lw_r1, List.forall_mem_append.mpr ⟨lw_r2, List.forall_mem_append.mpr ⟨lw_r3, List.forall_mem_append.mpr ⟨lw_r4, lw_r5⟩⟩⟩⟩
end
section
/-! the words of all methods: one list for all; a contract over one world picture; rows for it -/
def gt_bl : List Cond := lw_tbl.filter goodWord
theorem gt_in {w : Cond} (h : w ∈ lw_tbl) (g : goodWord w = true) : w ∈ gt_bl := List.mem_filter.mpr ⟨h, g⟩
theorem gt_good {w : Cond} (h : w ∈ gt_bl) : (w.onTables && w.keeps) = true ∨ ∃ ty, w = .arrayClass ty := good_of_word (List.mem_filter.mp h).2
abbrev mws (y : MethodName) (b : ByteArray) (n : Nat) (r : Option FieldType) : List Cond := .code y b n r :: gt_bl
abbrev rmo (f lo : Nat) : Room := { frames := f, cells := 0, slots := 0, locals := lo }
abbrev Ev : Type := va_G × (ClassId × ClassId × ClassId) × (Nat × Nat)
abbrev eT (E : Ev) : List (ClassId × FieldType) := [(E.2.1.1, .int), (E.2.1.2.1, .boolean), (E.2.1.2.2, .long)]
def wbI (j : Nat) : Int32 := ([0x0000001F, 0, 0x03FFFFFF, 0x03FFFFFF, -8388608, 0, 0x0000001F, 0, 0, -1, -7937, -1, 0x1000FF13, 0x00000300, -1] : List Int32).getD j 0
def rhI (j : Nat) : Int32 := ([1075519488, -1887830016, 1083838464, -1887764476, 1083906048, 1107296262, 1107296280] : List Int32).getD j 0
/-- the two static arrays, outside of what may change -/
def eX (E : Ev) (A : Nat → Prop) (U : State) (H : Heap) : Prop :=
  (va_Z "PageMachine$SystemRegisters" "WRITTEN_BITS" "[I" (.ref E.2.2.1) A U H ∧ va_T .int E.2.2.1 32 (fun j => .int (wbI j)) A U H) ∧
  (va_Z "PageMachine" "REFILL_HANDLER" "[I" (.ref E.2.2.2) A U H ∧ va_T .int E.2.2.2 7 (fun j => .int (rhI j)) A U H)
theorem gi_m {y : MethodName} {b : ByteArray} {n : Nat} {r : Option FieldType} (h : Cond.code y b n r ∈ gt_bl) : GoodIn gt_bl (mws y b n r) := by
  intro w hw
  rcases List.mem_cons.mp hw with rfl | h2
  · exact ⟨h, gt_good h⟩
  · exact ⟨h2, gt_good h2⟩
def KV (y : MethodName) (b : ByteArray) (n : Nat) (r : Option FieldType) (np : Nat) : Prop :=
  Cond.code y b n r ∈ gt_bl ∧ Cond.instanceMethod y ∈ gt_bl ∧ Cond.selects y.cls y y ∈ gt_bl ∧ Cond.initialized y.cls ∈ gt_bl ∧
  (y.cls ≠ "java/lang/invoke/MethodHandle" ∧ y.cls ≠ "java/lang/invoke/VarHandle" ∧ (parseMethodDescriptor y.desc).map (fun d => d.parameters.length) = some np)
def KS (y : MethodName) (b : ByteArray) (n : Nat) (r : Option FieldType) (np : Nat) : Prop :=
  Cond.code y b n r ∈ gt_bl ∧ Cond.static y ∈ gt_bl ∧ Cond.initialized y.cls ∈ gt_bl ∧
  (y.cls ≠ "java/lang/invoke/MethodHandle" ∧ y.cls ≠ "java/lang/invoke/VarHandle" ∧ (parseMethodDescriptor y.desc).map (fun d => d.parameters.length) = some np)
theorem gi_V {y : MethodName} {b : ByteArray} {n np : Nat} {r : Option FieldType} {own : String} {index : Nat} (k : KV y b n r np) (hl : Cond.methodLink own index y ∈ gt_bl) : GoodIn gt_bl (wsV own index y.cls y (mws y b n r)) := by
  obtain ⟨h, h1, h2, h3, -⟩ := k
  intro w hw
  rcases List.mem_append.mp hw with h4 | h4
  · have h5 : w = Cond.methodLink own index y ∨ w = Cond.instanceMethod y ∨ w = Cond.selects y.cls y y ∨ w = Cond.initialized y.cls := by simpa using h4
    rcases h5 with rfl | rfl | rfl | rfl
    · exact ⟨hl, gt_good hl⟩
    · exact ⟨h1, gt_good h1⟩
    · exact ⟨h2, gt_good h2⟩
    · exact ⟨h3, gt_good h3⟩
  · exact gi_m h w h4
theorem gi_S {y : MethodName} {b : ByteArray} {n np : Nat} {r : Option FieldType} {own : String} {index : Nat} (k : KS y b n r np) (hl : Cond.methodLink own index y ∈ gt_bl) : GoodIn gt_bl (va_wsS own index y (mws y b n r)) := by
  obtain ⟨h, h1, h2, -⟩ := k
  intro w hw
  rcases List.mem_append.mp hw with h4 | h4
  · have h5 : w = Cond.methodLink own index y ∨ w = Cond.static y ∨ w = Cond.initialized y.cls := by simpa using h4
    rcases h5 with rfl | rfl | rfl
    · exact ⟨hl, gt_good hl⟩
    · exact ⟨h1, gt_good h1⟩
    · exact ⟨h2, gt_good h2⟩
  · exact gi_m h w h4
/-- the statics hold on: the heap changed inside A alone, the callee may change less -/
theorem eX.at {E : Ev} {A A' : Nat → Prop} {s U : State} {H : Heap} (h : eX E A s s.heap) (hk : ∀ q : Nat, q < s.heap.size → ¬ A q → H[q]? = s.heap[q]?) (hn : ∀ q, q < s.heap.size → A' q → A q) (hvm : s.vm.Alike U.vm) : eX E A' U H := by
  obtain ⟨⟨h1, h2⟩, h3, h4⟩ := h
  have z : ∀ {C n d : String} {v : Value}, va_Z C n d v A s s.heap → va_Z C n d v A' U H := by
    intro C n d v hz
    have hz2 := hz.moved hvm
    obtain ⟨cf, kf, fi, f, a, cell, g1, g2, g3, g4, g5, g6, g7, g8⟩ := hz2
    have hlt := (Array.getElem?_eq_some_iff.mp g5).1
    exact ⟨cf, kf, fi, f, a, cell, g1, g2, g3, g4, by rw [hk a hlt g8]; exact g5, g6, g7, fun q => g8 (hn a hlt q)⟩
  have t : ∀ {ty : FieldType} {t N : Nat} {f : Nat → Value}, va_T ty t N f A s s.heap → va_T ty t N f A' U H := by
    intro ty t N f hz
    have hz2 := hz.moved hvm
    obtain ⟨cell, g1, g2, g3, g4, g5, g6, g7⟩ := hz2
    have hlt := (Array.getElem?_eq_some_iff.mp g1).1
    exact ⟨cell, by rw [hk t hlt g7]; exact g1, g2, g3, g4, g5, g6, fun q => g7 (hn t hlt q)⟩
  exact ⟨⟨z h1, t h2⟩, z h3, t h4⟩
section RB
variable (cl : List vw_C)
/-- what stands fast while a method runs -/
def Cx (E : Ev) (A : Nat → Prop) (p : Program) (s : State) (m : MethodId) (args : Array Value) (meth : Method) (c : Code) (b : ByteArray) (n : Nat) (r : Option FieldType) (own : String) : Prop :=
  p.tables.exec = Jvm.exec ∧ c.code = b ∧ c.maxLocals = n ∧ meth.sig.returnType = r ∧ meth.locks = false ∧ s.vm.findClass own = some m.cls ∧ (∀ w ∈ gt_bl, w.before args s = true) ∧ va_K E.1 cl (eT E) s ∧ eX E A s s.heap
def Wd (E : Ev) (A : Nat → Prop) (H0 H : Heap) (locs : List Loc) (ws : va_W) : Prop := va_P E.1 cl ws H ∧ va_D A ws ∧ va_S A H0 H locs ∧ ∀ q : Nat, H0.size ≤ q → A q
def rQ {S : Type} (wd : S → va_W) (E : Ev) (A : Nat → Prop) (Z : S × Option Value) : Array Value → State → Outcome → State → Prop := fun _ st oc t =>
  (oc = .returned Z.2 ∧ va_P E.1 cl (wd Z.1) t.heap ∧ va_K E.1 cl (eT E) t ∧ va_D A (wd Z.1)) ∧ va_F A st t
/-- the contract of a method that makes nothing and throws nothing: from the world of σ to that of Z.1, the answer Z.2 -/
def rC {S : Type} (l : Launch) (E : Ev) (wd : S → va_W) (y : MethodName) (b : ByteArray) (n : Nat) (r : Option FieldType) (rm : Room) (av : List Value) (σ : S) (Z : S × Option Value) : Prop :=
  ∀ sz : Nat, Met l y (mws y b n r) rm (va_Pc av (fun U => U.heap.size = sz ∧ va_P E.1 cl (wd σ) U.heap ∧ va_K E.1 cl (eT E) U ∧ va_D (fun _ => True) (wd σ) ∧ eX E (va_A (wd σ) sz) U U.heap)) (rQ cl wd E (va_A (wd σ) sz) Z) 0 0 (va_A (wd σ) sz)
variable {cl}
theorem rC.of {S : Type} {l : Launch} {E : Ev} {wd : S → va_W} {y : MethodName} {b : ByteArray} {n : Nat} {r : Option FieldType} {f lo : Nat} {av : List Value} {σ : S} {Z : S × Option Value} (hy : plainName y.cls = true) (hav : (lg_sl av).length ≤ n)
    (body : ∀ (p : Program) (e : Env) (s : State) (m : MethodId) (below : List Frame) (meth : Method) (c : Code) (A : Nat → Prop) (ls : Array Slot), Cx cl E A p s m av.toArray meth c b n r y.cls → Wd cl E A s.heap s.heap [] (wd σ) → lv_has ls n (lv_args 0 av) →
      W p l e (rmo f lo) s m av.toArray below meth c s.heap [] 0 0 (MQ below (rQ cl wd E A Z) av.toArray s 0 0 A) (F0 m 0 ls [])) : rC cl l E wd y b n r (rmo f lo) av σ Z := by
  intro sz
  refine Met.ofW (cc := b) (maxL := n) (ret := r) hy rfl ?_
  intro p e s m args below meth c s₁ B hml hv
  obtain ⟨rfl, hsz, hP, hK, hD0, hX⟩ := hv
  have hts := atoms_spec (ws := mws y b n r) B.pre
  subst hsz
  have hl := lv_entry av (n := n) hav
  rw [lg_entry_eq]
  generalize (lg_sl av ++ List.replicate (n - (lg_sl av).length) Slot.unset).toArray = ls at hl ⊢
  exact body p e s m below meth c (va_A (wd σ) s.heap.size) ls ⟨B.exec, B.bytes, hml, B.returns, B.notSynchronized, findClass_of_methodNamed B.named, fun w h => hts w (List.mem_cons_of_mem _ h), hK, hX⟩ ⟨hP, hD0.self, va_S.rf, fun q h => Or.inr h⟩ hl
variable {p : Program} {l : Launch} {e : Env} {R : Room} {s : State} {m : MethodId} {args : Array Value} {below : List Frame} {meth : Method} {c : Code} {H : Heap} {locs : List Loc} {cells slots : Nat} {Q : State → Prop}
variable {E : Ev} {A : Nat → Prop} {b : ByteArray} {n : Nat} {r : Option FieldType} {own : String} {pc : Nat} {ls : Array Slot} {rest : List Value} {a : Nat} {ws : va_W}
theorem rt_i {S : Type} {wd : S → va_W} {σ' : S} {Z : S × Option Value} {v : Int32} (hc : Cx cl E A p s m args meth c b n (some .int) own) (w : Wd cl E A s.heap H locs (wd σ')) (hdg : decode b pc = .ok (.ireturn, 1)) (hz : Z = (σ', some (.int v))) :
    W p l e R s m args below meth c H locs 0 0 (MQ below (rQ cl wd E A Z) args s 0 0 A) (F0 m pc ls [.int v]) := by
  subst hz
  exact W.iret hc.1 hc.2.1 hc.2.2.2.1 (fun t ht hW => ⟨⟨rfl, by rw [ht]; exact w.1, va_K.moved hW.alike hc.2.2.2.2.2.2.2.1, w.2.1⟩, w.2.2.1.F ht⟩) w.2.2.1.2.2 hdg hc.2.2.2.2.1
theorem rt_l {S : Type} {wd : S → va_W} {σ' : S} {Z : S × Option Value} {v : Int64} (hc : Cx cl E A p s m args meth c b n (some .long) own) (w : Wd cl E A s.heap H locs (wd σ')) (hdg : decode b pc = .ok (.lreturn, 1)) (hz : Z = (σ', some (.long v))) :
    W p l e R s m args below meth c H locs 0 0 (MQ below (rQ cl wd E A Z) args s 0 0 A) (F0 m pc ls [.long v]) := by
  subst hz
  exact W.lret hc.1 hc.2.1 hc.2.2.2.1 (fun t ht hW => ⟨⟨rfl, by rw [ht]; exact w.1, va_K.moved hW.alike hc.2.2.2.2.2.2.2.1, w.2.1⟩, w.2.2.1.F ht⟩) w.2.2.1.2.2 hdg hc.2.2.2.2.1
theorem rt_v {S : Type} {wd : S → va_W} {σ' : S} {Z : S × Option Value} (hc : Cx cl E A p s m args meth c b n none own) (w : Wd cl E A s.heap H locs (wd σ')) (hdg : decode b pc = .ok (.return_, 1)) (hz : Z = (σ', none)) :
    W p l e R s m args below meth c H locs 0 0 (MQ below (rQ cl wd E A Z) args s 0 0 A) (F0 m pc ls []) := by
  subst hz
  exact W.vret hc.1 hc.2.1 hc.2.2.2.1 (fun t ht hW => ⟨⟨rfl, by rw [ht]; exact w.1, va_K.moved hW.alike hc.2.2.2.2.2.2.2.1, w.2.1⟩, w.2.2.1.F ht⟩) w.2.2.1.2.2 hdg hc.2.2.2.2.1
/-- a Bool as the machine has it -/
def zb (x : Bool) : Int32 := if x then 1 else 0
theorem zb_n (x : Bool) : narrow .boolean (.int (zb x)) = .int (zb x) := by cases x <;> rfl
theorem zb_f (x : Bool) : fits .boolean (.int (zb x)) = true := by cases x <;> rfl
theorem zb_0 {x : Bool} : zb x = 0 ↔ x = false := by cases x <;> decide
theorem rt_z {S : Type} {wd : S → va_W} {σ' : S} {Z : S × Option Value} {v : Bool} {v' : Int32} (hc : Cx cl E A p s m args meth c b n (some .boolean) own) (w : Wd cl E A s.heap H locs (wd σ')) (hdg : decode b pc = .ok (.ireturn, 1)) (hv : v' = zb v) (hz : Z = (σ', some (.int (zb v)))) :
    W p l e R s m args below meth c H locs 0 0 (MQ below (rQ cl wd E A Z) args s 0 0 A) (F0 m pc ls [.int v']) := by
  subst hz
  subst hv
  exact W.zret hc.1 hc.2.1 hc.2.2.2.1 (zb_n v) (fun t ht hW => ⟨⟨rfl, by rw [ht]; exact w.1, va_K.moved hW.alike hc.2.2.2.2.2.2.2.1, w.2.1⟩, w.2.2.1.F ht⟩) w.2.2.1.2.2 hdg hc.2.2.2.2.1
theorem rg {C : String} {T : u_T} {N ci index : Nat} {fs : List Value} {v : Value} (hc : Cx cl E A p s m args meth c b n r own) (w : Wd cl E A s.heap H locs ws) (hin : ∀ x ∈ u_ws C T N, x ∈ gt_bl) (q0 : Nat) (he : ws[q0]? = some (a, .inr (ci, fs))) (hcl : cl[ci]? = some (C, T, N)) (k : Nat) (hk : k < N)
    (hv : fs[k]? = some v) (hl : Cond.fieldLink own index (T k).1 (T k).2.1 (T k).2.2.1 ∈ gt_bl) (hdg : decode b pc = .ok (.getfield index, 3))
    (kk : W p l e R s m args below meth c H locs cells slots Q (F0 m (pc + 3) ls (v :: rest))) : W p l e R s m args below meth c H locs cells slots Q (F0 m pc ls (.ref a :: rest)) :=
  va_get (D := E.1) hc.1 hc.2.1 hc.2.2.2.2.2.2.1 hin hc.2.2.2.2.2.1 hc.2.2.2.2.2.2.2.1 w.1 q0 he hcl k hk (hc.2.2.2.2.2.2.1 _ hl) (fun _ h => h) hv hdg kk
theorem rp {C : String} {T : u_T} {N ci index : Nat} {fs : List Value} {ty : FieldType} {v : Value} (hc : Cx cl E A p s m args meth c b n r own) (w : Wd cl E A s.heap H locs ws) (hin : ∀ x ∈ u_ws C T N, x ∈ gt_bl) (ty0 : Nat → FieldType) (hty : ∀ k, k < N → parseFieldDescriptor (T k).2.2.1 = some (ty0 k)) (hnm : ∀ a, a < N → ∀ b, b < N → a ≠ b → (T a).2.1 ≠ (T b).2.1)
    (q0 : Nat) (he : ws[q0]? = some (a, .inr (ci, fs))) (hcl : cl[ci]? = some (C, T, N)) (k : Nat) (hk : k < N) (hfin : (T k).2.2.2 = false) (hd : parseFieldDescriptor (T k).2.2.1 = some ty) (hn : narrow ty v = v) (hfit : fits ty v = true) (hlen : k < fs.length) {ws' : va_W} (hws : ws.set q0 (a, .inr (ci, fs.set k v)) = ws')
    (hl : Cond.fieldLink own index (T k).1 (T k).2.1 (T k).2.2.1 ∈ gt_bl) (hdg : decode b pc = .ok (.putfield index, 3))
    (kk : ∀ (H1 : Heap) (locs1 : List Loc), Wd cl E A s.heap H1 locs1 ws' → W p l e R s m args below meth c H1 locs1 cells slots Q (F0 m (pc + 3) ls rest)) : W p l e R s m args below meth c H locs cells slots Q (F0 m pc ls (v :: .ref a :: rest)) :=
  va_put (D := E.1) hc.1 hc.2.1 hc.2.2.2.2.2.2.1 hin ty0 hty hnm hc.2.2.2.2.2.1 hc.2.2.2.2.2.2.2.1 w.1 w.2.1 w.2.2.1 q0 he hcl k hk (hc.2.2.2.2.2.2.1 _ hl) (fun _ h => h) hfin hd hn hfit hlen hdg (fun H1 locs1 h1 h2 h3 => kk H1 locs1 ⟨by rw [← hws]; exact h1, by rw [← hws]; exact h2, h3, w.2.2.2⟩)
theorem ra {N : Nat} {f : Nat → Int32} {i : Int32} (hc : Cx cl E A p s m args meth c b n r own) (w : Wd cl E A s.heap H locs ws) (q0 : Nat) (he : ws[q0]? = some (a, .inl (E.2.1.1, N, .inl f))) (hin : vp_in i N) (hdg : decode b pc = .ok (.iaload, 1))
    (kk : W p l e R s m args below meth c H locs cells slots Q (F0 m (pc + 1) ls (.int (f i.toNatClampNeg) :: rest))) : W p l e R s m args below meth c H locs cells slots Q (F0 m pc ls (.int i :: .ref a :: rest)) :=
  va_iald (D := E.1) hc.1 hc.2.1 hc.2.2.2.2.2.2.2.1 w.1 q0 0 he rfl hin hdg kk
theorem rs {N : Nat} {f : Nat → Int32} {i x : Int32} (hc : Cx cl E A p s m args meth c b n r own) (w : Wd cl E A s.heap H locs ws) (q0 : Nat) (he : ws[q0]? = some (a, .inl (E.2.1.1, N, .inl f))) {ws' : va_W} (hws : ws.set q0 (a, .inl (E.2.1.1, N, .inl (upd f i.toNatClampNeg x))) = ws') (hin : vp_in i N) (hdg : decode b pc = .ok (.iastore, 1))
    (kk : ∀ (H1 : Heap) (locs1 : List Loc), Wd cl E A s.heap H1 locs1 ws' → W p l e R s m args below meth c H1 locs1 cells slots Q (F0 m (pc + 1) ls rest)) : W p l e R s m args below meth c H locs cells slots Q (F0 m pc ls (.int x :: .int i :: .ref a :: rest)) :=
  va_iast (D := E.1) hc.1 hc.2.1 hc.2.2.2.2.2.2.2.1 w.1 w.2.1 w.2.2.1 q0 0 he rfl hin hdg (fun H1 locs1 h1 h2 h3 => kk H1 locs1 ⟨by rw [← hws]; exact h1, by rw [← hws]; exact h2, h3, w.2.2.2⟩)
/-- arrays of booleans: the picture holds Bools -/
theorem ra_z {N : Nat} {f : Nat → Bool} {i : Int32} (hc : Cx cl E A p s m args meth c b n r own) (w : Wd cl E A s.heap H locs ws) (q0 : Nat) (he : ws[q0]? = some (a, .inl (E.2.1.2.1, N, .inl (fun j => zb (f j))))) (hin : vp_in i N) (hdg : decode b pc = .ok (.baload, 1))
    (kk : W p l e R s m args below meth c H locs cells slots Q (F0 m (pc + 1) ls (.int (zb (f i.toNatClampNeg)) :: rest))) : W p l e R s m args below meth c H locs cells slots Q (F0 m pc ls (.int i :: .ref a :: rest)) :=
  va_zald (D := E.1) hc.1 hc.2.1 hc.2.2.2.2.2.2.2.1 w.1 q0 1 he rfl hin hdg kk
def updB (f : Nat → Bool) (k : Nat) (x : Bool) : Nat → Bool := fun j => if j = k then x else f j
theorem updB_z (f : Nat → Bool) (k : Nat) (x : Bool) : upd (fun j => zb (f j)) k (vp_nar .boolean (zb x)) = fun j => zb (updB f k x j) := by
  funext j
  have hx : vp_nar .boolean (zb x) = zb x := by cases x <;> rfl
  rw [hx]
  unfold upd updB
  split <;> rfl
theorem rs_z {N : Nat} {f : Nat → Bool} {i : Int32} {x : Bool} (hc : Cx cl E A p s m args meth c b n r own) (w : Wd cl E A s.heap H locs ws) (q0 : Nat) (he : ws[q0]? = some (a, .inl (E.2.1.2.1, N, .inl (fun j => zb (f j))))) {ws' : va_W} (hws : ws.set q0 (a, .inl (E.2.1.2.1, N, .inl (fun j => zb (updB f i.toNatClampNeg x j)))) = ws') (hin : vp_in i N) (hdg : decode b pc = .ok (.bastore, 1))
    (kk : ∀ (H1 : Heap) (locs1 : List Loc), Wd cl E A s.heap H1 locs1 ws' → W p l e R s m args below meth c H1 locs1 cells slots Q (F0 m (pc + 1) ls rest)) : W p l e R s m args below meth c H locs cells slots Q (F0 m pc ls (.int (zb x) :: .int i :: .ref a :: rest)) :=
  va_zast (D := E.1) hc.1 hc.2.1 hc.2.2.2.2.2.2.2.1 w.1 w.2.1 w.2.2.1 q0 1 he rfl hin hdg (fun H1 locs1 h1 h2 h3 => kk H1 locs1 ⟨by rw [← hws, ← updB_z]; exact h1, by rw [← hws, ← updB_z]; exact h2, h3, w.2.2.2⟩)
theorem r_blind {S : Type} {wd : S → va_W} {av : List Value} {σ : S} {sz : Nat} : FrameBlind (va_Pc av (fun U => U.heap.size = sz ∧ va_P E.1 cl (wd σ) U.heap ∧ va_K E.1 cl (eT E) U ∧ va_D (fun _ => True) (wd σ) ∧ eX E (va_A (wd σ) sz) U U.heap)) := by
  intro a U g mk q
  obtain ⟨q0, q1, qP, qK, qD, qX⟩ := q
  exact ⟨q0, q1, qP, va_K.moved (u := U) (U := U.calling g mk a) (Vm.Alike.refl U.vm) qK, qD, qX.at (U := U.calling g mk a) (fun _ _ _ => rfl) (fun _ _ h => h) (Vm.Alike.refl U.vm)⟩
theorem r_pre {S : Type} {wd : S → va_W} {av : List Value} {σ : S} (hc : Cx cl E A p s m args meth c b n r own) (w : Wd cl E A s.heap H locs (wd σ)) : ∀ U : State, U.heap = H → s.WarmedH U.vm → va_Pc av (fun U => U.heap.size = H.size ∧ va_P E.1 cl (wd σ) U.heap ∧ va_K E.1 cl (eT E) U ∧ va_D (fun _ => True) (wd σ) ∧ eX E (va_A (wd σ) H.size) U U.heap) av.toArray U := by
  intro U hU hW
  refine ⟨rfl, by rw [hU], by rw [hU]; exact w.1, va_K.moved hW.alike hc.2.2.2.2.2.2.2.1, w.2.1.weaken (fun _ _ _ _ => trivial), ?_⟩
  rw [hU]
  refine hc.2.2.2.2.2.2.2.2.at w.2.2.1.2.1 (fun q _ h => ?_) hW.alike
  rcases h with ⟨k, e, h⟩ | h
  · exact w.2.1.2 k _ h
  · exact w.2.2.2 q (Nat.le_trans w.2.2.1.1 h)
theorem r_free {S : Type} {wd : S → va_W} {σ : S} (w : Wd cl E A s.heap H locs (wd σ)) : ∀ q, va_A (wd σ) H.size q → A q := by
  intro q h
  rcases h with ⟨k, e, h⟩ | h
  · exact w.2.1.2 k _ h
  · exact w.2.2.2 q (Nat.le_trans w.2.2.1.1 h)
/-- behind a call that keeps its contract -/
theorem r_call {S : Type} {wd : S → va_W} {σ : S} {Z : S × Option Value} {st0 : List Value} {a : Array Value} (w : Wd cl E A s.heap H locs (wd σ))
    (hr : va_Run p l e R s m args below meth c H locs cells slots 0 0 (F0 m pc ls st0) rest (rQ cl wd E (va_A (wd σ) H.size) Z a) (va_A (wd σ) H.size))
    (kk : ∀ (H1 : Heap) (locs1 : List Loc), Wd cl E A s.heap H1 locs1 (wd Z.1) → W p l e R s m args below meth c H1 locs1 cells slots Q (F0 m (pc + 3) ls (Z.2.toList ++ rest))) : W p l e R s m args below meth c H locs cells slots Q (F0 m pc ls st0) := by
  intro T hT X
  have hS := w.2.2.1
  have hF := r_free w
  obtain ⟨v, st₀, t, T', L, h0, X', hL, e1, e2, ⟨⟨hv, hp, hk1, hd⟩, hz, hk⟩, st⟩ := hr T hT X
  cases hv
  rw [h0] at hz hk
  have w1 : Wd cl E A s.heap T'.heap (locs ++ L) (wd Z.1) := by
    refine ⟨by rw [e1]; exact hp, hd.weaken (fun _ _ _ h => hF _ h), ⟨Nat.le_trans hS.1 (by rw [e1]; exact hz), fun q h1 h2 => by rw [e1, hk q (Nat.lt_of_lt_of_le h1 hS.1) (fun z => h2 (hF q z))]; exact hS.2.1 q h1 h2, fun q hq => ?_⟩, w.2.2.2⟩
    rcases List.mem_append.mp hq with h | h
    · exact hS.2.2 q h
    · exact hF _ (hL q h)
  obtain ⟨t2, a1, b1⟩ := kk T'.heap (locs ++ L) w1 T' rfl X'
  exact ⟨t2, st t2 a1, b1⟩
theorem cV {S : Type} {wd : S → va_W} {σ : S} {Z : S × Option Value} {y : MethodName} {b' : ByteArray} {n' f lo ci index : Nat} {r' : Option FieldType} {As st : List Value} {fs : List Value} {T : u_T} {N : Nat} (hc : Cx cl E A p s m args meth c b n r own) (w : Wd cl E A s.heap H locs (wd σ)) (hM : rC cl l E wd y b' n' r' (rmo f lo) (.ref a :: As) σ Z) (kv : KV y b' n' r' As.length)
    (hl : Cond.methodLink own index y ∈ gt_bl) (q0 : Nat) (he : (wd σ)[q0]? = some (a, .inr (ci, fs))) (hcl : cl[ci]? = some (y.cls, T, N)) (hR : f + 1 ≤ R.frames ∧ 8 + (n' + 11) + lo ≤ R.locals) (hsz : ls.size = n) (hst : st = As.reverse ++ .ref a :: rest) (hcat : (rest.map fun v => v.category).sum ≤ 8) (hf : cells ≤ R.cells ∧ slots ≤ R.slots)
    (hdg : decode b pc = .ok (.invokevirtual index, 3))
    (kk : ∀ (H1 : Heap) (locs1 : List Loc), Wd cl E A s.heap H1 locs1 (wd Z.1) → W p l e R s m args below meth c H1 locs1 cells slots Q (F0 m (pc + 3) ls (Z.2.toList ++ rest))) : W p l e R s m args below meth c H locs cells slots Q (F0 m pc ls st) := by
  subst hst
  refine r_call (a := (Value.ref a :: As).toArray) w (va_runV (As := As) (rest := rest) (C := y.cls) ⟨hc.1, hc.2.1, hc.2.2.1, hc.2.2.2.2.2.1, hc.2.2.2.2.2.2.1⟩ (hM H.size) (cwV As.length hc.2.2.2.2.2.2.1 (gi_V kv hl) rfl rfl rfl ⟨rfl, kv.2.2.2.2⟩ hR) ⟨r_blind, va_recv hc.2.2.2.2.2.2.2.1 w.1 hcl he, r_pre hc w⟩ rfl rfl hsz rfl (lv_room hcat) hdg hf) kk
theorem cS {S : Type} {wd : S → va_W} {σ : S} {Z : S × Option Value} {y : MethodName} {b' : ByteArray} {n' f lo index : Nat} {r' : Option FieldType} {As st : List Value} (hc : Cx cl E A p s m args meth c b n r own) (w : Wd cl E A s.heap H locs (wd σ)) (hM : rC cl l E wd y b' n' r' (rmo f lo) As σ Z) (kv : KS y b' n' r' As.length)
    (hl : Cond.methodLink own index y ∈ gt_bl) (hR : f + 1 ≤ R.frames ∧ 8 + (n' + 11) + lo ≤ R.locals) (hsz : ls.size = n) (hst : st = As.reverse ++ rest) (hcat : (rest.map fun v => v.category).sum ≤ 8) (hf : cells ≤ R.cells ∧ slots ≤ R.slots)
    (hdg : decode b pc = .ok (.invokestatic index, 3))
    (kk : ∀ (H1 : Heap) (locs1 : List Loc), Wd cl E A s.heap H1 locs1 (wd Z.1) → W p l e R s m args below meth c H1 locs1 cells slots Q (F0 m (pc + 3) ls (Z.2.toList ++ rest))) : W p l e R s m args below meth c H locs cells slots Q (F0 m pc ls st) := by
  subst hst
  refine r_call (a := As.toArray) w (va_runS (As := As) (rest := rest) ⟨hc.1, hc.2.1, hc.2.2.1, hc.2.2.2.2.2.1, hc.2.2.2.2.2.2.1⟩ (hM H.size) (va_cwS As.length hc.2.2.2.2.2.2.1 (gi_S kv hl) rfl rfl rfl kv.2.2.2 hR) ⟨r_blind, r_pre hc w⟩ rfl rfl hsz rfl (lv_room hcat) hdg hf) kk
end RB
end
