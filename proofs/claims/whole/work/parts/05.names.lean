def R_PM : String := "PageMachine"
def T_PM : u_T := fun k => match k with
  | 0 => ("PageMachine", "memory", "LPageMachine$Memory;", true)
  | 1 => ("PageMachine", "system", "LPageMachine$SystemRegisters;", true)
  | 2 => ("PageMachine", "tlb", "LPageMachine$Tlb;", true)
  | 3 => ("PageMachine", "space", "LPageMachine$AddressSpace;", true)
  | 4 => ("PageMachine", "core", "LPageMachine$Core;", true)
  | _ => ("PageMachine", "processor", "LPageMachine$Processor;", true)
def ty_PM : Nat → FieldType := fun k => match k with
  | 0 => .object "PageMachine$Memory"
  | 1 => .object "PageMachine$SystemRegisters"
  | 2 => .object "PageMachine$Tlb"
  | 3 => .object "PageMachine$AddressSpace"
  | 4 => .object "PageMachine$Core"
  | _ => .object "PageMachine$Processor"
theorem nm_PM : ∀ a, a < 6 → ∀ b, b < 6 → a ≠ b → (T_PM a).2.1 ≠ (T_PM b).2.1 := by decide +kernel
theorem tyok_PM : ∀ k, k < 6 → parseFieldDescriptor (T_PM k).2.2.1 = some (ty_PM k) := by decide +kernel
theorem i_PM : ∀ x ∈ u_ws "PageMachine" T_PM 6, x ∈ gt_bl := List.forall_mem_cons.mpr ⟨mw_244, List.forall_mem_cons.mpr ⟨mw_246, List.forall_mem_cons.mpr ⟨mw_248, List.forall_mem_cons.mpr ⟨mw_250, List.forall_mem_cons.mpr ⟨mw_252, List.forall_mem_cons.mpr ⟨mw_254, fun _ h => absurd h List.not_mem_nil⟩⟩⟩⟩⟩⟩
def R_ME : String := "PageMachine$Memory"
def T_ME : u_T := fun k => match k with
  | _ => ("PageMachine$Memory", "words", "[I", true)
def ty_ME : Nat → FieldType := fun k => match k with
  | _ => .array .int
theorem nm_ME : ∀ a, a < 1 → ∀ b, b < 1 → a ≠ b → (T_ME a).2.1 ≠ (T_ME b).2.1 := by decide +kernel
theorem tyok_ME : ∀ k, k < 1 → parseFieldDescriptor (T_ME k).2.2.1 = some (ty_ME k) := by decide +kernel
theorem i_ME : ∀ x ∈ u_ws "PageMachine$Memory" T_ME 1, x ∈ gt_bl := List.forall_mem_cons.mpr ⟨mw_36, fun _ h => absurd h List.not_mem_nil⟩
def R_SR : String := "PageMachine$SystemRegisters"
def T_SR : u_T := fun k => match k with
  | 0 => ("PageMachine$SystemRegisters", "values", "[I", true)
  | 1 => ("PageMachine$SystemRegisters", "lines", "I", false)
  | _ => ("PageMachine$SystemRegisters", "timerIsDue", "Z", false)
def ty_SR : Nat → FieldType := fun k => match k with
  | 0 => .array .int
  | 1 => .int
  | _ => .boolean
theorem nm_SR : ∀ a, a < 3 → ∀ b, b < 3 → a ≠ b → (T_SR a).2.1 ≠ (T_SR b).2.1 := by decide +kernel
theorem tyok_SR : ∀ k, k < 3 → parseFieldDescriptor (T_SR k).2.2.1 = some (ty_SR k) := by decide +kernel
theorem i_SR : ∀ x ∈ u_ws "PageMachine$SystemRegisters" T_SR 3, x ∈ gt_bl := List.forall_mem_cons.mpr ⟨mw_50, List.forall_mem_cons.mpr ⟨mw_52, List.forall_mem_cons.mpr ⟨mw_54, fun _ h => absurd h List.not_mem_nil⟩⟩⟩
def R_TL : String := "PageMachine$Tlb"
def T_TL : u_T := fun k => match k with
  | 0 => ("PageMachine$Tlb", "pages", "[I", true)
  | 1 => ("PageMachine$Tlb", "asids", "[I", true)
  | 2 => ("PageMachine$Tlb", "globals", "[I", true)
  | 3 => ("PageMachine$Tlb", "evenHalves", "[I", true)
  | _ => ("PageMachine$Tlb", "oddHalves", "[I", true)
def ty_TL : Nat → FieldType := fun k => match k with
  | 0 => .array .int
  | 1 => .array .int
  | 2 => .array .int
  | 3 => .array .int
  | _ => .array .int
theorem nm_TL : ∀ a, a < 5 → ∀ b, b < 5 → a ≠ b → (T_TL a).2.1 ≠ (T_TL b).2.1 := by decide +kernel
theorem tyok_TL : ∀ k, k < 5 → parseFieldDescriptor (T_TL k).2.2.1 = some (ty_TL k) := by decide +kernel
theorem i_TL : ∀ x ∈ u_ws "PageMachine$Tlb" T_TL 5, x ∈ gt_bl := List.forall_mem_cons.mpr ⟨mw_68, List.forall_mem_cons.mpr ⟨mw_70, List.forall_mem_cons.mpr ⟨mw_72, List.forall_mem_cons.mpr ⟨mw_74, List.forall_mem_cons.mpr ⟨mw_76, fun _ h => absurd h List.not_mem_nil⟩⟩⟩⟩⟩
def R_AS : String := "PageMachine$AddressSpace"
def T_AS : u_T := fun k => match k with
  | 0 => ("PageMachine$AddressSpace", "memory", "LPageMachine$Memory;", true)
  | 1 => ("PageMachine$AddressSpace", "system", "LPageMachine$SystemRegisters;", true)
  | 2 => ("PageMachine$AddressSpace", "tlb", "LPageMachine$Tlb;", true)
  | _ => ("PageMachine$AddressSpace", "asked", "I", false)
def ty_AS : Nat → FieldType := fun k => match k with
  | 0 => .object "PageMachine$Memory"
  | 1 => .object "PageMachine$SystemRegisters"
  | 2 => .object "PageMachine$Tlb"
  | _ => .int
theorem nm_AS : ∀ a, a < 4 → ∀ b, b < 4 → a ≠ b → (T_AS a).2.1 ≠ (T_AS b).2.1 := by decide +kernel
theorem tyok_AS : ∀ k, k < 4 → parseFieldDescriptor (T_AS k).2.2.1 = some (ty_AS k) := by decide +kernel
theorem i_AS : ∀ x ∈ u_ws "PageMachine$AddressSpace" T_AS 4, x ∈ gt_bl := List.forall_mem_cons.mpr ⟨mw_89, List.forall_mem_cons.mpr ⟨mw_91, List.forall_mem_cons.mpr ⟨mw_93, List.forall_mem_cons.mpr ⟨mw_95, fun _ h => absurd h List.not_mem_nil⟩⟩⟩⟩
def R_CO : String := "PageMachine$Core"
def T_CO : u_T := fun k => match k with
  | 0 => ("PageMachine$Core", "hi", "I", false)
  | 1 => ("PageMachine$Core", "lo", "I", false)
  | 2 => ("PageMachine$Core", "pc", "I", false)
  | 3 => ("PageMachine$Core", "link", "I", false)
  | 4 => ("PageMachine$Core", "inDelaySlot", "Z", false)
  | 5 => ("PageMachine$Core", "registers", "[I", true)
  | 6 => ("PageMachine$Core", "behindSlot", "I", false)
  | 7 => ("PageMachine$Core", "instruction", "I", false)
  | 8 => ("PageMachine$Core", "nextPc", "I", false)
  | _ => ("PageMachine$Core", "nextInDelaySlot", "Z", false)
def ty_CO : Nat → FieldType := fun k => match k with
  | 0 => .int
  | 1 => .int
  | 2 => .int
  | 3 => .int
  | 4 => .boolean
  | 5 => .array .int
  | 6 => .int
  | 7 => .int
  | 8 => .int
  | _ => .boolean
theorem nm_CO : ∀ a, a < 10 → ∀ b, b < 10 → a ≠ b → (T_CO a).2.1 ≠ (T_CO b).2.1 := by decide +kernel
theorem tyok_CO : ∀ k, k < 10 → parseFieldDescriptor (T_CO k).2.2.1 = some (ty_CO k) := by decide +kernel
theorem i_CO : ∀ x ∈ u_ws "PageMachine$Core" T_CO 10, x ∈ gt_bl := List.forall_mem_cons.mpr ⟨mw_128, List.forall_mem_cons.mpr ⟨mw_130, List.forall_mem_cons.mpr ⟨mw_132, List.forall_mem_cons.mpr ⟨mw_134, List.forall_mem_cons.mpr ⟨mw_136, List.forall_mem_cons.mpr ⟨mw_138, List.forall_mem_cons.mpr ⟨mw_140, List.forall_mem_cons.mpr ⟨mw_142, List.forall_mem_cons.mpr ⟨mw_144, List.forall_mem_cons.mpr ⟨mw_146, fun _ h => absurd h List.not_mem_nil⟩⟩⟩⟩⟩⟩⟩⟩⟩⟩
def R_PR : String := "PageMachine$Processor"
def T_PR : u_T := fun k => match k with
  | 0 => ("PageMachine$Processor", "core", "LPageMachine$Core;", true)
  | 1 => ("PageMachine$Processor", "memory", "LPageMachine$Memory;", true)
  | 2 => ("PageMachine$Processor", "system", "LPageMachine$SystemRegisters;", true)
  | 3 => ("PageMachine$Processor", "space", "LPageMachine$AddressSpace;", true)
  | 4 => ("PageMachine$Processor", "arithmetic", "LPageMachine$Arithmetic;", true)
  | 5 => ("PageMachine$Processor", "branches", "LPageMachine$Branches;", true)
  | 6 => ("PageMachine$Processor", "loadsAndStores", "LPageMachine$LoadsAndStores;", true)
  | 7 => ("PageMachine$Processor", "coprocessor", "LPageMachine$Coprocessor;", true)
  | 8 => ("PageMachine$Processor", "faultsByCode", "[I", true)
  | _ => ("PageMachine$Processor", "stepsDone", "I", false)
def ty_PR : Nat → FieldType := fun k => match k with
  | 0 => .object "PageMachine$Core"
  | 1 => .object "PageMachine$Memory"
  | 2 => .object "PageMachine$SystemRegisters"
  | 3 => .object "PageMachine$AddressSpace"
  | 4 => .object "PageMachine$Arithmetic"
  | 5 => .object "PageMachine$Branches"
  | 6 => .object "PageMachine$LoadsAndStores"
  | 7 => .object "PageMachine$Coprocessor"
  | 8 => .array .int
  | _ => .int
theorem nm_PR : ∀ a, a < 10 → ∀ b, b < 10 → a ≠ b → (T_PR a).2.1 ≠ (T_PR b).2.1 := by decide +kernel
theorem tyok_PR : ∀ k, k < 10 → parseFieldDescriptor (T_PR k).2.2.1 = some (ty_PR k) := by decide +kernel
theorem i_PR : ∀ x ∈ u_ws "PageMachine$Processor" T_PR 10, x ∈ gt_bl := List.forall_mem_cons.mpr ⟨mw_217, List.forall_mem_cons.mpr ⟨mw_219, List.forall_mem_cons.mpr ⟨mw_221, List.forall_mem_cons.mpr ⟨mw_223, List.forall_mem_cons.mpr ⟨mw_225, List.forall_mem_cons.mpr ⟨mw_227, List.forall_mem_cons.mpr ⟨mw_229, List.forall_mem_cons.mpr ⟨mw_231, List.forall_mem_cons.mpr ⟨mw_233, List.forall_mem_cons.mpr ⟨mw_235, fun _ h => absurd h List.not_mem_nil⟩⟩⟩⟩⟩⟩⟩⟩⟩⟩
def R_AR : String := "PageMachine$Arithmetic"
def T_AR : u_T := fun k => match k with
  | _ => ("PageMachine$Arithmetic", "core", "LPageMachine$Core;", true)
def ty_AR : Nat → FieldType := fun k => match k with
  | _ => .object "PageMachine$Core"
theorem nm_AR : ∀ a, a < 1 → ∀ b, b < 1 → a ≠ b → (T_AR a).2.1 ≠ (T_AR b).2.1 := by decide +kernel
theorem tyok_AR : ∀ k, k < 1 → parseFieldDescriptor (T_AR k).2.2.1 = some (ty_AR k) := by decide +kernel
theorem i_AR : ∀ x ∈ u_ws "PageMachine$Arithmetic" T_AR 1, x ∈ gt_bl := List.forall_mem_cons.mpr ⟨mw_162, fun _ h => absurd h List.not_mem_nil⟩
def R_BR : String := "PageMachine$Branches"
def T_BR : u_T := fun k => match k with
  | _ => ("PageMachine$Branches", "core", "LPageMachine$Core;", true)
def ty_BR : Nat → FieldType := fun k => match k with
  | _ => .object "PageMachine$Core"
theorem nm_BR : ∀ a, a < 1 → ∀ b, b < 1 → a ≠ b → (T_BR a).2.1 ≠ (T_BR b).2.1 := by decide +kernel
theorem tyok_BR : ∀ k, k < 1 → parseFieldDescriptor (T_BR k).2.2.1 = some (ty_BR k) := by decide +kernel
theorem i_BR : ∀ x ∈ u_ws "PageMachine$Branches" T_BR 1, x ∈ gt_bl := List.forall_mem_cons.mpr ⟨mw_172, fun _ h => absurd h List.not_mem_nil⟩
def R_LS : String := "PageMachine$LoadsAndStores"
def T_LS : u_T := fun k => match k with
  | 0 => ("PageMachine$LoadsAndStores", "core", "LPageMachine$Core;", true)
  | 1 => ("PageMachine$LoadsAndStores", "memory", "LPageMachine$Memory;", true)
  | _ => ("PageMachine$LoadsAndStores", "space", "LPageMachine$AddressSpace;", true)
def ty_LS : Nat → FieldType := fun k => match k with
  | 0 => .object "PageMachine$Core"
  | 1 => .object "PageMachine$Memory"
  | _ => .object "PageMachine$AddressSpace"
theorem nm_LS : ∀ a, a < 3 → ∀ b, b < 3 → a ≠ b → (T_LS a).2.1 ≠ (T_LS b).2.1 := by decide +kernel
theorem tyok_LS : ∀ k, k < 3 → parseFieldDescriptor (T_LS k).2.2.1 = some (ty_LS k) := by decide +kernel
theorem i_LS : ∀ x ∈ u_ws "PageMachine$LoadsAndStores" T_LS 3, x ∈ gt_bl := List.forall_mem_cons.mpr ⟨mw_184, List.forall_mem_cons.mpr ⟨mw_186, List.forall_mem_cons.mpr ⟨mw_188, fun _ h => absurd h List.not_mem_nil⟩⟩⟩
def R_CP : String := "PageMachine$Coprocessor"
def T_CP : u_T := fun k => match k with
  | 0 => ("PageMachine$Coprocessor", "core", "LPageMachine$Core;", true)
  | 1 => ("PageMachine$Coprocessor", "system", "LPageMachine$SystemRegisters;", true)
  | _ => ("PageMachine$Coprocessor", "tlb", "LPageMachine$Tlb;", true)
def ty_CP : Nat → FieldType := fun k => match k with
  | 0 => .object "PageMachine$Core"
  | 1 => .object "PageMachine$SystemRegisters"
  | _ => .object "PageMachine$Tlb"
theorem nm_CP : ∀ a, a < 3 → ∀ b, b < 3 → a ≠ b → (T_CP a).2.1 ≠ (T_CP b).2.1 := by decide +kernel
theorem tyok_CP : ∀ k, k < 3 → parseFieldDescriptor (T_CP k).2.2.1 = some (ty_CP k) := by decide +kernel
theorem i_CP : ∀ x ∈ u_ws "PageMachine$Coprocessor" T_CP 3, x ∈ gt_bl := List.forall_mem_cons.mpr ⟨mw_200, List.forall_mem_cons.mpr ⟨mw_202, List.forall_mem_cons.mpr ⟨mw_204, fun _ h => absurd h List.not_mem_nil⟩⟩⟩
def R_MO : String := "PageMachineModel"
def T_MO : u_T := fun k => match k with
  | 0 => ("PageMachineModel", "thrown", "I", false)
  | 1 => ("PageMachineModel", "memory", "[I", true)
  | 2 => ("PageMachineModel", "\x72", "[I", true)
  | 3 => ("PageMachineModel", "hi", "I", false)
  | 4 => ("PageMachineModel", "lo", "I", false)
  | 5 => ("PageMachineModel", "pc", "I", false)
  | 6 => ("PageMachineModel", "target", "I", false)
  | 7 => ("PageMachineModel", "link", "I", false)
  | 8 => ("PageMachineModel", "slot", "Z", false)
  | 9 => ("PageMachineModel", "sys", "[I", true)
  | 10 => ("PageMachineModel", "timer", "Z", false)
  | 11 => ("PageMachineModel", "lines", "[Z", true)
  | 12 => ("PageMachineModel", "pages", "[I", true)
  | 13 => ("PageMachineModel", "spaces", "[I", true)
  | 14 => ("PageMachineModel", "all", "[Z", true)
  | 15 => ("PageMachineModel", "halves", "[I", true)
  | 16 => ("PageMachineModel", "steps", "I", false)
  | 17 => ("PageMachineModel", "faults", "[I", true)
  | 18 => ("PageMachineModel", "fault", "I", false)
  | 19 => ("PageMachineModel", "faultAt", "I", false)
  | 20 => ("PageMachineModel", "unit", "I", false)
  | 21 => ("PageMachineModel", "hasAddress", "Z", false)
  | 22 => ("PageMachineModel", "refills", "Z", false)
  | 23 => ("PageMachineModel", "next", "I", false)
  | _ => ("PageMachineModel", "nextSlot", "Z", false)
def ty_MO : Nat → FieldType := fun k => match k with
  | 0 => .int
  | 1 => .array .int
  | 2 => .array .int
  | 3 => .int
  | 4 => .int
  | 5 => .int
  | 6 => .int
  | 7 => .int
  | 8 => .boolean
  | 9 => .array .int
  | 10 => .boolean
  | 11 => .array .boolean
  | 12 => .array .int
  | 13 => .array .int
  | 14 => .array .boolean
  | 15 => .array .int
  | 16 => .int
  | 17 => .array .int
  | 18 => .int
  | 19 => .int
  | 20 => .int
  | 21 => .boolean
  | 22 => .boolean
  | 23 => .int
  | _ => .boolean
theorem nm_MO : ∀ a, a < 25 → ∀ b, b < 25 → a ≠ b → (T_MO a).2.1 ≠ (T_MO b).2.1 := by decide +kernel
theorem tyok_MO : ∀ k, k < 25 → parseFieldDescriptor (T_MO k).2.2.1 = some (ty_MO k) := by decide +kernel
theorem i_MO : ∀ x ∈ u_ws "PageMachineModel" T_MO 25, x ∈ gt_bl := List.forall_mem_cons.mpr ⟨mw_911, List.forall_mem_cons.mpr ⟨mw_913, List.forall_mem_cons.mpr ⟨mw_915, List.forall_mem_cons.mpr ⟨mw_917, List.forall_mem_cons.mpr ⟨mw_919, List.forall_mem_cons.mpr ⟨mw_921, List.forall_mem_cons.mpr ⟨mw_923, List.forall_mem_cons.mpr ⟨mw_925, List.forall_mem_cons.mpr ⟨mw_927, List.forall_mem_cons.mpr ⟨mw_929, List.forall_mem_cons.mpr ⟨mw_931, List.forall_mem_cons.mpr ⟨mw_933, List.forall_mem_cons.mpr ⟨mw_935, List.forall_mem_cons.mpr ⟨mw_937, List.forall_mem_cons.mpr ⟨mw_939, List.forall_mem_cons.mpr ⟨mw_941, List.forall_mem_cons.mpr ⟨mw_943, List.forall_mem_cons.mpr ⟨mw_945, List.forall_mem_cons.mpr ⟨mw_947, List.forall_mem_cons.mpr ⟨mw_949, List.forall_mem_cons.mpr ⟨mw_951, List.forall_mem_cons.mpr ⟨mw_953, List.forall_mem_cons.mpr ⟨mw_955, List.forall_mem_cons.mpr ⟨mw_957, List.forall_mem_cons.mpr ⟨mw_959, fun _ h => absurd h List.not_mem_nil⟩⟩⟩⟩⟩⟩⟩⟩⟩⟩⟩⟩⟩⟩⟩⟩⟩⟩⟩⟩⟩⟩⟩⟩⟩
abbrev xCl : List vw_C := [("PageMachine", T_PM, 6), ("PageMachine$Memory", T_ME, 1), ("PageMachine$SystemRegisters", T_SR, 3), ("PageMachine$Tlb", T_TL, 5), ("PageMachine$AddressSpace", T_AS, 4), ("PageMachine$Core", T_CO, 10), ("PageMachine$Processor", T_PR, 10), ("PageMachine$Arithmetic", T_AR, 1), ("PageMachine$Branches", T_BR, 1), ("PageMachine$LoadsAndStores", T_LS, 3), ("PageMachine$Coprocessor", T_CP, 3), ("PageMachineModel", T_MO, 25)]
abbrev b_PM_init : ByteArray := prog_1_method_1_code
def y_PM_init : MethodName := ⟨"PageMachine", "<init>", "()V"⟩
set_option maxRecDepth 20000 in
theorem mc_PM_init : Cond.code y_PM_init b_PM_init 1 (Option.none : Option Jvm.ClassFile.FieldType) ∈ gt_bl := gt_in (List.mem_of_getElem? (i := 91) rfl) rfl
abbrev b_PM_poke : ByteArray := prog_1_method_2_code
def y_PM_poke : MethodName := ⟨"PageMachine", "poke", "(II)I"⟩
set_option maxRecDepth 20000 in
theorem mc_PM_poke : Cond.code y_PM_poke b_PM_poke 4 (Option.some Jvm.ClassFile.FieldType.int) ∈ gt_bl := gt_in (List.mem_of_getElem? (i := 346) rfl) rfl
theorem kv_PM_poke : KV y_PM_poke b_PM_poke 4 (Option.some Jvm.ClassFile.FieldType.int) 2 := ⟨mc_PM_poke, mw_277, mw_278, mw_1, by decide +kernel⟩
abbrev b_PM_peek : ByteArray := prog_1_method_3_code
def y_PM_peek : MethodName := ⟨"PageMachine", "peek", "(I)I"⟩
set_option maxRecDepth 20000 in
theorem mc_PM_peek : Cond.code y_PM_peek b_PM_peek 2 (Option.some Jvm.ClassFile.FieldType.int) ∈ gt_bl := gt_in (List.mem_of_getElem? (i := 449) rfl) rfl
theorem kv_PM_peek : KV y_PM_peek b_PM_peek 2 (Option.some Jvm.ClassFile.FieldType.int) 1 := ⟨mc_PM_peek, mw_380, mw_381, mw_1, by decide +kernel⟩
abbrev b_PM_set : ByteArray := prog_1_method_4_code
def y_PM_set : MethodName := ⟨"PageMachine", "set", "(III)V"⟩
set_option maxRecDepth 20000 in
theorem mc_PM_set : Cond.code y_PM_set b_PM_set 4 (Option.none : Option Jvm.ClassFile.FieldType) ∈ gt_bl := gt_in (List.mem_of_getElem? (i := 456) rfl) rfl
theorem kv_PM_set : KV y_PM_set b_PM_set 4 (Option.none : Option Jvm.ClassFile.FieldType) 3 := ⟨mc_PM_set, mw_387, mw_388, mw_1, by decide +kernel⟩
abbrev b_PM_get : ByteArray := prog_1_method_5_code
def y_PM_get : MethodName := ⟨"PageMachine", "get", "(II)I"⟩
set_option maxRecDepth 20000 in
theorem mc_PM_get : Cond.code y_PM_get b_PM_get 3 (Option.some Jvm.ClassFile.FieldType.int) ∈ gt_bl := gt_in (List.mem_of_getElem? (i := 481) rfl) rfl
theorem kv_PM_get : KV y_PM_get b_PM_get 3 (Option.some Jvm.ClassFile.FieldType.int) 2 := ⟨mc_PM_get, mw_412, mw_413, mw_1, by decide +kernel⟩
abbrev b_PM_line : ByteArray := prog_1_method_6_code
def y_PM_line : MethodName := ⟨"PageMachine", "line", "(IZ)Z"⟩
set_option maxRecDepth 20000 in
theorem mc_PM_line : Cond.code y_PM_line b_PM_line 3 (Option.some Jvm.ClassFile.FieldType.boolean) ∈ gt_bl := gt_in (List.mem_of_getElem? (i := 497) rfl) rfl
theorem kv_PM_line : KV y_PM_line b_PM_line 3 (Option.some Jvm.ClassFile.FieldType.boolean) 2 := ⟨mc_PM_line, mw_428, mw_429, mw_1, by decide +kernel⟩
abbrev b_PM_step : ByteArray := prog_1_method_7_code
def y_PM_step : MethodName := ⟨"PageMachine", "step", "(I)I"⟩
set_option maxRecDepth 20000 in
theorem mc_PM_step : Cond.code y_PM_step b_PM_step 4 (Option.some Jvm.ClassFile.FieldType.int) ∈ gt_bl := gt_in (List.mem_of_getElem? (i := 509) rfl) rfl
theorem kv_PM_step : KV y_PM_step b_PM_step 4 (Option.some Jvm.ClassFile.FieldType.int) 1 := ⟨mc_PM_step, mw_440, mw_441, mw_1, by decide +kernel⟩
abbrev b_PM_entry : ByteArray := prog_1_method_8_code
def y_PM_entry : MethodName := ⟨"PageMachine", "entry", "(II)I"⟩
set_option maxRecDepth 20000 in
theorem mc_PM_entry : Cond.code y_PM_entry b_PM_entry 3 (Option.some Jvm.ClassFile.FieldType.int) ∈ gt_bl := gt_in (List.mem_of_getElem? (i := 910) rfl) rfl
theorem kv_PM_entry : KV y_PM_entry b_PM_entry 3 (Option.some Jvm.ClassFile.FieldType.int) 2 := ⟨mc_PM_entry, mw_841, mw_842, mw_1, by decide +kernel⟩
abbrev b_PM_translate : ByteArray := prog_1_method_9_code
def y_PM_translate : MethodName := ⟨"PageMachine", "translate", "(II)J"⟩
set_option maxRecDepth 20000 in
theorem mc_PM_translate : Cond.code y_PM_translate b_PM_translate 6 (Option.some Jvm.ClassFile.FieldType.long) ∈ gt_bl := gt_in (List.mem_of_getElem? (i := 922) rfl) rfl
theorem kv_PM_translate : KV y_PM_translate b_PM_translate 6 (Option.some Jvm.ClassFile.FieldType.long) 2 := ⟨mc_PM_translate, mw_853, mw_854, mw_1, by decide +kernel⟩
abbrev b_PM_handler : ByteArray := prog_1_method_10_code
def y_PM_handler : MethodName := ⟨"PageMachine", "handler", "()I"⟩
set_option maxRecDepth 20000 in
theorem mc_PM_handler : Cond.code y_PM_handler b_PM_handler 2 (Option.some Jvm.ClassFile.FieldType.int) ∈ gt_bl := gt_in (List.mem_of_getElem? (i := 327) rfl) rfl
theorem kv_PM_handler : KV y_PM_handler b_PM_handler 2 (Option.some Jvm.ClassFile.FieldType.int) 0 := ⟨mc_PM_handler, mw_258, mw_259, mw_1, by decide +kernel⟩
abbrev b_PM_count : ByteArray := prog_1_method_11_code
def y_PM_count : MethodName := ⟨"PageMachine", "count", "(I)I"⟩
set_option maxRecDepth 20000 in
theorem mc_PM_count : Cond.code y_PM_count b_PM_count 2 (Option.some Jvm.ClassFile.FieldType.int) ∈ gt_bl := gt_in (List.mem_of_getElem? (i := 934) rfl) rfl
theorem kv_PM_count : KV y_PM_count b_PM_count 2 (Option.some Jvm.ClassFile.FieldType.int) 1 := ⟨mc_PM_count, mw_865, mw_866, mw_1, by decide +kernel⟩
abbrev b_PM_checkWordAddress : ByteArray := prog_1_method_12_code
def y_PM_checkWordAddress : MethodName := ⟨"PageMachine", "checkWordAddress", "(I)V"⟩
set_option maxRecDepth 20000 in
theorem mc_PM_checkWordAddress : Cond.code y_PM_checkWordAddress b_PM_checkWordAddress 2 (Option.none : Option Jvm.ClassFile.FieldType) ∈ gt_bl := gt_in (List.mem_of_getElem? (i := 350) rfl) rfl
theorem kv_PM_checkWordAddress : KV y_PM_checkWordAddress b_PM_checkWordAddress 2 (Option.none : Option Jvm.ClassFile.FieldType) 1 := ⟨mc_PM_checkWordAddress, mw_282, mp_0, mw_1, by decide +kernel⟩
abbrev b_PM_checkRegister : ByteArray := prog_1_method_13_code
def y_PM_checkRegister : MethodName := ⟨"PageMachine", "checkRegister", "(II)V"⟩
set_option maxRecDepth 20000 in
theorem mc_PM_checkRegister : Cond.code y_PM_checkRegister b_PM_checkRegister 3 (Option.none : Option Jvm.ClassFile.FieldType) ∈ gt_bl := gt_in (List.mem_of_getElem? (i := 459) rfl) rfl
theorem ks_PM_checkRegister : KS y_PM_checkRegister b_PM_checkRegister 3 (Option.none : Option Jvm.ClassFile.FieldType) 2 := ⟨mc_PM_checkRegister, mw_391, mw_1, by decide +kernel⟩
abbrev b_MO_init : ByteArray := prog_14_method_1_code
def y_MO_init : MethodName := ⟨"PageMachineModel", "<init>", "()V"⟩
set_option maxRecDepth 20000 in
theorem mc_MO_init : Cond.code y_MO_init b_MO_init 1 (Option.none : Option Jvm.ClassFile.FieldType) ∈ gt_bl := gt_in (List.mem_of_getElem? (i := 948) rfl) rfl
abbrev b_MO_thrown : ByteArray := prog_14_method_2_code
def y_MO_thrown : MethodName := ⟨"PageMachineModel", "thrown", "()I"⟩
set_option maxRecDepth 20000 in
theorem mc_MO_thrown : Cond.code y_MO_thrown b_MO_thrown 1 (Option.some Jvm.ClassFile.FieldType.int) ∈ gt_bl := gt_in (List.mem_of_getElem? (i := 1033) rfl) rfl
theorem kv_MO_thrown : KV y_MO_thrown b_MO_thrown 1 (Option.some Jvm.ClassFile.FieldType.int) 0 := ⟨mc_MO_thrown, mw_964, mw_965, mw_12, by decide +kernel⟩
abbrev b_MO_fail : ByteArray := prog_14_method_3_code
def y_MO_fail : MethodName := ⟨"PageMachineModel", "fail", "(I)I"⟩
set_option maxRecDepth 20000 in
theorem mc_MO_fail : Cond.code y_MO_fail b_MO_fail 2 (Option.some Jvm.ClassFile.FieldType.int) ∈ gt_bl := gt_in (List.mem_of_getElem? (i := 1041) rfl) rfl
theorem kv_MO_fail : KV y_MO_fail b_MO_fail 2 (Option.some Jvm.ClassFile.FieldType.int) 1 := ⟨mc_MO_fail, mw_973, mp_29, mw_12, by decide +kernel⟩
abbrev b_MO_within : ByteArray := prog_14_method_4_code
def y_MO_within : MethodName := ⟨"PageMachineModel", "within", "(III)Z"⟩
set_option maxRecDepth 20000 in
theorem mc_MO_within : Cond.code y_MO_within b_MO_within 3 (Option.some Jvm.ClassFile.FieldType.boolean) ∈ gt_bl := gt_in (List.mem_of_getElem? (i := 1045) rfl) rfl
theorem ks_MO_within : KS y_MO_within b_MO_within 3 (Option.some Jvm.ClassFile.FieldType.boolean) 3 := ⟨mc_MO_within, mw_977, mw_12, by decide +kernel⟩
abbrev b_MO_poke : ByteArray := prog_14_method_5_code
def y_MO_poke : MethodName := ⟨"PageMachineModel", "poke", "(II)I"⟩
set_option maxRecDepth 20000 in
theorem mc_MO_poke : Cond.code y_MO_poke b_MO_poke 4 (Option.some Jvm.ClassFile.FieldType.int) ∈ gt_bl := gt_in (List.mem_of_getElem? (i := 1037) rfl) rfl
theorem kv_MO_poke : KV y_MO_poke b_MO_poke 4 (Option.some Jvm.ClassFile.FieldType.int) 2 := ⟨mc_MO_poke, mw_968, mw_969, mw_12, by decide +kernel⟩
abbrev b_MO_peek : ByteArray := prog_14_method_6_code
def y_MO_peek : MethodName := ⟨"PageMachineModel", "peek", "(I)I"⟩
set_option maxRecDepth 20000 in
theorem mc_MO_peek : Cond.code y_MO_peek b_MO_peek 2 (Option.some Jvm.ClassFile.FieldType.int) ∈ gt_bl := gt_in (List.mem_of_getElem? (i := 1049) rfl) rfl
theorem kv_MO_peek : KV y_MO_peek b_MO_peek 2 (Option.some Jvm.ClassFile.FieldType.int) 1 := ⟨mc_MO_peek, mw_980, mw_981, mw_12, by decide +kernel⟩
abbrev b_MO_isRegister : ByteArray := prog_14_method_7_code
def y_MO_isRegister : MethodName := ⟨"PageMachineModel", "isRegister", "(II)Z"⟩
set_option maxRecDepth 20000 in
theorem mc_MO_isRegister : Cond.code y_MO_isRegister b_MO_isRegister 2 (Option.some Jvm.ClassFile.FieldType.boolean) ∈ gt_bl := gt_in (List.mem_of_getElem? (i := 1056) rfl) rfl
theorem ks_MO_isRegister : KS y_MO_isRegister b_MO_isRegister 2 (Option.some Jvm.ClassFile.FieldType.boolean) 2 := ⟨mc_MO_isRegister, mw_988, mw_12, by decide +kernel⟩
abbrev b_MO_set : ByteArray := prog_14_method_8_code
def y_MO_set : MethodName := ⟨"PageMachineModel", "set", "(III)V"⟩
set_option maxRecDepth 20000 in
theorem mc_MO_set : Cond.code y_MO_set b_MO_set 4 (Option.none : Option Jvm.ClassFile.FieldType) ∈ gt_bl := gt_in (List.mem_of_getElem? (i := 1053) rfl) rfl
theorem kv_MO_set : KV y_MO_set b_MO_set 4 (Option.none : Option Jvm.ClassFile.FieldType) 3 := ⟨mc_MO_set, mw_984, mw_985, mw_12, by decide +kernel⟩
abbrev b_MO_get : ByteArray := prog_14_method_9_code
def y_MO_get : MethodName := ⟨"PageMachineModel", "get", "(II)I"⟩
set_option maxRecDepth 20000 in
theorem mc_MO_get : Cond.code y_MO_get b_MO_get 3 (Option.some Jvm.ClassFile.FieldType.int) ∈ gt_bl := gt_in (List.mem_of_getElem? (i := 1074) rfl) rfl
theorem kv_MO_get : KV y_MO_get b_MO_get 3 (Option.some Jvm.ClassFile.FieldType.int) 2 := ⟨mc_MO_get, mw_1005, mw_1006, mw_12, by decide +kernel⟩
abbrev b_MO_put : ByteArray := prog_14_method_10_code
def y_MO_put : MethodName := ⟨"PageMachineModel", "put", "(II)V"⟩
set_option maxRecDepth 20000 in
theorem mc_MO_put : Cond.code y_MO_put b_MO_put 3 (Option.none : Option Jvm.ClassFile.FieldType) ∈ gt_bl := gt_in (List.mem_of_getElem? (i := 1070) rfl) rfl
theorem kv_MO_put : KV y_MO_put b_MO_put 3 (Option.none : Option Jvm.ClassFile.FieldType) 2 := ⟨mc_MO_put, mw_1002, mp_31, mw_12, by decide +kernel⟩
abbrev b_MO_line : ByteArray := prog_14_method_11_code
def y_MO_line : MethodName := ⟨"PageMachineModel", "line", "(IZ)Z"⟩
set_option maxRecDepth 20000 in
theorem mc_MO_line : Cond.code y_MO_line b_MO_line 4 (Option.some Jvm.ClassFile.FieldType.boolean) ∈ gt_bl := gt_in (List.mem_of_getElem? (i := 1082) rfl) rfl
theorem kv_MO_line : KV y_MO_line b_MO_line 4 (Option.some Jvm.ClassFile.FieldType.boolean) 2 := ⟨mc_MO_line, mw_1013, mw_1014, mw_12, by decide +kernel⟩
abbrev b_MO_read : ByteArray := prog_14_method_12_code
def y_MO_read : MethodName := ⟨"PageMachineModel", "read", "(I)I"⟩
set_option maxRecDepth 20000 in
theorem mc_MO_read : Cond.code y_MO_read b_MO_read 4 (Option.some Jvm.ClassFile.FieldType.int) ∈ gt_bl := gt_in (List.mem_of_getElem? (i := 1078) rfl) rfl
theorem kv_MO_read : KV y_MO_read b_MO_read 4 (Option.some Jvm.ClassFile.FieldType.int) 1 := ⟨mc_MO_read, mw_1010, mp_32, mw_12, by decide +kernel⟩
abbrev b_MO_bitsOf : ByteArray := prog_14_method_13_code
def y_MO_bitsOf : MethodName := ⟨"PageMachineModel", "bitsOf", "(I)I"⟩
set_option maxRecDepth 20000 in
theorem mc_MO_bitsOf : Cond.code y_MO_bitsOf b_MO_bitsOf 1 (Option.some Jvm.ClassFile.FieldType.int) ∈ gt_bl := gt_in (List.mem_of_getElem? (i := 1063) rfl) rfl
theorem ks_MO_bitsOf : KS y_MO_bitsOf b_MO_bitsOf 1 (Option.some Jvm.ClassFile.FieldType.int) 1 := ⟨mc_MO_bitsOf, mw_995, mw_12, by decide +kernel⟩
abbrev b_MO_write : ByteArray := prog_14_method_14_code
def y_MO_write : MethodName := ⟨"PageMachineModel", "write", "(II)V"⟩
set_option maxRecDepth 20000 in
theorem mc_MO_write : Cond.code y_MO_write b_MO_write 4 (Option.none : Option Jvm.ClassFile.FieldType) ∈ gt_bl := gt_in (List.mem_of_getElem? (i := 1060) rfl) rfl
theorem kv_MO_write : KV y_MO_write b_MO_write 4 (Option.none : Option Jvm.ClassFile.FieldType) 2 := ⟨mc_MO_write, mw_992, mp_30, mw_12, by decide +kernel⟩
abbrev b_MO_isIn : ByteArray := prog_14_method_15_code
def y_MO_isIn : MethodName := ⟨"PageMachineModel", "isIn", "(I)Z"⟩
set_option maxRecDepth 20000 in
theorem mc_MO_isIn : Cond.code y_MO_isIn b_MO_isIn 2 (Option.some Jvm.ClassFile.FieldType.boolean) ∈ gt_bl := gt_in (List.mem_of_getElem? (i := 1098) rfl) rfl
theorem kv_MO_isIn : KV y_MO_isIn b_MO_isIn 2 (Option.some Jvm.ClassFile.FieldType.boolean) 1 := ⟨mc_MO_isIn, mw_1030, mp_35, mw_12, by decide +kernel⟩
abbrev b_MO_isUser : ByteArray := prog_14_method_16_code
def y_MO_isUser : MethodName := ⟨"PageMachineModel", "isUser", "()Z"⟩
set_option maxRecDepth 20000 in
theorem mc_MO_isUser : Cond.code y_MO_isUser b_MO_isUser 1 (Option.some Jvm.ClassFile.FieldType.boolean) ∈ gt_bl := gt_in (List.mem_of_getElem? (i := 1125) rfl) rfl
theorem kv_MO_isUser : KV y_MO_isUser b_MO_isUser 1 (Option.some Jvm.ClassFile.FieldType.boolean) 0 := ⟨mc_MO_isUser, mw_1057, mp_40, mw_12, by decide +kernel⟩
abbrev b_MO_wrong : ByteArray := prog_14_method_17_code
def y_MO_wrong : MethodName := ⟨"PageMachineModel", "wrong", "(II)Z"⟩
set_option maxRecDepth 20000 in
theorem mc_MO_wrong : Cond.code y_MO_wrong b_MO_wrong 3 (Option.some Jvm.ClassFile.FieldType.boolean) ∈ gt_bl := gt_in (List.mem_of_getElem? (i := 1115) rfl) rfl
theorem kv_MO_wrong : KV y_MO_wrong b_MO_wrong 3 (Option.some Jvm.ClassFile.FieldType.boolean) 2 := ⟨mc_MO_wrong, mw_1047, mp_38, mw_12, by decide +kernel⟩
abbrev b_MO_matches : ByteArray := prog_14_method_18_code
def y_MO_matches : MethodName := ⟨"PageMachineModel", "matches", "(II)Z"⟩
set_option maxRecDepth 20000 in
theorem mc_MO_matches : Cond.code y_MO_matches b_MO_matches 3 (Option.some Jvm.ClassFile.FieldType.boolean) ∈ gt_bl := gt_in (List.mem_of_getElem? (i := 1134) rfl) rfl
theorem kv_MO_matches : KV y_MO_matches b_MO_matches 3 (Option.some Jvm.ClassFile.FieldType.boolean) 2 := ⟨mc_MO_matches, mw_1066, mp_42, mw_12, by decide +kernel⟩
abbrev b_MO_entryOf : ByteArray := prog_14_method_19_code
def y_MO_entryOf : MethodName := ⟨"PageMachineModel", "entryOf", "(I)I"⟩
set_option maxRecDepth 20000 in
theorem mc_MO_entryOf : Cond.code y_MO_entryOf b_MO_entryOf 4 (Option.some Jvm.ClassFile.FieldType.int) ∈ gt_bl := gt_in (List.mem_of_getElem? (i := 1130) rfl) rfl
theorem kv_MO_entryOf : KV y_MO_entryOf b_MO_entryOf 4 (Option.some Jvm.ClassFile.FieldType.int) 1 := ⟨mc_MO_entryOf, mw_1062, mp_41, mw_12, by decide +kernel⟩
abbrev b_MO_physical : ByteArray := prog_14_method_20_code
def y_MO_physical : MethodName := ⟨"PageMachineModel", "physical", "(IZZ)J"⟩
set_option maxRecDepth 20000 in
theorem mc_MO_physical : Cond.code y_MO_physical b_MO_physical 9 (Option.some Jvm.ClassFile.FieldType.long) ∈ gt_bl := gt_in (List.mem_of_getElem? (i := 1120) rfl) rfl
theorem kv_MO_physical : KV y_MO_physical b_MO_physical 9 (Option.some Jvm.ClassFile.FieldType.long) 3 := ⟨mc_MO_physical, mw_1052, mp_39, mw_12, by decide +kernel⟩
abbrev b_MO_aligned : ByteArray := prog_14_method_21_code
def y_MO_aligned : MethodName := ⟨"PageMachineModel", "aligned", "(IIZZ)J"⟩
set_option maxRecDepth 20000 in
theorem mc_MO_aligned : Cond.code y_MO_aligned b_MO_aligned 5 (Option.some Jvm.ClassFile.FieldType.long) ∈ gt_bl := gt_in (List.mem_of_getElem? (i := 1111) rfl) rfl
theorem kv_MO_aligned : KV y_MO_aligned b_MO_aligned 5 (Option.some Jvm.ClassFile.FieldType.long) 4 := ⟨mc_MO_aligned, mw_1043, mp_37, mw_12, by decide +kernel⟩
abbrev b_MO_bytesAt : ByteArray := prog_14_method_22_code
def y_MO_bytesAt : MethodName := ⟨"PageMachineModel", "bytesAt", "(JI)I"⟩
set_option maxRecDepth 20000 in
theorem mc_MO_bytesAt : Cond.code y_MO_bytesAt b_MO_bytesAt 6 (Option.some Jvm.ClassFile.FieldType.int) ∈ gt_bl := gt_in (List.mem_of_getElem? (i := 1237) rfl) rfl
theorem kv_MO_bytesAt : KV y_MO_bytesAt b_MO_bytesAt 6 (Option.some Jvm.ClassFile.FieldType.int) 2 := ⟨mc_MO_bytesAt, mw_1169, mp_64, mw_12, by decide +kernel⟩
abbrev b_MO_store : ByteArray := prog_14_method_23_code
def y_MO_store : MethodName := ⟨"PageMachineModel", "store", "(JII)V"⟩
set_option maxRecDepth 20000 in
theorem mc_MO_store : Cond.code y_MO_store b_MO_store 8 (Option.none : Option Jvm.ClassFile.FieldType) ∈ gt_bl := gt_in (List.mem_of_getElem? (i := 1233) rfl) rfl
theorem kv_MO_store : KV y_MO_store b_MO_store 8 (Option.none : Option Jvm.ClassFile.FieldType) 3 := ⟨mc_MO_store, mw_1165, mp_63, mw_12, by decide +kernel⟩
abbrev b_MO_enter : ByteArray := prog_14_method_24_code
def y_MO_enter : MethodName := ⟨"PageMachineModel", "enter", "()V"⟩
set_option maxRecDepth 20000 in
theorem mc_MO_enter : Cond.code y_MO_enter b_MO_enter 2 (Option.none : Option Jvm.ClassFile.FieldType) ∈ gt_bl := gt_in (List.mem_of_getElem? (i := 1103) rfl) rfl
theorem kv_MO_enter : KV y_MO_enter b_MO_enter 2 (Option.none : Option Jvm.ClassFile.FieldType) 0 := ⟨mc_MO_enter, mw_1035, mp_36, mw_12, by decide +kernel⟩
abbrev b_MO_raise : ByteArray := prog_14_method_25_code
def y_MO_raise : MethodName := ⟨"PageMachineModel", "raise", "(I)I"⟩
set_option maxRecDepth 20000 in
theorem mc_MO_raise : Cond.code y_MO_raise b_MO_raise 2 (Option.some Jvm.ClassFile.FieldType.int) ∈ gt_bl := gt_in (List.mem_of_getElem? (i := 1149) rfl) rfl
theorem kv_MO_raise : KV y_MO_raise b_MO_raise 2 (Option.some Jvm.ClassFile.FieldType.int) 1 := ⟨mc_MO_raise, mw_1081, mp_45, mw_12, by decide +kernel⟩
abbrev b_MO_isCalled : ByteArray := prog_14_method_26_code
def y_MO_isCalled : MethodName := ⟨"PageMachineModel", "isCalled", "()Z"⟩
set_option maxRecDepth 20000 in
theorem mc_MO_isCalled : Cond.code y_MO_isCalled b_MO_isCalled 1 (Option.some Jvm.ClassFile.FieldType.boolean) ∈ gt_bl := gt_in (List.mem_of_getElem? (i := 1094) rfl) rfl
theorem kv_MO_isCalled : KV y_MO_isCalled b_MO_isCalled 1 (Option.some Jvm.ClassFile.FieldType.boolean) 0 := ⟨mc_MO_isCalled, mw_1026, mp_34, mw_12, by decide +kernel⟩
abbrev b_MO_go : ByteArray := prog_14_method_27_code
def y_MO_go : MethodName := ⟨"PageMachineModel", "go", "()Z"⟩
set_option maxRecDepth 20000 in
theorem mc_MO_go : Cond.code y_MO_go b_MO_go 4 (Option.some Jvm.ClassFile.FieldType.boolean) ∈ gt_bl := gt_in (List.mem_of_getElem? (i := 1090) rfl) rfl
theorem kv_MO_go : KV y_MO_go b_MO_go 4 (Option.some Jvm.ClassFile.FieldType.boolean) 0 := ⟨mc_MO_go, mw_1022, mp_33, mw_12, by decide +kernel⟩
abbrev b_MO_step : ByteArray := prog_14_method_28_code
def y_MO_step : MethodName := ⟨"PageMachineModel", "step", "(I)I"⟩
set_option maxRecDepth 20000 in
theorem mc_MO_step : Cond.code y_MO_step b_MO_step 4 (Option.some Jvm.ClassFile.FieldType.int) ∈ gt_bl := gt_in (List.mem_of_getElem? (i := 1086) rfl) rfl
theorem kv_MO_step : KV y_MO_step b_MO_step 4 (Option.some Jvm.ClassFile.FieldType.int) 1 := ⟨mc_MO_step, mw_1017, mw_1018, mw_12, by decide +kernel⟩
abbrev b_MO_isBelow : ByteArray := prog_14_method_29_code
def y_MO_isBelow : MethodName := ⟨"PageMachineModel", "isBelow", "(II)Z"⟩
set_option maxRecDepth 20000 in
theorem mc_MO_isBelow : Cond.code y_MO_isBelow b_MO_isBelow 2 (Option.some Jvm.ClassFile.FieldType.boolean) ∈ gt_bl := gt_in (List.mem_of_getElem? (i := 1180) rfl) rfl
theorem ks_MO_isBelow : KS y_MO_isBelow b_MO_isBelow 2 (Option.some Jvm.ClassFile.FieldType.boolean) 2 := ⟨mc_MO_isBelow, mw_1112, mw_12, by decide +kernel⟩
abbrev b_MO_perform : ByteArray := prog_14_method_30_code
def y_MO_perform : MethodName := ⟨"PageMachineModel", "perform", "(I)V"⟩
set_option maxRecDepth 20000 in
theorem mc_MO_perform : Cond.code y_MO_perform b_MO_perform 8 (Option.none : Option Jvm.ClassFile.FieldType) ∈ gt_bl := gt_in (List.mem_of_getElem? (i := 1141) rfl) rfl
theorem kv_MO_perform : KV y_MO_perform b_MO_perform 8 (Option.none : Option Jvm.ClassFile.FieldType) 1 := ⟨mc_MO_perform, mw_1073, mp_43, mw_12, by decide +kernel⟩
abbrev b_MO_other : ByteArray := prog_14_method_31_code
def y_MO_other : MethodName := ⟨"PageMachineModel", "other", "(I)V"⟩
set_option maxRecDepth 20000 in
theorem mc_MO_other : Cond.code y_MO_other b_MO_other 5 (Option.none : Option Jvm.ClassFile.FieldType) ∈ gt_bl := gt_in (List.mem_of_getElem? (i := 1225) rfl) rfl
theorem kv_MO_other : KV y_MO_other b_MO_other 5 (Option.none : Option Jvm.ClassFile.FieldType) 1 := ⟨mc_MO_other, mw_1157, mp_61, mw_12, by decide +kernel⟩
abbrev b_MO_branch : ByteArray := prog_14_method_32_code
def y_MO_branch : MethodName := ⟨"PageMachineModel", "branch", "(ZIZ)V"⟩
set_option maxRecDepth 20000 in
theorem mc_MO_branch : Cond.code y_MO_branch b_MO_branch 4 (Option.none : Option Jvm.ClassFile.FieldType) ∈ gt_bl := gt_in (List.mem_of_getElem? (i := 1153) rfl) rfl
theorem kv_MO_branch : KV y_MO_branch b_MO_branch 4 (Option.none : Option Jvm.ClassFile.FieldType) 3 := ⟨mc_MO_branch, mw_1085, mp_46, mw_12, by decide +kernel⟩
abbrev b_MO_special : ByteArray := prog_14_method_33_code
def y_MO_special : MethodName := ⟨"PageMachineModel", "special", "(III)V"⟩
set_option maxRecDepth 20000 in
theorem mc_MO_special : Cond.code y_MO_special b_MO_special 7 (Option.none : Option Jvm.ClassFile.FieldType) ∈ gt_bl := gt_in (List.mem_of_getElem? (i := 1145) rfl) rfl
theorem kv_MO_special : KV y_MO_special b_MO_special 7 (Option.none : Option Jvm.ClassFile.FieldType) 3 := ⟨mc_MO_special, mw_1077, mp_44, mw_12, by decide +kernel⟩
abbrev b_MO_shift : ByteArray := prog_14_method_34_code
def y_MO_shift : MethodName := ⟨"PageMachineModel", "shift", "(IIII)V"⟩
set_option maxRecDepth 20000 in
theorem mc_MO_shift : Cond.code y_MO_shift b_MO_shift 6 (Option.none : Option Jvm.ClassFile.FieldType) ∈ gt_bl := gt_in (List.mem_of_getElem? (i := 1157) rfl) rfl
theorem kv_MO_shift : KV y_MO_shift b_MO_shift 6 (Option.none : Option Jvm.ClassFile.FieldType) 4 := ⟨mc_MO_shift, mw_1089, mp_47, mw_12, by decide +kernel⟩
abbrev b_MO_moves : ByteArray := prog_14_method_35_code
def y_MO_moves : MethodName := ⟨"PageMachineModel", "moves", "(IIII)V"⟩
set_option maxRecDepth 20000 in
theorem mc_MO_moves : Cond.code y_MO_moves b_MO_moves 5 (Option.none : Option Jvm.ClassFile.FieldType) ∈ gt_bl := gt_in (List.mem_of_getElem? (i := 1161) rfl) rfl
theorem kv_MO_moves : KV y_MO_moves b_MO_moves 5 (Option.none : Option Jvm.ClassFile.FieldType) 4 := ⟨mc_MO_moves, mw_1093, mp_48, mw_12, by decide +kernel⟩
abbrev b_MO_whole : ByteArray := prog_14_method_36_code
def y_MO_whole : MethodName := ⟨"PageMachineModel", "whole", "(IZ)J"⟩
set_option maxRecDepth 20000 in
theorem mc_MO_whole : Cond.code y_MO_whole b_MO_whole 2 (Option.some Jvm.ClassFile.FieldType.long) ∈ gt_bl := gt_in (List.mem_of_getElem? (i := 1168) rfl) rfl
theorem ks_MO_whole : KS y_MO_whole b_MO_whole 2 (Option.some Jvm.ClassFile.FieldType.long) 2 := ⟨mc_MO_whole, mw_1100, mw_12, by decide +kernel⟩
abbrev b_MO_setBoth : ByteArray := prog_14_method_37_code
def y_MO_setBoth : MethodName := ⟨"PageMachineModel", "setBoth", "(J)V"⟩
set_option maxRecDepth 20000 in
theorem mc_MO_setBoth : Cond.code y_MO_setBoth b_MO_setBoth 3 (Option.none : Option Jvm.ClassFile.FieldType) ∈ gt_bl := gt_in (List.mem_of_getElem? (i := 1173) rfl) rfl
theorem kv_MO_setBoth : KV y_MO_setBoth b_MO_setBoth 3 (Option.none : Option Jvm.ClassFile.FieldType) 1 := ⟨mc_MO_setBoth, mw_1105, mp_50, mw_12, by decide +kernel⟩
abbrev b_MO_divides : ByteArray := prog_14_method_38_code
def y_MO_divides : MethodName := ⟨"PageMachineModel", "divides", "(III)V"⟩
set_option maxRecDepth 20000 in
theorem mc_MO_divides : Cond.code y_MO_divides b_MO_divides 9 (Option.none : Option Jvm.ClassFile.FieldType) ∈ gt_bl := gt_in (List.mem_of_getElem? (i := 1165) rfl) rfl
theorem kv_MO_divides : KV y_MO_divides b_MO_divides 9 (Option.none : Option Jvm.ClassFile.FieldType) 3 := ⟨mc_MO_divides, mw_1097, mp_49, mw_12, by decide +kernel⟩
abbrev b_MO_sums : ByteArray := prog_14_method_39_code
def y_MO_sums : MethodName := ⟨"PageMachineModel", "sums", "(IIII)V"⟩
set_option maxRecDepth 20000 in
theorem mc_MO_sums : Cond.code y_MO_sums b_MO_sums 7 (Option.none : Option Jvm.ClassFile.FieldType) ∈ gt_bl := gt_in (List.mem_of_getElem? (i := 1184) rfl) rfl
theorem kv_MO_sums : KV y_MO_sums b_MO_sums 7 (Option.none : Option Jvm.ClassFile.FieldType) 4 := ⟨mc_MO_sums, mw_1116, mp_52, mw_12, by decide +kernel⟩
abbrev b_MO_trap : ByteArray := prog_14_method_40_code
def y_MO_trap : MethodName := ⟨"PageMachineModel", "trap", "(III)V"⟩
set_option maxRecDepth 20000 in
theorem mc_MO_trap : Cond.code y_MO_trap b_MO_trap 5 (Option.none : Option Jvm.ClassFile.FieldType) ∈ gt_bl := gt_in (List.mem_of_getElem? (i := 1177) rfl) rfl
theorem kv_MO_trap : KV y_MO_trap b_MO_trap 5 (Option.none : Option Jvm.ClassFile.FieldType) 3 := ⟨mc_MO_trap, mw_1109, mp_51, mw_12, by decide +kernel⟩
abbrev b_MO_byRegister : ByteArray := prog_14_method_41_code
def y_MO_byRegister : MethodName := ⟨"PageMachineModel", "byRegister", "(III)V"⟩
set_option maxRecDepth 20000 in
theorem mc_MO_byRegister : Cond.code y_MO_byRegister b_MO_byRegister 5 (Option.none : Option Jvm.ClassFile.FieldType) ∈ gt_bl := gt_in (List.mem_of_getElem? (i := 1188) rfl) rfl
theorem kv_MO_byRegister : KV y_MO_byRegister b_MO_byRegister 5 (Option.none : Option Jvm.ClassFile.FieldType) 3 := ⟨mc_MO_byRegister, mw_1120, mp_53, mw_12, by decide +kernel⟩
abbrev b_MO_branches : ByteArray := prog_14_method_42_code
def y_MO_branches : MethodName := ⟨"PageMachineModel", "branches", "(IIIII)V"⟩
set_option maxRecDepth 20000 in
theorem mc_MO_branches : Cond.code y_MO_branches b_MO_branches 8 (Option.none : Option Jvm.ClassFile.FieldType) ∈ gt_bl := gt_in (List.mem_of_getElem? (i := 1192) rfl) rfl
theorem kv_MO_branches : KV y_MO_branches b_MO_branches 8 (Option.none : Option Jvm.ClassFile.FieldType) 5 := ⟨mc_MO_branches, mw_1124, mp_54, mw_12, by decide +kernel⟩
abbrev b_MO_immediate : ByteArray := prog_14_method_43_code
def y_MO_immediate : MethodName := ⟨"PageMachineModel", "immediate", "(IIII)V"⟩
set_option maxRecDepth 20000 in
theorem mc_MO_immediate : Cond.code y_MO_immediate b_MO_immediate 9 (Option.none : Option Jvm.ClassFile.FieldType) ∈ gt_bl := gt_in (List.mem_of_getElem? (i := 1197) rfl) rfl
theorem kv_MO_immediate : KV y_MO_immediate b_MO_immediate 9 (Option.none : Option Jvm.ClassFile.FieldType) 4 := ⟨mc_MO_immediate, mw_1129, mp_55, mw_12, by decide +kernel⟩
abbrev b_MO_zeros : ByteArray := prog_14_method_44_code
def y_MO_zeros : MethodName := ⟨"PageMachineModel", "zeros", "(I)I"⟩
set_option maxRecDepth 20000 in
theorem mc_MO_zeros : Cond.code y_MO_zeros b_MO_zeros 2 (Option.some Jvm.ClassFile.FieldType.int) ∈ gt_bl := gt_in (List.mem_of_getElem? (i := 1217) rfl) rfl
theorem ks_MO_zeros : KS y_MO_zeros b_MO_zeros 2 (Option.some Jvm.ClassFile.FieldType.int) 1 := ⟨mc_MO_zeros, mw_1149, mw_12, by decide +kernel⟩
abbrev b_MO_multiplies : ByteArray := prog_14_method_45_code
def y_MO_multiplies : MethodName := ⟨"PageMachineModel", "multiplies", "(III)V"⟩
set_option maxRecDepth 20000 in
theorem mc_MO_multiplies : Cond.code y_MO_multiplies b_MO_multiplies 11 (Option.none : Option Jvm.ClassFile.FieldType) ∈ gt_bl := gt_in (List.mem_of_getElem? (i := 1214) rfl) rfl
theorem kv_MO_multiplies : KV y_MO_multiplies b_MO_multiplies 11 (Option.none : Option Jvm.ClassFile.FieldType) 3 := ⟨mc_MO_multiplies, mw_1146, mp_59, mw_12, by decide +kernel⟩
abbrev b_MO_system : ByteArray := prog_14_method_46_code
def y_MO_system : MethodName := ⟨"PageMachineModel", "system", "(IIII)V"⟩
set_option maxRecDepth 20000 in
theorem mc_MO_system : Cond.code y_MO_system b_MO_system 6 (Option.none : Option Jvm.ClassFile.FieldType) ∈ gt_bl := gt_in (List.mem_of_getElem? (i := 1202) rfl) rfl
theorem kv_MO_system : KV y_MO_system b_MO_system 6 (Option.none : Option Jvm.ClassFile.FieldType) 4 := ⟨mc_MO_system, mw_1134, mp_56, mw_12, by decide +kernel⟩
abbrev b_MO_setEntry : ByteArray := prog_14_method_47_code
def y_MO_setEntry : MethodName := ⟨"PageMachineModel", "setEntry", "(I)V"⟩
set_option maxRecDepth 20000 in
theorem mc_MO_setEntry : Cond.code y_MO_setEntry b_MO_setEntry 2 (Option.none : Option Jvm.ClassFile.FieldType) ∈ gt_bl := gt_in (List.mem_of_getElem? (i := 1210) rfl) rfl
theorem kv_MO_setEntry : KV y_MO_setEntry b_MO_setEntry 2 (Option.none : Option Jvm.ClassFile.FieldType) 1 := ⟨mc_MO_setEntry, mw_1142, mp_58, mw_12, by decide +kernel⟩
abbrev b_MO_tables : ByteArray := prog_14_method_48_code
def y_MO_tables : MethodName := ⟨"PageMachineModel", "tables", "(I)V"⟩
set_option maxRecDepth 20000 in
theorem mc_MO_tables : Cond.code y_MO_tables b_MO_tables 3 (Option.none : Option Jvm.ClassFile.FieldType) ∈ gt_bl := gt_in (List.mem_of_getElem? (i := 1206) rfl) rfl
theorem kv_MO_tables : KV y_MO_tables b_MO_tables 3 (Option.none : Option Jvm.ClassFile.FieldType) 1 := ⟨mc_MO_tables, mw_1138, mp_57, mw_12, by decide +kernel⟩
abbrev b_MO_memories : ByteArray := prog_14_method_49_code
def y_MO_memories : MethodName := ⟨"PageMachineModel", "memories", "(III)V"⟩
set_option maxRecDepth 20000 in
theorem mc_MO_memories : Cond.code y_MO_memories b_MO_memories 10 (Option.none : Option Jvm.ClassFile.FieldType) ∈ gt_bl := gt_in (List.mem_of_getElem? (i := 1221) rfl) rfl
theorem kv_MO_memories : KV y_MO_memories b_MO_memories 10 (Option.none : Option Jvm.ClassFile.FieldType) 3 := ⟨mc_MO_memories, mw_1153, mp_60, mw_12, by decide +kernel⟩
abbrev b_MO_load : ByteArray := prog_14_method_50_code
def y_MO_load : MethodName := ⟨"PageMachineModel", "load", "(IIIJ)V"⟩
set_option maxRecDepth 20000 in
theorem mc_MO_load : Cond.code y_MO_load b_MO_load 7 (Option.none : Option Jvm.ClassFile.FieldType) ∈ gt_bl := gt_in (List.mem_of_getElem? (i := 1245) rfl) rfl
theorem kv_MO_load : KV y_MO_load b_MO_load 7 (Option.none : Option Jvm.ClassFile.FieldType) 4 := ⟨mc_MO_load, mw_1177, mp_66, mw_12, by decide +kernel⟩
abbrev b_MO_keep : ByteArray := prog_14_method_51_code
def y_MO_keep : MethodName := ⟨"PageMachineModel", "keep", "(IIIJ)V"⟩
set_option maxRecDepth 20000 in
theorem mc_MO_keep : Cond.code y_MO_keep b_MO_keep 6 (Option.none : Option Jvm.ClassFile.FieldType) ∈ gt_bl := gt_in (List.mem_of_getElem? (i := 1241) rfl) rfl
theorem kv_MO_keep : KV y_MO_keep b_MO_keep 6 (Option.none : Option Jvm.ClassFile.FieldType) 4 := ⟨mc_MO_keep, mw_1173, mp_65, mw_12, by decide +kernel⟩
abbrev b_MO_partly : ByteArray := prog_14_method_52_code
def y_MO_partly : MethodName := ⟨"PageMachineModel", "partly", "(IIJ)V"⟩
set_option maxRecDepth 20000 in
theorem mc_MO_partly : Cond.code y_MO_partly b_MO_partly 12 (Option.none : Option Jvm.ClassFile.FieldType) ∈ gt_bl := gt_in (List.mem_of_getElem? (i := 1229) rfl) rfl
theorem kv_MO_partly : KV y_MO_partly b_MO_partly 12 (Option.none : Option Jvm.ClassFile.FieldType) 3 := ⟨mc_MO_partly, mw_1161, mp_62, mw_12, by decide +kernel⟩
abbrev b_MO_entry : ByteArray := prog_14_method_53_code
def y_MO_entry : MethodName := ⟨"PageMachineModel", "entry", "(II)I"⟩
set_option maxRecDepth 20000 in
theorem mc_MO_entry : Cond.code y_MO_entry b_MO_entry 3 (Option.some Jvm.ClassFile.FieldType.int) ∈ gt_bl := gt_in (List.mem_of_getElem? (i := 1249) rfl) rfl
theorem kv_MO_entry : KV y_MO_entry b_MO_entry 3 (Option.some Jvm.ClassFile.FieldType.int) 2 := ⟨mc_MO_entry, mw_1180, mw_1181, mw_12, by decide +kernel⟩
abbrev b_MO_translate : ByteArray := prog_14_method_54_code
def y_MO_translate : MethodName := ⟨"PageMachineModel", "translate", "(II)J"⟩
set_option maxRecDepth 20000 in
theorem mc_MO_translate : Cond.code y_MO_translate b_MO_translate 5 (Option.some Jvm.ClassFile.FieldType.long) ∈ gt_bl := gt_in (List.mem_of_getElem? (i := 1253) rfl) rfl
theorem kv_MO_translate : KV y_MO_translate b_MO_translate 5 (Option.some Jvm.ClassFile.FieldType.long) 2 := ⟨mc_MO_translate, mw_1184, mw_1185, mw_12, by decide +kernel⟩
abbrev b_MO_handler : ByteArray := prog_14_method_55_code
def y_MO_handler : MethodName := ⟨"PageMachineModel", "handler", "()I"⟩
set_option maxRecDepth 20000 in
theorem mc_MO_handler : Cond.code y_MO_handler b_MO_handler 1 (Option.some Jvm.ClassFile.FieldType.int) ∈ gt_bl := gt_in (List.mem_of_getElem? (i := 1258) rfl) rfl
theorem kv_MO_handler : KV y_MO_handler b_MO_handler 1 (Option.some Jvm.ClassFile.FieldType.int) 0 := ⟨mc_MO_handler, mw_1189, mw_1190, mw_12, by decide +kernel⟩
abbrev b_MO_count : ByteArray := prog_14_method_56_code
def y_MO_count : MethodName := ⟨"PageMachineModel", "count", "(I)I"⟩
set_option maxRecDepth 20000 in
theorem mc_MO_count : Cond.code y_MO_count b_MO_count 2 (Option.some Jvm.ClassFile.FieldType.int) ∈ gt_bl := gt_in (List.mem_of_getElem? (i := 1269) rfl) rfl
theorem kv_MO_count : KV y_MO_count b_MO_count 2 (Option.some Jvm.ClassFile.FieldType.int) 1 := ⟨mc_MO_count, mw_1200, mw_1201, mw_12, by decide +kernel⟩
abbrev b_AS_init : ByteArray := prog_2_method_1_code
def y_AS_init : MethodName := ⟨"PageMachine$AddressSpace", "<init>", "(LPageMachine$Memory;LPageMachine$SystemRegisters;LPageMachine$Tlb;)V"⟩
set_option maxRecDepth 20000 in
theorem mc_AS_init : Cond.code y_AS_init b_AS_init 4 (Option.none : Option Jvm.ClassFile.FieldType) ∈ gt_bl := gt_in (List.mem_of_getElem? (i := 150) rfl) rfl
abbrev b_AS_lastAsked : ByteArray := prog_2_method_2_code
def y_AS_lastAsked : MethodName := ⟨"PageMachine$AddressSpace", "lastAsked", "()I"⟩
set_option maxRecDepth 20000 in
theorem mc_AS_lastAsked : Cond.code y_AS_lastAsked b_AS_lastAsked 1 (Option.some Jvm.ClassFile.FieldType.int) ∈ gt_bl := gt_in (List.mem_of_getElem? (i := 535) rfl) rfl
theorem kv_AS_lastAsked : KV y_AS_lastAsked b_AS_lastAsked 1 (Option.some Jvm.ClassFile.FieldType.int) 0 := ⟨mc_AS_lastAsked, mw_466, mw_467, mw_5, by decide +kernel⟩
abbrev b_AS_faultIn : ByteArray := prog_2_method_3_code
def y_AS_faultIn : MethodName := ⟨"PageMachine$AddressSpace", "faultIn", "(J)I"⟩
set_option maxRecDepth 20000 in
theorem mc_AS_faultIn : Cond.code y_AS_faultIn b_AS_faultIn 2 (Option.some Jvm.ClassFile.FieldType.int) ∈ gt_bl := gt_in (List.mem_of_getElem? (i := 592) rfl) rfl
theorem ks_AS_faultIn : KS y_AS_faultIn b_AS_faultIn 2 (Option.some Jvm.ClassFile.FieldType.int) 1 := ⟨mc_AS_faultIn, mw_524, mw_5, by decide +kernel⟩
abbrev b_AS_faulty : ByteArray := prog_2_method_4_code
def y_AS_faulty : MethodName := ⟨"PageMachine$AddressSpace", "faulty", "(I)J"⟩
set_option maxRecDepth 20000 in
theorem mc_AS_faulty : Cond.code y_AS_faulty b_AS_faulty 1 (Option.some Jvm.ClassFile.FieldType.long) ∈ gt_bl := gt_in (List.mem_of_getElem? (i := 566) rfl) rfl
theorem ks_AS_faulty : KS y_AS_faulty b_AS_faulty 1 (Option.some Jvm.ClassFile.FieldType.long) 1 := ⟨mc_AS_faulty, mw_498, mw_5, by decide +kernel⟩
abbrev b_AS_locateAligned : ByteArray := prog_2_method_5_code
def y_AS_locateAligned : MethodName := ⟨"PageMachine$AddressSpace", "locateAligned", "(III)J"⟩
set_option maxRecDepth 20000 in
theorem mc_AS_locateAligned : Cond.code y_AS_locateAligned b_AS_locateAligned 4 (Option.some Jvm.ClassFile.FieldType.long) ∈ gt_bl := gt_in (List.mem_of_getElem? (i := 563) rfl) rfl
theorem kv_AS_locateAligned : KV y_AS_locateAligned b_AS_locateAligned 4 (Option.some Jvm.ClassFile.FieldType.long) 3 := ⟨mc_AS_locateAligned, mw_494, mw_495, mw_5, by decide +kernel⟩
abbrev b_AS_locate : ByteArray := prog_2_method_6_code
def y_AS_locate : MethodName := ⟨"PageMachine$AddressSpace", "locate", "(II)J"⟩
set_option maxRecDepth 20000 in
theorem mc_AS_locate : Cond.code y_AS_locate b_AS_locate 6 (Option.some Jvm.ClassFile.FieldType.long) ∈ gt_bl := gt_in (List.mem_of_getElem? (i := 570) rfl) rfl
theorem kv_AS_locate : KV y_AS_locate b_AS_locate 6 (Option.some Jvm.ClassFile.FieldType.long) 2 := ⟨mc_AS_locate, mw_501, mw_502, mw_5, by decide +kernel⟩
abbrev b_AS_locateMapped : ByteArray := prog_2_method_7_code
def y_AS_locateMapped : MethodName := ⟨"PageMachine$AddressSpace", "locateMapped", "(II)J"⟩
set_option maxRecDepth 20000 in
theorem mc_AS_locateMapped : Cond.code y_AS_locateMapped b_AS_locateMapped 6 (Option.some Jvm.ClassFile.FieldType.long) ∈ gt_bl := gt_in (List.mem_of_getElem? (i := 579) rfl) rfl
theorem kv_AS_locateMapped : KV y_AS_locateMapped b_AS_locateMapped 6 (Option.some Jvm.ClassFile.FieldType.long) 2 := ⟨mc_AS_locateMapped, mw_511, mp_5, mw_5, by decide +kernel⟩
abbrev b_AR_init : ByteArray := prog_3_method_1_code
def y_AR_init : MethodName := ⟨"PageMachine$Arithmetic", "<init>", "(LPageMachine$Core;)V"⟩
set_option maxRecDepth 20000 in
theorem mc_AR_init : Cond.code y_AR_init b_AR_init 2 (Option.none : Option Jvm.ClassFile.FieldType) ∈ gt_bl := gt_in (List.mem_of_getElem? (i := 226) rfl) rfl
abbrev b_AR_performOp0 : ByteArray := prog_3_method_2_code
def y_AR_performOp0 : MethodName := ⟨"PageMachine$Arithmetic", "performOp0", "()I"⟩
set_option maxRecDepth 20000 in
theorem mc_AR_performOp0 : Cond.code y_AR_performOp0 b_AR_performOp0 2 (Option.some Jvm.ClassFile.FieldType.int) ∈ gt_bl := gt_in (List.mem_of_getElem? (i := 635) rfl) rfl
theorem kv_AR_performOp0 : KV y_AR_performOp0 b_AR_performOp0 2 (Option.some Jvm.ClassFile.FieldType.int) 0 := ⟨mc_AR_performOp0, mw_566, mw_567, mw_8, by decide +kernel⟩
abbrev b_AR_shift : ByteArray := prog_3_method_3_code
def y_AR_shift : MethodName := ⟨"PageMachine$Arithmetic", "shift", "(I)I"⟩
set_option maxRecDepth 20000 in
theorem mc_AR_shift : Cond.code y_AR_shift b_AR_shift 4 (Option.some Jvm.ClassFile.FieldType.int) ∈ gt_bl := gt_in (List.mem_of_getElem? (i := 640) rfl) rfl
theorem kv_AR_shift : KV y_AR_shift b_AR_shift 4 (Option.some Jvm.ClassFile.FieldType.int) 1 := ⟨mc_AR_shift, mw_572, mp_8, mw_8, by decide +kernel⟩
abbrev b_AR_moveOrCall : ByteArray := prog_3_method_4_code
def y_AR_moveOrCall : MethodName := ⟨"PageMachine$Arithmetic", "moveOrCall", "(I)I"⟩
set_option maxRecDepth 20000 in
theorem mc_AR_moveOrCall : Cond.code y_AR_moveOrCall b_AR_moveOrCall 2 (Option.some Jvm.ClassFile.FieldType.int) ∈ gt_bl := gt_in (List.mem_of_getElem? (i := 655) rfl) rfl
theorem kv_AR_moveOrCall : KV y_AR_moveOrCall b_AR_moveOrCall 2 (Option.some Jvm.ClassFile.FieldType.int) 1 := ⟨mc_AR_moveOrCall, mw_587, mp_9, mw_8, by decide +kernel⟩
abbrev b_AR_moveHiLo : ByteArray := prog_3_method_5_code
def y_AR_moveHiLo : MethodName := ⟨"PageMachine$Arithmetic", "moveHiLo", "(I)I"⟩
set_option maxRecDepth 20000 in
theorem mc_AR_moveHiLo : Cond.code y_AR_moveHiLo b_AR_moveHiLo 2 (Option.some Jvm.ClassFile.FieldType.int) ∈ gt_bl := gt_in (List.mem_of_getElem? (i := 659) rfl) rfl
theorem kv_AR_moveHiLo : KV y_AR_moveHiLo b_AR_moveHiLo 2 (Option.some Jvm.ClassFile.FieldType.int) 1 := ⟨mc_AR_moveHiLo, mw_591, mp_10, mw_8, by decide +kernel⟩
abbrev b_AR_multiplyOrDivide : ByteArray := prog_3_method_6_code
def y_AR_multiplyOrDivide : MethodName := ⟨"PageMachine$Arithmetic", "multiplyOrDivide", "(I)I"⟩
set_option maxRecDepth 20000 in
theorem mc_AR_multiplyOrDivide : Cond.code y_AR_multiplyOrDivide b_AR_multiplyOrDivide 2 (Option.some Jvm.ClassFile.FieldType.int) ∈ gt_bl := gt_in (List.mem_of_getElem? (i := 663) rfl) rfl
theorem kv_AR_multiplyOrDivide : KV y_AR_multiplyOrDivide b_AR_multiplyOrDivide 2 (Option.some Jvm.ClassFile.FieldType.int) 1 := ⟨mc_AR_multiplyOrDivide, mw_595, mp_11, mw_8, by decide +kernel⟩
abbrev b_AR_divide : ByteArray := prog_3_method_7_code
def y_AR_divide : MethodName := ⟨"PageMachine$Arithmetic", "divide", "(JJ)I"⟩
set_option maxRecDepth 20000 in
theorem mc_AR_divide : Cond.code y_AR_divide b_AR_divide 5 (Option.some Jvm.ClassFile.FieldType.int) ∈ gt_bl := gt_in (List.mem_of_getElem? (i := 683) rfl) rfl
theorem kv_AR_divide : KV y_AR_divide b_AR_divide 5 (Option.some Jvm.ClassFile.FieldType.int) 2 := ⟨mc_AR_divide, mw_615, mp_14, mw_8, by decide +kernel⟩
abbrev b_AR_addOrCombine : ByteArray := prog_3_method_8_code
def y_AR_addOrCombine : MethodName := ⟨"PageMachine$Arithmetic", "addOrCombine", "(I)I"⟩
set_option maxRecDepth 20000 in
theorem mc_AR_addOrCombine : Cond.code y_AR_addOrCombine b_AR_addOrCombine 5 (Option.some Jvm.ClassFile.FieldType.int) ∈ gt_bl := gt_in (List.mem_of_getElem? (i := 687) rfl) rfl
theorem kv_AR_addOrCombine : KV y_AR_addOrCombine b_AR_addOrCombine 5 (Option.some Jvm.ClassFile.FieldType.int) 1 := ⟨mc_AR_addOrCombine, mw_619, mp_15, mw_8, by decide +kernel⟩
abbrev b_AR_putChecked : ByteArray := prog_3_method_9_code
def y_AR_putChecked : MethodName := ⟨"PageMachine$Arithmetic", "putChecked", "(IJ)I"⟩
set_option maxRecDepth 20000 in
theorem mc_AR_putChecked : Cond.code y_AR_putChecked b_AR_putChecked 4 (Option.some Jvm.ClassFile.FieldType.int) ∈ gt_bl := gt_in (List.mem_of_getElem? (i := 691) rfl) rfl
theorem kv_AR_putChecked : KV y_AR_putChecked b_AR_putChecked 4 (Option.some Jvm.ClassFile.FieldType.int) 2 := ⟨mc_AR_putChecked, mw_623, mp_16, mw_8, by decide +kernel⟩
abbrev b_AR_compare : ByteArray := prog_3_method_10_code
def y_AR_compare : MethodName := ⟨"PageMachine$Arithmetic", "compare", "(I)I"⟩
set_option maxRecDepth 20000 in
theorem mc_AR_compare : Cond.code y_AR_compare b_AR_compare 4 (Option.some Jvm.ClassFile.FieldType.int) ∈ gt_bl := gt_in (List.mem_of_getElem? (i := 695) rfl) rfl
theorem kv_AR_compare : KV y_AR_compare b_AR_compare 4 (Option.some Jvm.ClassFile.FieldType.int) 1 := ⟨mc_AR_compare, mw_627, mp_17, mw_8, by decide +kernel⟩
abbrev b_AR_trapImmediate : ByteArray := prog_3_method_11_code
def y_AR_trapImmediate : MethodName := ⟨"PageMachine$Arithmetic", "trapImmediate", "()I"⟩
set_option maxRecDepth 20000 in
theorem mc_AR_trapImmediate : Cond.code y_AR_trapImmediate b_AR_trapImmediate 1 (Option.some Jvm.ClassFile.FieldType.int) ∈ gt_bl := gt_in (List.mem_of_getElem? (i := 735) rfl) rfl
theorem kv_AR_trapImmediate : KV y_AR_trapImmediate b_AR_trapImmediate 1 (Option.some Jvm.ClassFile.FieldType.int) 0 := ⟨mc_AR_trapImmediate, mw_666, mw_667, mw_8, by decide +kernel⟩
abbrev b_AR_trap : ByteArray := prog_3_method_12_code
def y_AR_trap : MethodName := ⟨"PageMachine$Arithmetic", "trap", "(II)I"⟩
set_option maxRecDepth 20000 in
theorem mc_AR_trap : Cond.code y_AR_trap b_AR_trap 4 (Option.some Jvm.ClassFile.FieldType.int) ∈ gt_bl := gt_in (List.mem_of_getElem? (i := 703) rfl) rfl
theorem kv_AR_trap : KV y_AR_trap b_AR_trap 4 (Option.some Jvm.ClassFile.FieldType.int) 2 := ⟨mc_AR_trap, mw_635, mp_18, mw_8, by decide +kernel⟩
abbrev b_AR_immediate : ByteArray := prog_3_method_13_code
def y_AR_immediate : MethodName := ⟨"PageMachine$Arithmetic", "immediate", "()I"⟩
set_option maxRecDepth 20000 in
theorem mc_AR_immediate : Cond.code y_AR_immediate b_AR_immediate 5 (Option.some Jvm.ClassFile.FieldType.int) ∈ gt_bl := gt_in (List.mem_of_getElem? (i := 760) rfl) rfl
theorem kv_AR_immediate : KV y_AR_immediate b_AR_immediate 5 (Option.some Jvm.ClassFile.FieldType.int) 0 := ⟨mc_AR_immediate, mw_691, mw_692, mw_8, by decide +kernel⟩
abbrev b_AR_performOp1C : ByteArray := prog_3_method_14_code
def y_AR_performOp1C : MethodName := ⟨"PageMachine$Arithmetic", "performOp1C", "()I"⟩
set_option maxRecDepth 20000 in
theorem mc_AR_performOp1C : Cond.code y_AR_performOp1C b_AR_performOp1C 2 (Option.some Jvm.ClassFile.FieldType.int) ∈ gt_bl := gt_in (List.mem_of_getElem? (i := 848) rfl) rfl
theorem kv_AR_performOp1C : KV y_AR_performOp1C b_AR_performOp1C 2 (Option.some Jvm.ClassFile.FieldType.int) 0 := ⟨mc_AR_performOp1C, mw_779, mw_780, mw_8, by decide +kernel⟩
abbrev b_AR_hiLo : ByteArray := prog_3_method_15_code
def y_AR_hiLo : MethodName := ⟨"PageMachine$Arithmetic", "hiLo", "()J"⟩
set_option maxRecDepth 20000 in
theorem mc_AR_hiLo : Cond.code y_AR_hiLo b_AR_hiLo 1 (Option.some Jvm.ClassFile.FieldType.long) ∈ gt_bl := gt_in (List.mem_of_getElem? (i := 852) rfl) rfl
theorem kv_AR_hiLo : KV y_AR_hiLo b_AR_hiLo 1 (Option.some Jvm.ClassFile.FieldType.long) 0 := ⟨mc_AR_hiLo, mw_784, mp_26, mw_8, by decide +kernel⟩
abbrev b_AR_product : ByteArray := prog_3_method_16_code
def y_AR_product : MethodName := ⟨"PageMachine$Arithmetic", "product", "()J"⟩
set_option maxRecDepth 20000 in
theorem mc_AR_product : Cond.code y_AR_product b_AR_product 1 (Option.some Jvm.ClassFile.FieldType.long) ∈ gt_bl := gt_in (List.mem_of_getElem? (i := 667) rfl) rfl
theorem kv_AR_product : KV y_AR_product b_AR_product 1 (Option.some Jvm.ClassFile.FieldType.long) 0 := ⟨mc_AR_product, mw_599, mp_12, mw_8, by decide +kernel⟩
abbrev b_AR_plainProduct : ByteArray := prog_3_method_17_code
def y_AR_plainProduct : MethodName := ⟨"PageMachine$Arithmetic", "plainProduct", "()J"⟩
set_option maxRecDepth 20000 in
theorem mc_AR_plainProduct : Cond.code y_AR_plainProduct b_AR_plainProduct 1 (Option.some Jvm.ClassFile.FieldType.long) ∈ gt_bl := gt_in (List.mem_of_getElem? (i := 675) rfl) rfl
theorem kv_AR_plainProduct : KV y_AR_plainProduct b_AR_plainProduct 1 (Option.some Jvm.ClassFile.FieldType.long) 0 := ⟨mc_AR_plainProduct, mw_607, mp_13, mw_8, by decide +kernel⟩
abbrev b_AR_plain : ByteArray := prog_3_method_18_code
def y_AR_plain : MethodName := ⟨"PageMachine$Arithmetic", "plain", "(I)J"⟩
set_option maxRecDepth 20000 in
theorem mc_AR_plain : Cond.code y_AR_plain b_AR_plain 1 (Option.some Jvm.ClassFile.FieldType.long) ∈ gt_bl := gt_in (List.mem_of_getElem? (i := 678) rfl) rfl
theorem ks_AR_plain : KS y_AR_plain b_AR_plain 1 (Option.some Jvm.ClassFile.FieldType.long) 1 := ⟨mc_AR_plain, mw_610, mw_8, by decide +kernel⟩
abbrev b_AR_plainlyBelow : ByteArray := prog_3_method_19_code
def y_AR_plainlyBelow : MethodName := ⟨"PageMachine$Arithmetic", "plainlyBelow", "(II)Z"⟩
set_option maxRecDepth 20000 in
theorem mc_AR_plainlyBelow : Cond.code y_AR_plainlyBelow b_AR_plainlyBelow 2 (Option.some Jvm.ClassFile.FieldType.boolean) ∈ gt_bl := gt_in (List.mem_of_getElem? (i := 698) rfl) rfl
theorem ks_AR_plainlyBelow : KS y_AR_plainlyBelow b_AR_plainlyBelow 2 (Option.some Jvm.ClassFile.FieldType.boolean) 2 := ⟨mc_AR_plainlyBelow, mw_630, mw_8, by decide +kernel⟩
abbrev b_BR_init : ByteArray := prog_4_method_1_code
def y_BR_init : MethodName := ⟨"PageMachine$Branches", "<init>", "(LPageMachine$Core;)V"⟩
set_option maxRecDepth 20000 in
theorem mc_BR_init : Cond.code y_BR_init b_BR_init 2 (Option.none : Option Jvm.ClassFile.FieldType) ∈ gt_bl := gt_in (List.mem_of_getElem? (i := 236) rfl) rfl
abbrev b_BR_jumpToRegister : ByteArray := prog_4_method_2_code
def y_BR_jumpToRegister : MethodName := ⟨"PageMachine$Branches", "jumpToRegister", "(Z)I"⟩
set_option maxRecDepth 20000 in
theorem mc_BR_jumpToRegister : Cond.code y_BR_jumpToRegister b_BR_jumpToRegister 2 (Option.some Jvm.ClassFile.FieldType.int) ∈ gt_bl := gt_in (List.mem_of_getElem? (i := 618) rfl) rfl
theorem kv_BR_jumpToRegister : KV y_BR_jumpToRegister b_BR_jumpToRegister 2 (Option.some Jvm.ClassFile.FieldType.int) 1 := ⟨mc_BR_jumpToRegister, mw_549, mw_550, mw_9, by decide +kernel⟩
abbrev b_BR_jump : ByteArray := prog_4_method_3_code
def y_BR_jump : MethodName := ⟨"PageMachine$Branches", "jump", "(Z)I"⟩
set_option maxRecDepth 20000 in
theorem mc_BR_jump : Cond.code y_BR_jump b_BR_jump 2 (Option.some Jvm.ClassFile.FieldType.int) ∈ gt_bl := gt_in (List.mem_of_getElem? (i := 741) rfl) rfl
theorem kv_BR_jump : KV y_BR_jump b_BR_jump 2 (Option.some Jvm.ClassFile.FieldType.int) 1 := ⟨mc_BR_jump, mw_672, mw_673, mw_9, by decide +kernel⟩
abbrev b_BR_bySign : ByteArray := prog_4_method_4_code
def y_BR_bySign : MethodName := ⟨"PageMachine$Branches", "bySign", "()I"⟩
set_option maxRecDepth 20000 in
theorem mc_BR_bySign : Cond.code y_BR_bySign b_BR_bySign 3 (Option.some Jvm.ClassFile.FieldType.int) ∈ gt_bl := gt_in (List.mem_of_getElem? (i := 718) rfl) rfl
theorem kv_BR_bySign : KV y_BR_bySign b_BR_bySign 3 (Option.some Jvm.ClassFile.FieldType.int) 0 := ⟨mc_BR_bySign, mw_649, mw_650, mw_9, by decide +kernel⟩
abbrev b_BR_byComparison : ByteArray := prog_4_method_5_code
def y_BR_byComparison : MethodName := ⟨"PageMachine$Branches", "byComparison", "()I"⟩
set_option maxRecDepth 20000 in
theorem mc_BR_byComparison : Cond.code y_BR_byComparison b_BR_byComparison 1 (Option.some Jvm.ClassFile.FieldType.int) ∈ gt_bl := gt_in (List.mem_of_getElem? (i := 751) rfl) rfl
theorem kv_BR_byComparison : KV y_BR_byComparison b_BR_byComparison 1 (Option.some Jvm.ClassFile.FieldType.int) 0 := ⟨mc_BR_byComparison, mw_682, mw_683, mw_9, by decide +kernel⟩
abbrev b_BR_holds : ByteArray := prog_4_method_6_code
def y_BR_holds : MethodName := ⟨"PageMachine$Branches", "holds", "(III)Z"⟩
set_option maxRecDepth 20000 in
theorem mc_BR_holds : Cond.code y_BR_holds b_BR_holds 3 (Option.some Jvm.ClassFile.FieldType.boolean) ∈ gt_bl := gt_in (List.mem_of_getElem? (i := 756) rfl) rfl
theorem ks_BR_holds : KS y_BR_holds b_BR_holds 3 (Option.some Jvm.ClassFile.FieldType.boolean) 3 := ⟨mc_BR_holds, mw_688, mw_9, by decide +kernel⟩
abbrev b_BR_branch : ByteArray := prog_4_method_7_code
def y_BR_branch : MethodName := ⟨"PageMachine$Branches", "branch", "(ZZ)V"⟩
set_option maxRecDepth 20000 in
theorem mc_BR_branch : Cond.code y_BR_branch b_BR_branch 3 (Option.none : Option Jvm.ClassFile.FieldType) ∈ gt_bl := gt_in (List.mem_of_getElem? (i := 723) rfl) rfl
theorem kv_BR_branch : KV y_BR_branch b_BR_branch 3 (Option.none : Option Jvm.ClassFile.FieldType) 2 := ⟨mc_BR_branch, mw_655, mp_20, mw_9, by decide +kernel⟩
abbrev b_CP_init : ByteArray := prog_5_method_1_code
def y_CP_init : MethodName := ⟨"PageMachine$Coprocessor", "<init>", "(LPageMachine$Core;LPageMachine$SystemRegisters;LPageMachine$Tlb;)V"⟩
set_option maxRecDepth 20000 in
theorem mc_CP_init : Cond.code y_CP_init b_CP_init 4 (Option.none : Option Jvm.ClassFile.FieldType) ∈ gt_bl := gt_in (List.mem_of_getElem? (i := 262) rfl) rfl
abbrev b_CP_perform : ByteArray := prog_5_method_2_code
def y_CP_perform : MethodName := ⟨"PageMachine$Coprocessor", "perform", "()I"⟩
set_option maxRecDepth 20000 in
theorem mc_CP_perform : Cond.code y_CP_perform b_CP_perform 2 (Option.some Jvm.ClassFile.FieldType.int) ∈ gt_bl := gt_in (List.mem_of_getElem? (i := 770) rfl) rfl
theorem kv_CP_perform : KV y_CP_perform b_CP_perform 2 (Option.some Jvm.ClassFile.FieldType.int) 0 := ⟨mc_CP_perform, mw_701, mw_702, mw_11, by decide +kernel⟩
abbrev b_CP_command : ByteArray := prog_5_method_3_code
def y_CP_command : MethodName := ⟨"PageMachine$Coprocessor", "command", "(I)I"⟩
set_option maxRecDepth 20000 in
theorem mc_CP_command : Cond.code y_CP_command b_CP_command 2 (Option.some Jvm.ClassFile.FieldType.int) ∈ gt_bl := gt_in (List.mem_of_getElem? (i := 789) rfl) rfl
theorem kv_CP_command : KV y_CP_command b_CP_command 2 (Option.some Jvm.ClassFile.FieldType.int) 1 := ⟨mc_CP_command, mw_721, mp_21, mw_11, by decide +kernel⟩
abbrev b_CP_readEntry : ByteArray := prog_5_method_4_code
def y_CP_readEntry : MethodName := ⟨"PageMachine$Coprocessor", "readEntry", "(I)I"⟩
set_option maxRecDepth 20000 in
theorem mc_CP_readEntry : Cond.code y_CP_readEntry b_CP_readEntry 4 (Option.some Jvm.ClassFile.FieldType.int) ∈ gt_bl := gt_in (List.mem_of_getElem? (i := 794) rfl) rfl
theorem kv_CP_readEntry : KV y_CP_readEntry b_CP_readEntry 4 (Option.some Jvm.ClassFile.FieldType.int) 1 := ⟨mc_CP_readEntry, mw_726, mp_22, mw_11, by decide +kernel⟩
abbrev b_CP_writeEntry : ByteArray := prog_5_method_5_code
def y_CP_writeEntry : MethodName := ⟨"PageMachine$Coprocessor", "writeEntry", "(I)I"⟩
set_option maxRecDepth 20000 in
theorem mc_CP_writeEntry : Cond.code y_CP_writeEntry b_CP_writeEntry 4 (Option.some Jvm.ClassFile.FieldType.int) ∈ gt_bl := gt_in (List.mem_of_getElem? (i := 815) rfl) rfl
theorem kv_CP_writeEntry : KV y_CP_writeEntry b_CP_writeEntry 4 (Option.some Jvm.ClassFile.FieldType.int) 1 := ⟨mc_CP_writeEntry, mw_747, mp_23, mw_11, by decide +kernel⟩
abbrev b_CP_probe : ByteArray := prog_5_method_6_code
def y_CP_probe : MethodName := ⟨"PageMachine$Coprocessor", "probe", "()I"⟩
set_option maxRecDepth 20000 in
theorem mc_CP_probe : Cond.code y_CP_probe b_CP_probe 2 (Option.some Jvm.ClassFile.FieldType.int) ∈ gt_bl := gt_in (List.mem_of_getElem? (i := 824) rfl) rfl
theorem kv_CP_probe : KV y_CP_probe b_CP_probe 2 (Option.some Jvm.ClassFile.FieldType.int) 0 := ⟨mc_CP_probe, mw_756, mp_24, mw_11, by decide +kernel⟩
abbrev b_CP_leaveFault : ByteArray := prog_5_method_7_code
def y_CP_leaveFault : MethodName := ⟨"PageMachine$Coprocessor", "leaveFault", "()I"⟩
set_option maxRecDepth 20000 in
theorem mc_CP_leaveFault : Cond.code y_CP_leaveFault b_CP_leaveFault 1 (Option.some Jvm.ClassFile.FieldType.int) ∈ gt_bl := gt_in (List.mem_of_getElem? (i := 833) rfl) rfl
theorem kv_CP_leaveFault : KV y_CP_leaveFault b_CP_leaveFault 1 (Option.some Jvm.ClassFile.FieldType.int) 0 := ⟨mc_CP_leaveFault, mw_765, mp_25, mw_11, by decide +kernel⟩
abbrev b_CO_init : ByteArray := prog_6_method_1_code
def y_CO_init : MethodName := ⟨"PageMachine$Core", "<init>", "()V"⟩
set_option maxRecDepth 20000 in
theorem mc_CO_init : Cond.code y_CO_init b_CO_init 1 (Option.none : Option Jvm.ClassFile.FieldType) ∈ gt_bl := gt_in (List.mem_of_getElem? (i := 169) rfl) rfl
abbrev b_CO_register : ByteArray := prog_6_method_2_code
def y_CO_register : MethodName := ⟨"PageMachine$Core", "register", "(I)I"⟩
set_option maxRecDepth 20000 in
theorem mc_CO_register : Cond.code y_CO_register b_CO_register 2 (Option.some Jvm.ClassFile.FieldType.int) ∈ gt_bl := gt_in (List.mem_of_getElem? (i := 490) rfl) rfl
theorem kv_CO_register : KV y_CO_register b_CO_register 2 (Option.some Jvm.ClassFile.FieldType.int) 1 := ⟨mc_CO_register, mw_421, mw_422, mw_6, by decide +kernel⟩
abbrev b_CO_put : ByteArray := prog_6_method_3_code
def y_CO_put : MethodName := ⟨"PageMachine$Core", "put", "(II)I"⟩
set_option maxRecDepth 20000 in
theorem mc_CO_put : Cond.code y_CO_put b_CO_put 3 (Option.some Jvm.ClassFile.FieldType.int) ∈ gt_bl := gt_in (List.mem_of_getElem? (i := 474) rfl) rfl
theorem kv_CO_put : KV y_CO_put b_CO_put 3 (Option.some Jvm.ClassFile.FieldType.int) 2 := ⟨mc_CO_put, mw_405, mw_406, mw_6, by decide +kernel⟩
abbrev b_CO_putProduct : ByteArray := prog_6_method_4_code
def y_CO_putProduct : MethodName := ⟨"PageMachine$Core", "putProduct", "(J)I"⟩
set_option maxRecDepth 20000 in
theorem mc_CO_putProduct : Cond.code y_CO_putProduct b_CO_putProduct 3 (Option.some Jvm.ClassFile.FieldType.int) ∈ gt_bl := gt_in (List.mem_of_getElem? (i := 671) rfl) rfl
theorem kv_CO_putProduct : KV y_CO_putProduct b_CO_putProduct 3 (Option.some Jvm.ClassFile.FieldType.int) 1 := ⟨mc_CO_putProduct, mw_602, mw_603, mw_6, by decide +kernel⟩
abbrev b_CO_restartAt : ByteArray := prog_6_method_5_code
def y_CO_restartAt : MethodName := ⟨"PageMachine$Core", "restartAt", "(I)V"⟩
set_option maxRecDepth 20000 in
theorem mc_CO_restartAt : Cond.code y_CO_restartAt b_CO_restartAt 2 (Option.none : Option Jvm.ClassFile.FieldType) ∈ gt_bl := gt_in (List.mem_of_getElem? (i := 470) rfl) rfl
theorem kv_CO_restartAt : KV y_CO_restartAt b_CO_restartAt 2 (Option.none : Option Jvm.ClassFile.FieldType) 1 := ⟨mc_CO_restartAt, mw_401, mw_402, mw_6, by decide +kernel⟩
abbrev b_CO_begin : ByteArray := prog_6_method_6_code
def y_CO_begin : MethodName := ⟨"PageMachine$Core", "begin", "(I)V"⟩
set_option maxRecDepth 20000 in
theorem mc_CO_begin : Cond.code y_CO_begin b_CO_begin 2 (Option.none : Option Jvm.ClassFile.FieldType) ∈ gt_bl := gt_in (List.mem_of_getElem? (i := 598) rfl) rfl
theorem kv_CO_begin : KV y_CO_begin b_CO_begin 2 (Option.none : Option Jvm.ClassFile.FieldType) 1 := ⟨mc_CO_begin, mw_529, mw_530, mw_6, by decide +kernel⟩
abbrev b_CO_finish : ByteArray := prog_6_method_7_code
def y_CO_finish : MethodName := ⟨"PageMachine$Core", "finish", "()V"⟩
set_option maxRecDepth 20000 in
theorem mc_CO_finish : Cond.code y_CO_finish b_CO_finish 1 (Option.none : Option Jvm.ClassFile.FieldType) ∈ gt_bl := gt_in (List.mem_of_getElem? (i := 899) rfl) rfl
theorem kv_CO_finish : KV y_CO_finish b_CO_finish 1 (Option.none : Option Jvm.ClassFile.FieldType) 0 := ⟨mc_CO_finish, mw_830, mw_831, mw_6, by decide +kernel⟩
abbrev b_CO_goBehindSlotTo : ByteArray := prog_6_method_8_code
def y_CO_goBehindSlotTo : MethodName := ⟨"PageMachine$Core", "goBehindSlotTo", "(I)V"⟩
set_option maxRecDepth 20000 in
theorem mc_CO_goBehindSlotTo : Cond.code y_CO_goBehindSlotTo b_CO_goBehindSlotTo 2 (Option.none : Option Jvm.ClassFile.FieldType) ∈ gt_bl := gt_in (List.mem_of_getElem? (i := 626) rfl) rfl
theorem kv_CO_goBehindSlotTo : KV y_CO_goBehindSlotTo b_CO_goBehindSlotTo 2 (Option.none : Option Jvm.ClassFile.FieldType) 1 := ⟨mc_CO_goBehindSlotTo, mw_557, mw_558, mw_6, by decide +kernel⟩
abbrev b_CO_goAtOnceTo : ByteArray := prog_6_method_9_code
def y_CO_goAtOnceTo : MethodName := ⟨"PageMachine$Core", "goAtOnceTo", "(I)V"⟩
set_option maxRecDepth 20000 in
theorem mc_CO_goAtOnceTo : Cond.code y_CO_goAtOnceTo b_CO_goAtOnceTo 2 (Option.none : Option Jvm.ClassFile.FieldType) ∈ gt_bl := gt_in (List.mem_of_getElem? (i := 731) rfl) rfl
theorem kv_CO_goAtOnceTo : KV y_CO_goAtOnceTo b_CO_goAtOnceTo 2 (Option.none : Option Jvm.ClassFile.FieldType) 1 := ⟨mc_CO_goAtOnceTo, mw_662, mw_663, mw_6, by decide +kernel⟩
abbrev b_CO_op : ByteArray := prog_6_method_10_code
def y_CO_op : MethodName := ⟨"PageMachine$Core", "op", "()I"⟩
set_option maxRecDepth 20000 in
theorem mc_CO_op : Cond.code y_CO_op b_CO_op 1 (Option.some Jvm.ClassFile.FieldType.int) ∈ gt_bl := gt_in (List.mem_of_getElem? (i := 602) rfl) rfl
theorem kv_CO_op : KV y_CO_op b_CO_op 1 (Option.some Jvm.ClassFile.FieldType.int) 0 := ⟨mc_CO_op, mw_533, mw_534, mw_6, by decide +kernel⟩
abbrev b_CO_rs : ByteArray := prog_6_method_11_code
def y_CO_rs : MethodName := ⟨"PageMachine$Core", "rs", "()I"⟩
set_option maxRecDepth 20000 in
theorem mc_CO_rs : Cond.code y_CO_rs b_CO_rs 1 (Option.some Jvm.ClassFile.FieldType.int) ∈ gt_bl := gt_in (List.mem_of_getElem? (i := 784) rfl) rfl
theorem kv_CO_rs : KV y_CO_rs b_CO_rs 1 (Option.some Jvm.ClassFile.FieldType.int) 0 := ⟨mc_CO_rs, mw_715, mw_716, mw_6, by decide +kernel⟩
abbrev b_CO_rt : ByteArray := prog_6_method_12_code
def y_CO_rt : MethodName := ⟨"PageMachine$Core", "rt", "()I"⟩
set_option maxRecDepth 20000 in
theorem mc_CO_rt : Cond.code y_CO_rt b_CO_rt 1 (Option.some Jvm.ClassFile.FieldType.int) ∈ gt_bl := gt_in (List.mem_of_getElem? (i := 714) rfl) rfl
theorem kv_CO_rt : KV y_CO_rt b_CO_rt 1 (Option.some Jvm.ClassFile.FieldType.int) 0 := ⟨mc_CO_rt, mw_645, mw_646, mw_6, by decide +kernel⟩
abbrev b_CO_rd : ByteArray := prog_6_method_13_code
def y_CO_rd : MethodName := ⟨"PageMachine$Core", "rd", "()I"⟩
set_option maxRecDepth 20000 in
theorem mc_CO_rd : Cond.code y_CO_rd b_CO_rd 1 (Option.some Jvm.ClassFile.FieldType.int) ∈ gt_bl := gt_in (List.mem_of_getElem? (i := 630) rfl) rfl
theorem kv_CO_rd : KV y_CO_rd b_CO_rd 1 (Option.some Jvm.ClassFile.FieldType.int) 0 := ⟨mc_CO_rd, mw_561, mw_562, mw_6, by decide +kernel⟩
abbrev b_CO_sh : ByteArray := prog_6_method_14_code
def y_CO_sh : MethodName := ⟨"PageMachine$Core", "sh", "()I"⟩
set_option maxRecDepth 20000 in
theorem mc_CO_sh : Cond.code y_CO_sh b_CO_sh 1 (Option.some Jvm.ClassFile.FieldType.int) ∈ gt_bl := gt_in (List.mem_of_getElem? (i := 649) rfl) rfl
theorem kv_CO_sh : KV y_CO_sh b_CO_sh 1 (Option.some Jvm.ClassFile.FieldType.int) 0 := ⟨mc_CO_sh, mw_580, mw_581, mw_6, by decide +kernel⟩
abbrev b_CO_fn : ByteArray := prog_6_method_15_code
def y_CO_fn : MethodName := ⟨"PageMachine$Core", "fn", "()I"⟩
set_option maxRecDepth 20000 in
theorem mc_CO_fn : Cond.code y_CO_fn b_CO_fn 1 (Option.some Jvm.ClassFile.FieldType.int) ∈ gt_bl := gt_in (List.mem_of_getElem? (i := 614) rfl) rfl
theorem kv_CO_fn : KV y_CO_fn b_CO_fn 1 (Option.some Jvm.ClassFile.FieldType.int) 0 := ⟨mc_CO_fn, mw_545, mw_546, mw_6, by decide +kernel⟩
abbrev b_CO_signedImmediate : ByteArray := prog_6_method_16_code
def y_CO_signedImmediate : MethodName := ⟨"PageMachine$Core", "signedImmediate", "()I"⟩
set_option maxRecDepth 20000 in
theorem mc_CO_signedImmediate : Cond.code y_CO_signedImmediate b_CO_signedImmediate 1 (Option.some Jvm.ClassFile.FieldType.int) ∈ gt_bl := gt_in (List.mem_of_getElem? (i := 727) rfl) rfl
theorem kv_CO_signedImmediate : KV y_CO_signedImmediate b_CO_signedImmediate 1 (Option.some Jvm.ClassFile.FieldType.int) 0 := ⟨mc_CO_signedImmediate, mw_658, mw_659, mw_6, by decide +kernel⟩
abbrev b_CO_plainImmediate : ByteArray := prog_6_method_17_code
def y_CO_plainImmediate : MethodName := ⟨"PageMachine$Core", "plainImmediate", "()I"⟩
set_option maxRecDepth 20000 in
theorem mc_CO_plainImmediate : Cond.code y_CO_plainImmediate b_CO_plainImmediate 1 (Option.some Jvm.ClassFile.FieldType.int) ∈ gt_bl := gt_in (List.mem_of_getElem? (i := 764) rfl) rfl
theorem kv_CO_plainImmediate : KV y_CO_plainImmediate b_CO_plainImmediate 1 (Option.some Jvm.ClassFile.FieldType.int) 0 := ⟨mc_CO_plainImmediate, mw_695, mw_696, mw_6, by decide +kernel⟩
abbrev b_CO_jumpField : ByteArray := prog_6_method_18_code
def y_CO_jumpField : MethodName := ⟨"PageMachine$Core", "jumpField", "()I"⟩
set_option maxRecDepth 20000 in
theorem mc_CO_jumpField : Cond.code y_CO_jumpField b_CO_jumpField 1 (Option.some Jvm.ClassFile.FieldType.int) ∈ gt_bl := gt_in (List.mem_of_getElem? (i := 746) rfl) rfl
theorem kv_CO_jumpField : KV y_CO_jumpField b_CO_jumpField 1 (Option.some Jvm.ClassFile.FieldType.int) 0 := ⟨mc_CO_jumpField, mw_677, mw_678, mw_6, by decide +kernel⟩
abbrev b_CO_s : ByteArray := prog_6_method_19_code
def y_CO_s : MethodName := ⟨"PageMachine$Core", "s", "()I"⟩
set_option maxRecDepth 20000 in
theorem mc_CO_s : Cond.code y_CO_s b_CO_s 1 (Option.some Jvm.ClassFile.FieldType.int) ∈ gt_bl := gt_in (List.mem_of_getElem? (i := 622) rfl) rfl
theorem kv_CO_s : KV y_CO_s b_CO_s 1 (Option.some Jvm.ClassFile.FieldType.int) 0 := ⟨mc_CO_s, mw_553, mw_554, mw_6, by decide +kernel⟩
abbrev b_CO_t : ByteArray := prog_6_method_20_code
def y_CO_t : MethodName := ⟨"PageMachine$Core", "t", "()I"⟩
set_option maxRecDepth 20000 in
theorem mc_CO_t : Cond.code y_CO_t b_CO_t 1 (Option.some Jvm.ClassFile.FieldType.int) ∈ gt_bl := gt_in (List.mem_of_getElem? (i := 644) rfl) rfl
theorem kv_CO_t : KV y_CO_t b_CO_t 1 (Option.some Jvm.ClassFile.FieldType.int) 0 := ⟨mc_CO_t, mw_575, mw_576, mw_6, by decide +kernel⟩
abbrev b_FA_codeOf : ByteArray := prog_7_method_2_code
def y_FA_codeOf : MethodName := ⟨"PageMachine$Fault", "codeOf", "(I)I"⟩
set_option maxRecDepth 20000 in
theorem mc_FA_codeOf : Cond.code y_FA_codeOf b_FA_codeOf 1 (Option.some Jvm.ClassFile.FieldType.int) ∈ gt_bl := gt_in (List.mem_of_getElem? (i := 531) rfl) rfl
theorem ks_FA_codeOf : KS y_FA_codeOf b_FA_codeOf 1 (Option.some Jvm.ClassFile.FieldType.int) 1 := ⟨mc_FA_codeOf, mw_463, mw_18, by decide +kernel⟩
abbrev b_FA_isRefill : ByteArray := prog_7_method_3_code
def y_FA_isRefill : MethodName := ⟨"PageMachine$Fault", "isRefill", "(I)Z"⟩
set_option maxRecDepth 20000 in
theorem mc_FA_isRefill : Cond.code y_FA_isRefill b_FA_isRefill 1 (Option.some Jvm.ClassFile.FieldType.boolean) ∈ gt_bl := gt_in (List.mem_of_getElem? (i := 553) rfl) rfl
theorem ks_FA_isRefill : KS y_FA_isRefill b_FA_isRefill 1 (Option.some Jvm.ClassFile.FieldType.boolean) 1 := ⟨mc_FA_isRefill, mw_485, mw_18, by decide +kernel⟩
abbrev b_FA_coprocessorOf : ByteArray := prog_7_method_4_code
def y_FA_coprocessorOf : MethodName := ⟨"PageMachine$Fault", "coprocessorOf", "(I)I"⟩
set_option maxRecDepth 20000 in
theorem mc_FA_coprocessorOf : Cond.code y_FA_coprocessorOf b_FA_coprocessorOf 1 (Option.some Jvm.ClassFile.FieldType.int) ∈ gt_bl := gt_in (List.mem_of_getElem? (i := 546) rfl) rfl
theorem ks_FA_coprocessorOf : KS y_FA_coprocessorOf b_FA_coprocessorOf 1 (Option.some Jvm.ClassFile.FieldType.int) 1 := ⟨mc_FA_coprocessorOf, mw_478, mw_18, by decide +kernel⟩
abbrev b_FA_noCoprocessor : ByteArray := prog_7_method_5_code
def y_FA_noCoprocessor : MethodName := ⟨"PageMachine$Fault", "noCoprocessor", "(I)I"⟩
set_option maxRecDepth 20000 in
theorem mc_FA_noCoprocessor : Cond.code y_FA_noCoprocessor b_FA_noCoprocessor 1 (Option.some Jvm.ClassFile.FieldType.int) ∈ gt_bl := gt_in (List.mem_of_getElem? (i := 779) rfl) rfl
theorem ks_FA_noCoprocessor : KS y_FA_noCoprocessor b_FA_noCoprocessor 1 (Option.some Jvm.ClassFile.FieldType.int) 1 := ⟨mc_FA_noCoprocessor, mw_711, mw_18, by decide +kernel⟩
abbrev b_FA_trapIf : ByteArray := prog_7_method_6_code
def y_FA_trapIf : MethodName := ⟨"PageMachine$Fault", "trapIf", "(Z)I"⟩
set_option maxRecDepth 20000 in
theorem mc_FA_trapIf : Cond.code y_FA_trapIf b_FA_trapIf 1 (Option.some Jvm.ClassFile.FieldType.int) ∈ gt_bl := gt_in (List.mem_of_getElem? (i := 706) rfl) rfl
theorem ks_FA_trapIf : KS y_FA_trapIf b_FA_trapIf 1 (Option.some Jvm.ClassFile.FieldType.int) 1 := ⟨mc_FA_trapIf, mw_638, mw_18, by decide +kernel⟩
abbrev b_LS_init : ByteArray := prog_8_method_1_code
def y_LS_init : MethodName := ⟨"PageMachine$LoadsAndStores", "<init>", "(LPageMachine$Core;LPageMachine$Memory;LPageMachine$AddressSpace;)V"⟩
set_option maxRecDepth 20000 in
theorem mc_LS_init : Cond.code y_LS_init b_LS_init 4 (Option.none : Option Jvm.ClassFile.FieldType) ∈ gt_bl := gt_in (List.mem_of_getElem? (i := 246) rfl) rfl
abbrev b_LS_load : ByteArray := prog_8_method_2_code
def y_LS_load : MethodName := ⟨"PageMachine$LoadsAndStores", "load", "()I"⟩
set_option maxRecDepth 20000 in
theorem mc_LS_load : Cond.code y_LS_load b_LS_load 5 (Option.some Jvm.ClassFile.FieldType.int) ∈ gt_bl := gt_in (List.mem_of_getElem? (i := 860) rfl) rfl
theorem kv_LS_load : KV y_LS_load b_LS_load 5 (Option.some Jvm.ClassFile.FieldType.int) 0 := ⟨mc_LS_load, mw_791, mw_792, mw_10, by decide +kernel⟩
abbrev b_LS_store : ByteArray := prog_8_method_3_code
def y_LS_store : MethodName := ⟨"PageMachine$LoadsAndStores", "store", "()I"⟩
set_option maxRecDepth 20000 in
theorem mc_LS_store : Cond.code y_LS_store b_LS_store 5 (Option.some Jvm.ClassFile.FieldType.int) ∈ gt_bl := gt_in (List.mem_of_getElem? (i := 883) rfl) rfl
theorem kv_LS_store : KV y_LS_store b_LS_store 5 (Option.some Jvm.ClassFile.FieldType.int) 0 := ⟨mc_LS_store, mw_814, mw_815, mw_10, by decide +kernel⟩
abbrev b_LS_endLink : ByteArray := prog_8_method_4_code
def y_LS_endLink : MethodName := ⟨"PageMachine$LoadsAndStores", "endLink", "()I"⟩
set_option maxRecDepth 20000 in
theorem mc_LS_endLink : Cond.code y_LS_endLink b_LS_endLink 2 (Option.some Jvm.ClassFile.FieldType.int) ∈ gt_bl := gt_in (List.mem_of_getElem? (i := 895) rfl) rfl
theorem kv_LS_endLink : KV y_LS_endLink b_LS_endLink 2 (Option.some Jvm.ClassFile.FieldType.int) 0 := ⟨mc_LS_endLink, mw_827, mp_28, mw_10, by decide +kernel⟩
abbrev b_LS_address : ByteArray := prog_8_method_5_code
def y_LS_address : MethodName := ⟨"PageMachine$LoadsAndStores", "address", "()I"⟩
set_option maxRecDepth 20000 in
theorem mc_LS_address : Cond.code y_LS_address b_LS_address 1 (Option.some Jvm.ClassFile.FieldType.int) ∈ gt_bl := gt_in (List.mem_of_getElem? (i := 865) rfl) rfl
theorem kv_LS_address : KV y_LS_address b_LS_address 1 (Option.some Jvm.ClassFile.FieldType.int) 0 := ⟨mc_LS_address, mw_797, mp_27, mw_10, by decide +kernel⟩
abbrev b_LS_alignmentOf : ByteArray := prog_8_method_6_code
def y_LS_alignmentOf : MethodName := ⟨"PageMachine$LoadsAndStores", "alignmentOf", "(I)I"⟩
set_option maxRecDepth 20000 in
theorem mc_LS_alignmentOf : Cond.code y_LS_alignmentOf b_LS_alignmentOf 1 (Option.some Jvm.ClassFile.FieldType.int) ∈ gt_bl := gt_in (List.mem_of_getElem? (i := 870) rfl) rfl
theorem ks_LS_alignmentOf : KS y_LS_alignmentOf b_LS_alignmentOf 1 (Option.some Jvm.ClassFile.FieldType.int) 1 := ⟨mc_LS_alignmentOf, mw_802, mw_10, by decide +kernel⟩
abbrev b_LS_loaded : ByteArray := prog_8_method_7_code
def y_LS_loaded : MethodName := ⟨"PageMachine$LoadsAndStores", "loaded", "(IIII)I"⟩
set_option maxRecDepth 20000 in
theorem mc_LS_loaded : Cond.code y_LS_loaded b_LS_loaded 6 (Option.some Jvm.ClassFile.FieldType.int) ∈ gt_bl := gt_in (List.mem_of_getElem? (i := 878) rfl) rfl
theorem ks_LS_loaded : KS y_LS_loaded b_LS_loaded 6 (Option.some Jvm.ClassFile.FieldType.int) 4 := ⟨mc_LS_loaded, mw_810, mw_10, by decide +kernel⟩
abbrev b_LS_stored : ByteArray := prog_8_method_8_code
def y_LS_stored : MethodName := ⟨"PageMachine$LoadsAndStores", "stored", "(IIII)I"⟩
set_option maxRecDepth 20000 in
theorem mc_LS_stored : Cond.code y_LS_stored b_LS_stored 5 (Option.some Jvm.ClassFile.FieldType.int) ∈ gt_bl := gt_in (List.mem_of_getElem? (i := 886) rfl) rfl
theorem ks_LS_stored : KS y_LS_stored b_LS_stored 5 (Option.some Jvm.ClassFile.FieldType.int) 4 := ⟨mc_LS_stored, mw_818, mw_10, by decide +kernel⟩
abbrev b_LS_merged : ByteArray := prog_8_method_9_code
def y_LS_merged : MethodName := ⟨"PageMachine$LoadsAndStores", "merged", "(III)I"⟩
set_option maxRecDepth 20000 in
theorem mc_LS_merged : Cond.code y_LS_merged b_LS_merged 3 (Option.some Jvm.ClassFile.FieldType.int) ∈ gt_bl := gt_in (List.mem_of_getElem? (i := 889) rfl) rfl
theorem ks_LS_merged : KS y_LS_merged b_LS_merged 3 (Option.some Jvm.ClassFile.FieldType.int) 3 := ⟨mc_LS_merged, mw_821, mw_10, by decide +kernel⟩
abbrev b_ME_init : ByteArray := prog_9_method_1_code
def y_ME_init : MethodName := ⟨"PageMachine$Memory", "<init>", "()V"⟩
set_option maxRecDepth 20000 in
theorem mc_ME_init : Cond.code y_ME_init b_ME_init 1 (Option.none : Option Jvm.ClassFile.FieldType) ∈ gt_bl := gt_in (List.mem_of_getElem? (i := 99) rfl) rfl
abbrev b_ME_has : ByteArray := prog_9_method_2_code
def y_ME_has : MethodName := ⟨"PageMachine$Memory", "has", "(J)Z"⟩
set_option maxRecDepth 20000 in
theorem mc_ME_has : Cond.code y_ME_has b_ME_has 3 (Option.some Jvm.ClassFile.FieldType.boolean) ∈ gt_bl := gt_in (List.mem_of_getElem? (i := 421) rfl) rfl
theorem kv_ME_has : KV y_ME_has b_ME_has 3 (Option.some Jvm.ClassFile.FieldType.boolean) 1 := ⟨mc_ME_has, mw_352, mw_353, mw_2, by decide +kernel⟩
abbrev b_ME_wordAt : ByteArray := prog_9_method_3_code
def y_ME_wordAt : MethodName := ⟨"PageMachine$Memory", "wordAt", "(I)I"⟩
set_option maxRecDepth 20000 in
theorem mc_ME_wordAt : Cond.code y_ME_wordAt b_ME_wordAt 2 (Option.some Jvm.ClassFile.FieldType.int) ∈ gt_bl := gt_in (List.mem_of_getElem? (i := 442) rfl) rfl
theorem kv_ME_wordAt : KV y_ME_wordAt b_ME_wordAt 2 (Option.some Jvm.ClassFile.FieldType.int) 1 := ⟨mc_ME_wordAt, mw_373, mw_374, mw_2, by decide +kernel⟩
abbrev b_ME_putWord : ByteArray := prog_9_method_4_code
def y_ME_putWord : MethodName := ⟨"PageMachine$Memory", "putWord", "(II)V"⟩
set_option maxRecDepth 20000 in
theorem mc_ME_putWord : Cond.code y_ME_putWord b_ME_putWord 3 (Option.none : Option Jvm.ClassFile.FieldType) ∈ gt_bl := gt_in (List.mem_of_getElem? (i := 333) rfl) rfl
theorem kv_ME_putWord : KV y_ME_putWord b_ME_putWord 3 (Option.none : Option Jvm.ClassFile.FieldType) 2 := ⟨mc_ME_putWord, mw_264, mw_265, mw_2, by decide +kernel⟩
abbrev b_ME_rowOf : ByteArray := prog_9_method_5_code
def y_ME_rowOf : MethodName := ⟨"PageMachine$Memory", "rowOf", "(I)I"⟩
set_option maxRecDepth 20000 in
theorem mc_ME_rowOf : Cond.code y_ME_rowOf b_ME_rowOf 1 (Option.some Jvm.ClassFile.FieldType.int) ∈ gt_bl := gt_in (List.mem_of_getElem? (i := 336) rfl) rfl
theorem ks_ME_rowOf : KS y_ME_rowOf b_ME_rowOf 1 (Option.some Jvm.ClassFile.FieldType.int) 1 := ⟨mc_ME_rowOf, mw_268, mw_2, by decide +kernel⟩
abbrev b_PR_init : ByteArray := prog_10_method_1_code
def y_PR_init : MethodName := ⟨"PageMachine$Processor", "<init>", "(LPageMachine$Core;LPageMachine$Memory;LPageMachine$SystemRegisters;LPageMachine$Tlb;LPageMachine$AddressSpace;)V"⟩
set_option maxRecDepth 20000 in
theorem mc_PR_init : Cond.code y_PR_init b_PR_init 6 (Option.none : Option Jvm.ClassFile.FieldType) ∈ gt_bl := gt_in (List.mem_of_getElem? (i := 220) rfl) rfl
abbrev b_PR_steps : ByteArray := prog_10_method_2_code
def y_PR_steps : MethodName := ⟨"PageMachine$Processor", "steps", "()I"⟩
set_option maxRecDepth 20000 in
theorem mc_PR_steps : Cond.code y_PR_steps b_PR_steps 1 (Option.some Jvm.ClassFile.FieldType.int) ∈ gt_bl := gt_in (List.mem_of_getElem? (i := 939) rfl) rfl
theorem kv_PR_steps : KV y_PR_steps b_PR_steps 1 (Option.some Jvm.ClassFile.FieldType.int) 0 := ⟨mc_PR_steps, mw_870, mw_871, mw_7, by decide +kernel⟩
abbrev b_PR_faultsWith : ByteArray := prog_10_method_3_code
def y_PR_faultsWith : MethodName := ⟨"PageMachine$Processor", "faultsWith", "(I)I"⟩
set_option maxRecDepth 20000 in
theorem mc_PR_faultsWith : Cond.code y_PR_faultsWith b_PR_faultsWith 2 (Option.some Jvm.ClassFile.FieldType.int) ∈ gt_bl := gt_in (List.mem_of_getElem? (i := 943) rfl) rfl
theorem kv_PR_faultsWith : KV y_PR_faultsWith b_PR_faultsWith 2 (Option.some Jvm.ClassFile.FieldType.int) 1 := ⟨mc_PR_faultsWith, mw_874, mw_875, mw_7, by decide +kernel⟩
abbrev b_PR_stepWasFault : ByteArray := prog_10_method_4_code
def y_PR_stepWasFault : MethodName := ⟨"PageMachine$Processor", "stepWasFault", "()Z"⟩
set_option maxRecDepth 20000 in
theorem mc_PR_stepWasFault : Cond.code y_PR_stepWasFault b_PR_stepWasFault 2 (Option.some Jvm.ClassFile.FieldType.boolean) ∈ gt_bl := gt_in (List.mem_of_getElem? (i := 514) rfl) rfl
theorem kv_PR_stepWasFault : KV y_PR_stepWasFault b_PR_stepWasFault 2 (Option.some Jvm.ClassFile.FieldType.boolean) 0 := ⟨mc_PR_stepWasFault, mw_445, mw_446, mw_7, by decide +kernel⟩
abbrev b_PR_enter : ByteArray := prog_10_method_5_code
def y_PR_enter : MethodName := ⟨"PageMachine$Processor", "enter", "(I)V"⟩
set_option maxRecDepth 20000 in
theorem mc_PR_enter : Cond.code y_PR_enter b_PR_enter 3 (Option.none : Option Jvm.ClassFile.FieldType) ∈ gt_bl := gt_in (List.mem_of_getElem? (i := 528) rfl) rfl
theorem kv_PR_enter : KV y_PR_enter b_PR_enter 3 (Option.none : Option Jvm.ClassFile.FieldType) 1 := ⟨mc_PR_enter, mw_460, mp_2, mw_7, by decide +kernel⟩
abbrev b_PR_fetch : ByteArray := prog_10_method_6_code
def y_PR_fetch : MethodName := ⟨"PageMachine$Processor", "fetch", "()I"⟩
set_option maxRecDepth 20000 in
theorem mc_PR_fetch : Cond.code y_PR_fetch b_PR_fetch 3 (Option.some Jvm.ClassFile.FieldType.int) ∈ gt_bl := gt_in (List.mem_of_getElem? (i := 559) rfl) rfl
theorem kv_PR_fetch : KV y_PR_fetch b_PR_fetch 3 (Option.some Jvm.ClassFile.FieldType.int) 0 := ⟨mc_PR_fetch, mw_491, mp_4, mw_7, by decide +kernel⟩
abbrev b_PR_perform : ByteArray := prog_10_method_7_code
def y_PR_perform : MethodName := ⟨"PageMachine$Processor", "perform", "(I)I"⟩
set_option maxRecDepth 20000 in
theorem mc_PR_perform : Cond.code y_PR_perform b_PR_perform 2 (Option.some Jvm.ClassFile.FieldType.int) ∈ gt_bl := gt_in (List.mem_of_getElem? (i := 606) rfl) rfl
theorem kv_PR_perform : KV y_PR_perform b_PR_perform 2 (Option.some Jvm.ClassFile.FieldType.int) 1 := ⟨mc_PR_perform, mw_538, mp_6, mw_7, by decide +kernel⟩
abbrev b_PR_performOp0 : ByteArray := prog_10_method_8_code
def y_PR_performOp0 : MethodName := ⟨"PageMachine$Processor", "performOp0", "()I"⟩
set_option maxRecDepth 20000 in
theorem mc_PR_performOp0 : Cond.code y_PR_performOp0 b_PR_performOp0 1 (Option.some Jvm.ClassFile.FieldType.int) ∈ gt_bl := gt_in (List.mem_of_getElem? (i := 610) rfl) rfl
theorem kv_PR_performOp0 : KV y_PR_performOp0 b_PR_performOp0 1 (Option.some Jvm.ClassFile.FieldType.int) 0 := ⟨mc_PR_performOp0, mw_542, mp_7, mw_7, by decide +kernel⟩
abbrev b_PR_performOp1 : ByteArray := prog_10_method_9_code
def y_PR_performOp1 : MethodName := ⟨"PageMachine$Processor", "performOp1", "()I"⟩
set_option maxRecDepth 20000 in
theorem mc_PR_performOp1 : Cond.code y_PR_performOp1 b_PR_performOp1 1 (Option.some Jvm.ClassFile.FieldType.int) ∈ gt_bl := gt_in (List.mem_of_getElem? (i := 710) rfl) rfl
theorem kv_PR_performOp1 : KV y_PR_performOp1 b_PR_performOp1 1 (Option.some Jvm.ClassFile.FieldType.int) 0 := ⟨mc_PR_performOp1, mw_642, mp_19, mw_7, by decide +kernel⟩
abbrev b_SR_init : ByteArray := prog_11_method_1_code
def y_SR_init : MethodName := ⟨"PageMachine$SystemRegisters", "<init>", "()V"⟩
set_option maxRecDepth 20000 in
theorem mc_SR_init : Cond.code y_SR_init b_SR_init 1 (Option.none : Option Jvm.ClassFile.FieldType) ∈ gt_bl := gt_in (List.mem_of_getElem? (i := 111) rfl) rfl
abbrev b_SR_read : ByteArray := prog_11_method_2_code
def y_SR_read : MethodName := ⟨"PageMachine$SystemRegisters", "read", "(I)I"⟩
set_option maxRecDepth 20000 in
theorem mc_SR_read : Cond.code y_SR_read b_SR_read 3 (Option.some Jvm.ClassFile.FieldType.int) ∈ gt_bl := gt_in (List.mem_of_getElem? (i := 485) rfl) rfl
theorem kv_SR_read : KV y_SR_read b_SR_read 3 (Option.some Jvm.ClassFile.FieldType.int) 1 := ⟨mc_SR_read, mw_416, mw_417, mw_3, by decide +kernel⟩
abbrev b_SR_write : ByteArray := prog_11_method_3_code
def y_SR_write : MethodName := ⟨"PageMachine$SystemRegisters", "write", "(II)V"⟩
set_option maxRecDepth 20000 in
theorem mc_SR_write : Cond.code y_SR_write b_SR_write 5 (Option.none : Option Jvm.ClassFile.FieldType) ∈ gt_bl := gt_in (List.mem_of_getElem? (i := 464) rfl) rfl
theorem kv_SR_write : KV y_SR_write b_SR_write 5 (Option.none : Option Jvm.ClassFile.FieldType) 2 := ⟨mc_SR_write, mw_395, mw_396, mw_3, by decide +kernel⟩
abbrev b_SR_switchLine : ByteArray := prog_11_method_4_code
def y_SR_switchLine : MethodName := ⟨"PageMachine$SystemRegisters", "switchLine", "(IZ)Z"⟩
set_option maxRecDepth 20000 in
theorem mc_SR_switchLine : Cond.code y_SR_switchLine b_SR_switchLine 5 (Option.some Jvm.ClassFile.FieldType.boolean) ∈ gt_bl := gt_in (List.mem_of_getElem? (i := 502) rfl) rfl
theorem kv_SR_switchLine : KV y_SR_switchLine b_SR_switchLine 5 (Option.some Jvm.ClassFile.FieldType.boolean) 2 := ⟨mc_SR_switchLine, mw_433, mw_434, mw_3, by decide +kernel⟩
abbrev b_SR_tick : ByteArray := prog_11_method_5_code
def y_SR_tick : MethodName := ⟨"PageMachine$SystemRegisters", "tick", "()V"⟩
set_option maxRecDepth 20000 in
theorem mc_SR_tick : Cond.code y_SR_tick b_SR_tick 1 (Option.none : Option Jvm.ClassFile.FieldType) ∈ gt_bl := gt_in (List.mem_of_getElem? (i := 518) rfl) rfl
theorem kv_SR_tick : KV y_SR_tick b_SR_tick 1 (Option.none : Option Jvm.ClassFile.FieldType) 0 := ⟨mc_SR_tick, mw_449, mw_450, mw_3, by decide +kernel⟩
abbrev b_SR_interruptIsDue : ByteArray := prog_11_method_6_code
def y_SR_interruptIsDue : MethodName := ⟨"PageMachine$SystemRegisters", "interruptIsDue", "()Z"⟩
set_option maxRecDepth 20000 in
theorem mc_SR_interruptIsDue : Cond.code y_SR_interruptIsDue b_SR_interruptIsDue 2 (Option.some Jvm.ClassFile.FieldType.boolean) ∈ gt_bl := gt_in (List.mem_of_getElem? (i := 522) rfl) rfl
theorem kv_SR_interruptIsDue : KV y_SR_interruptIsDue b_SR_interruptIsDue 2 (Option.some Jvm.ClassFile.FieldType.boolean) 0 := ⟨mc_SR_interruptIsDue, mw_453, mw_454, mw_3, by decide +kernel⟩
abbrev b_SR_moveRandom : ByteArray := prog_11_method_7_code
def y_SR_moveRandom : MethodName := ⟨"PageMachine$SystemRegisters", "moveRandom", "()V"⟩
set_option maxRecDepth 20000 in
theorem mc_SR_moveRandom : Cond.code y_SR_moveRandom b_SR_moveRandom 2 (Option.none : Option Jvm.ClassFile.FieldType) ∈ gt_bl := gt_in (List.mem_of_getElem? (i := 903) rfl) rfl
theorem kv_SR_moveRandom : KV y_SR_moveRandom b_SR_moveRandom 2 (Option.none : Option Jvm.ClassFile.FieldType) 0 := ⟨mc_SR_moveRandom, mw_834, mw_835, mw_3, by decide +kernel⟩
abbrev b_SR_inUserMode : ByteArray := prog_11_method_8_code
def y_SR_inUserMode : MethodName := ⟨"PageMachine$SystemRegisters", "inUserMode", "()Z"⟩
set_option maxRecDepth 20000 in
theorem mc_SR_inUserMode : Cond.code y_SR_inUserMode b_SR_inUserMode 1 (Option.some Jvm.ClassFile.FieldType.boolean) ∈ gt_bl := gt_in (List.mem_of_getElem? (i := 574) rfl) rfl
theorem kv_SR_inUserMode : KV y_SR_inUserMode b_SR_inUserMode 1 (Option.some Jvm.ClassFile.FieldType.boolean) 0 := ⟨mc_SR_inUserMode, mw_505, mw_506, mw_3, by decide +kernel⟩
abbrev b_SR_mayUseSystem : ByteArray := prog_11_method_9_code
def y_SR_mayUseSystem : MethodName := ⟨"PageMachine$SystemRegisters", "mayUseSystem", "()Z"⟩
set_option maxRecDepth 20000 in
theorem mc_SR_mayUseSystem : Cond.code y_SR_mayUseSystem b_SR_mayUseSystem 1 (Option.some Jvm.ClassFile.FieldType.boolean) ∈ gt_bl := gt_in (List.mem_of_getElem? (i := 774) rfl) rfl
theorem kv_SR_mayUseSystem : KV y_SR_mayUseSystem b_SR_mayUseSystem 1 (Option.some Jvm.ClassFile.FieldType.boolean) 0 := ⟨mc_SR_mayUseSystem, mw_705, mw_706, mw_3, by decide +kernel⟩
abbrev b_SR_noteProbe : ByteArray := prog_11_method_10_code
def y_SR_noteProbe : MethodName := ⟨"PageMachine$SystemRegisters", "noteProbe", "(I)V"⟩
set_option maxRecDepth 20000 in
theorem mc_SR_noteProbe : Cond.code y_SR_noteProbe b_SR_noteProbe 2 (Option.none : Option Jvm.ClassFile.FieldType) ∈ gt_bl := gt_in (List.mem_of_getElem? (i := 829) rfl) rfl
theorem kv_SR_noteProbe : KV y_SR_noteProbe b_SR_noteProbe 2 (Option.none : Option Jvm.ClassFile.FieldType) 1 := ⟨mc_SR_noteProbe, mw_760, mw_761, mw_3, by decide +kernel⟩
abbrev b_SR_loadEntry : ByteArray := prog_11_method_11_code
def y_SR_loadEntry : MethodName := ⟨"PageMachine$SystemRegisters", "loadEntry", "(III)V"⟩
set_option maxRecDepth 20000 in
theorem mc_SR_loadEntry : Cond.code y_SR_loadEntry b_SR_loadEntry 4 (Option.none : Option Jvm.ClassFile.FieldType) ∈ gt_bl := gt_in (List.mem_of_getElem? (i := 811) rfl) rfl
theorem kv_SR_loadEntry : KV y_SR_loadEntry b_SR_loadEntry 4 (Option.none : Option Jvm.ClassFile.FieldType) 3 := ⟨mc_SR_loadEntry, mw_742, mw_743, mw_3, by decide +kernel⟩
abbrev b_SR_leaveFault : ByteArray := prog_11_method_12_code
def y_SR_leaveFault : MethodName := ⟨"PageMachine$SystemRegisters", "leaveFault", "()I"⟩
set_option maxRecDepth 20000 in
theorem mc_SR_leaveFault : Cond.code y_SR_leaveFault b_SR_leaveFault 1 (Option.some Jvm.ClassFile.FieldType.int) ∈ gt_bl := gt_in (List.mem_of_getElem? (i := 837) rfl) rfl
theorem kv_SR_leaveFault : KV y_SR_leaveFault b_SR_leaveFault 1 (Option.some Jvm.ClassFile.FieldType.int) 0 := ⟨mc_SR_leaveFault, mw_768, mw_769, mw_3, by decide +kernel⟩
abbrev b_SR_enterFault : ByteArray := prog_11_method_13_code
def y_SR_enterFault : MethodName := ⟨"PageMachine$SystemRegisters", "enterFault", "(IIZI)I"⟩
set_option maxRecDepth 20000 in
theorem mc_SR_enterFault : Cond.code y_SR_enterFault b_SR_enterFault 7 (Option.some Jvm.ClassFile.FieldType.int) ∈ gt_bl := gt_in (List.mem_of_getElem? (i := 539) rfl) rfl
theorem kv_SR_enterFault : KV y_SR_enterFault b_SR_enterFault 7 (Option.some Jvm.ClassFile.FieldType.int) 4 := ⟨mc_SR_enterFault, mw_470, mw_471, mw_3, by decide +kernel⟩
abbrev b_SR_noteAddress : ByteArray := prog_11_method_14_code
def y_SR_noteAddress : MethodName := ⟨"PageMachine$SystemRegisters", "noteAddress", "(II)V"⟩
set_option maxRecDepth 20000 in
theorem mc_SR_noteAddress : Cond.code y_SR_noteAddress b_SR_noteAddress 4 (Option.none : Option Jvm.ClassFile.FieldType) ∈ gt_bl := gt_in (List.mem_of_getElem? (i := 550) rfl) rfl
theorem kv_SR_noteAddress : KV y_SR_noteAddress b_SR_noteAddress 4 (Option.none : Option Jvm.ClassFile.FieldType) 2 := ⟨mc_SR_noteAddress, mw_482, mp_3, mw_3, by decide +kernel⟩
abbrev b_TL_init : ByteArray := prog_12_method_1_code
def y_TL_init : MethodName := ⟨"PageMachine$Tlb", "<init>", "()V"⟩
set_option maxRecDepth 20000 in
theorem mc_TL_init : Cond.code y_TL_init b_TL_init 1 (Option.none : Option Jvm.ClassFile.FieldType) ∈ gt_bl := gt_in (List.mem_of_getElem? (i := 128) rfl) rfl
abbrev b_TL_pageOf : ByteArray := prog_12_method_2_code
def y_TL_pageOf : MethodName := ⟨"PageMachine$Tlb", "pageOf", "(I)I"⟩
set_option maxRecDepth 20000 in
theorem mc_TL_pageOf : Cond.code y_TL_pageOf b_TL_pageOf 2 (Option.some Jvm.ClassFile.FieldType.int) ∈ gt_bl := gt_in (List.mem_of_getElem? (i := 802) rfl) rfl
theorem kv_TL_pageOf : KV y_TL_pageOf b_TL_pageOf 2 (Option.some Jvm.ClassFile.FieldType.int) 1 := ⟨mc_TL_pageOf, mw_733, mw_734, mw_4, by decide +kernel⟩
abbrev b_TL_asidOf : ByteArray := prog_12_method_3_code
def y_TL_asidOf : MethodName := ⟨"PageMachine$Tlb", "asidOf", "(I)I"⟩
set_option maxRecDepth 20000 in
theorem mc_TL_asidOf : Cond.code y_TL_asidOf b_TL_asidOf 2 (Option.some Jvm.ClassFile.FieldType.int) ∈ gt_bl := gt_in (List.mem_of_getElem? (i := 806) rfl) rfl
theorem kv_TL_asidOf : KV y_TL_asidOf b_TL_asidOf 2 (Option.some Jvm.ClassFile.FieldType.int) 1 := ⟨mc_TL_asidOf, mw_737, mw_738, mw_4, by decide +kernel⟩
abbrev b_TL_globalOf : ByteArray := prog_12_method_4_code
def y_TL_globalOf : MethodName := ⟨"PageMachine$Tlb", "globalOf", "(I)I"⟩
set_option maxRecDepth 20000 in
theorem mc_TL_globalOf : Cond.code y_TL_globalOf b_TL_globalOf 2 (Option.some Jvm.ClassFile.FieldType.int) ∈ gt_bl := gt_in (List.mem_of_getElem? (i := 798) rfl) rfl
theorem kv_TL_globalOf : KV y_TL_globalOf b_TL_globalOf 2 (Option.some Jvm.ClassFile.FieldType.int) 1 := ⟨mc_TL_globalOf, mw_729, mw_730, mw_4, by decide +kernel⟩
abbrev b_TL_halfOf : ByteArray := prog_12_method_5_code
def y_TL_halfOf : MethodName := ⟨"PageMachine$Tlb", "halfOf", "(II)I"⟩
set_option maxRecDepth 20000 in
theorem mc_TL_halfOf : Cond.code y_TL_halfOf b_TL_halfOf 3 (Option.some Jvm.ClassFile.FieldType.int) ∈ gt_bl := gt_in (List.mem_of_getElem? (i := 588) rfl) rfl
theorem kv_TL_halfOf : KV y_TL_halfOf b_TL_halfOf 3 (Option.some Jvm.ClassFile.FieldType.int) 2 := ⟨mc_TL_halfOf, mw_519, mw_520, mw_4, by decide +kernel⟩
abbrev b_TL_fill : ByteArray := prog_12_method_6_code
def y_TL_fill : MethodName := ⟨"PageMachine$Tlb", "fill", "(IIII)V"⟩
set_option maxRecDepth 20000 in
theorem mc_TL_fill : Cond.code y_TL_fill b_TL_fill 6 (Option.none : Option Jvm.ClassFile.FieldType) ∈ gt_bl := gt_in (List.mem_of_getElem? (i := 819) rfl) rfl
theorem kv_TL_fill : KV y_TL_fill b_TL_fill 6 (Option.none : Option Jvm.ClassFile.FieldType) 4 := ⟨mc_TL_fill, mw_750, mw_751, mw_4, by decide +kernel⟩
abbrev b_TL_match : ByteArray := prog_12_method_7_code
def y_TL_match : MethodName := ⟨"PageMachine$Tlb", "match", "(II)I"⟩
set_option maxRecDepth 20000 in
theorem mc_TL_match : Cond.code y_TL_match b_TL_match 6 (Option.some Jvm.ClassFile.FieldType.int) ∈ gt_bl := gt_in (List.mem_of_getElem? (i := 584) rfl) rfl
theorem kv_TL_match : KV y_TL_match b_TL_match 6 (Option.some Jvm.ClassFile.FieldType.int) 2 := ⟨mc_TL_match, mw_515, mw_516, mw_4, by decide +kernel⟩
abbrev b_IN_numberOfLeadingZeros : ByteArray := prog_18_method_47_code
def y_IN_numberOfLeadingZeros : MethodName := ⟨"java/lang/Integer", "numberOfLeadingZeros", "(I)I"⟩
set_option maxRecDepth 20000 in
theorem mc_IN_numberOfLeadingZeros : Cond.code y_IN_numberOfLeadingZeros b_IN_numberOfLeadingZeros 2 (Option.some Jvm.ClassFile.FieldType.int) ∈ gt_bl := gt_in (List.mem_of_getElem? (i := 855) rfl) rfl
theorem ks_IN_numberOfLeadingZeros : KS y_IN_numberOfLeadingZeros b_IN_numberOfLeadingZeros 2 (Option.some Jvm.ClassFile.FieldType.int) 1 := ⟨mc_IN_numberOfLeadingZeros, mw_787, mw_19, by decide +kernel⟩
