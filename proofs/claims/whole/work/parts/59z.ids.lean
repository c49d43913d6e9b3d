theorem i_CO_restartAt_c2 (σ7 : XS) (a1 : Int32) : f_CO_restartAt_c2 σ7 a1 = σ7 := id rfl
theorem i_CO_begin_c3 (σ31 : XS) (a1 : Int32) : f_CO_begin_c3 σ31 a1 = σ31 := id rfl
theorem i_CO_finish_c2 (σ13 : XS) : f_CO_finish_c2 σ13 = σ13 := id rfl
theorem i_CO_goBehindSlotTo_c2 (σ7 : XS) (a1 : Int32) : f_CO_goBehindSlotTo_c2 σ7 a1 = σ7 := id rfl
theorem i_CO_goAtOnceTo_c1 (σ2 : XS) (a1 : Int32) : f_CO_goAtOnceTo_c1 σ2 a1 = σ2 := id rfl
theorem i_ME_putWord_c1 (σ9 : XS) (a1 : Int32) (a2 : Int32) : f_ME_putWord_c1 σ9 a1 a2 = σ9 := id rfl
theorem i_TL_fill_c5 (σ65 : XS) (a1 : Int32) (a2 : Int32) (a3 : Int32) (a4 : Int32) : f_TL_fill_c5 σ65 a1 a2 a3 a4 = σ65 := id rfl
theorem i_SR_write_c4 (σ48 : XS) (a1 : Int32) (a2 : Int32) : f_SR_write_c4 σ48 a1 a2 = σ48 := id rfl
theorem i_SR_write_c3 (σ65 : XS) (a1 : Int32) (a2 : Int32) : f_SR_write_c3 σ65 a1 a2 = σ65 := id rfl
theorem i_SR_write_c2 (σ77 : XS) (a1 : Int32) (a2 : Int32) : f_SR_write_c2 σ77 a1 a2 = σ77 := id rfl
theorem i_SR_tick_c2 (σ30 : XS) : f_SR_tick_c2 σ30 = σ30 := id rfl
theorem i_SR_moveRandom_c1 (σ35 : XS) : f_SR_moveRandom_c1 σ35 = σ35 := id rfl
theorem i_SR_noteProbe_c1 (σ16 : XS) (a1 : Int32) : f_SR_noteProbe_c1 σ16 a1 = σ16 := id rfl
theorem i_SR_loadEntry_c3 (σ21 : XS) (a1 : Int32) (a2 : Int32) (a3 : Int32) : f_SR_loadEntry_c3 σ21 a1 a2 a3 = σ21 := id rfl
theorem i_SR_noteAddress_c3 (σ95 : XS) (a1 : Int32) (a2 : Int32) : f_SR_noteAddress_c3 σ95 a1 a2 = σ95 := id rfl
theorem i_AR_putChecked_c1 (z15 : XS × Int32) (a1 : Int32) (a2 : Int64) : f_AR_putChecked_c1 z15 a1 a2 = z15 := id rfl
theorem i_AR_shift_c6 (z177 : XS × Int32) (a1 : Int32) : f_AR_shift_c6 z177 a1 = z177 := id rfl
theorem i_AR_shift_c5 (z156 : XS × Int32) (a1 : Int32) : f_AR_shift_c5 z156 a1 = z156 := id rfl
theorem i_AR_shift_c4 (z135 : XS × Int32) (a1 : Int32) : f_AR_shift_c4 z135 a1 = z135 := id rfl
theorem i_AR_shift_c3 (z114 : XS × Int32) (a1 : Int32) : f_AR_shift_c3 z114 a1 = z114 := id rfl
theorem i_AR_shift_c2 (z96 : XS × Int32) (a1 : Int32) : f_AR_shift_c2 z96 a1 = z96 := id rfl
theorem i_AR_shift_c1 (z78 : XS × Int32) (a1 : Int32) : f_AR_shift_c1 z78 a1 = z78 := id rfl
theorem i_AR_moveOrCall_c2 (z104 : XS × Int32) (a1 : Int32) : f_AR_moveOrCall_c2 z104 a1 = z104 := id rfl
theorem i_AR_moveOrCall_c1 (z68 : XS × Int32) (a1 : Int32) : f_AR_moveOrCall_c1 z68 a1 = z68 := id rfl
theorem i_AR_moveHiLo_c3 (z88 : XS × Int32) (a1 : Int32) : f_AR_moveHiLo_c3 z88 a1 = z88 := id rfl
theorem i_AR_moveHiLo_c1 (z50 : XS × Int32) (a1 : Int32) : f_AR_moveHiLo_c1 z50 a1 = z50 := id rfl
theorem i_AR_multiplyOrDivide_c4 (z98 : XS × Int32) (a1 : Int32) : f_AR_multiplyOrDivide_c4 z98 a1 = z98 := id rfl
theorem i_AR_multiplyOrDivide_c3 (z73 : XS × Int32) (a1 : Int32) : f_AR_multiplyOrDivide_c3 z73 a1 = z73 := id rfl
theorem i_AR_multiplyOrDivide_c2 (z52 : XS × Int32) (a1 : Int32) : f_AR_multiplyOrDivide_c2 z52 a1 = z52 := id rfl
theorem i_AR_multiplyOrDivide_c1 (z40 : XS × Int32) (a1 : Int32) : f_AR_multiplyOrDivide_c1 z40 a1 = z40 := id rfl
theorem i_AR_addOrCombine_c8 (z168 : XS × Int32) (a1 : Int32) : f_AR_addOrCombine_c8 z168 a1 = z168 := id rfl
theorem i_AR_addOrCombine_c7 (z153 : XS × Int32) (a1 : Int32) : f_AR_addOrCombine_c7 z153 a1 = z153 := id rfl
theorem i_AR_addOrCombine_c6 (z140 : XS × Int32) (a1 : Int32) : f_AR_addOrCombine_c6 z140 a1 = z140 := id rfl
theorem i_AR_addOrCombine_c5 (z127 : XS × Int32) (a1 : Int32) : f_AR_addOrCombine_c5 z127 a1 = z127 := id rfl
theorem i_AR_addOrCombine_c4 (z114 : XS × Int32) (a1 : Int32) : f_AR_addOrCombine_c4 z114 a1 = z114 := id rfl
theorem i_AR_addOrCombine_c3 (z101 : XS × Int32) (a1 : Int32) : f_AR_addOrCombine_c3 z101 a1 = z101 := id rfl
theorem i_AR_addOrCombine_c2 (z89 : XS × Int32) (a1 : Int32) : f_AR_addOrCombine_c2 z89 a1 = z89 := id rfl
theorem i_AR_addOrCombine_c1 (z76 : XS × Int32) (a1 : Int32) : f_AR_addOrCombine_c1 z76 a1 = z76 := id rfl
theorem i_AR_compare_c2 (z65 : XS × Int32) (a1 : Int32) : f_AR_compare_c2 z65 a1 = z65 := id rfl
theorem i_AR_compare_c1 (z93 : XS × Int32) (a1 : Int32) : f_AR_compare_c1 z93 a1 = z93 := id rfl
theorem i_AR_performOp0_c6 (z84 : XS × Int32) : f_AR_performOp0_c6 z84 = z84 := id rfl
theorem i_AR_performOp0_c5 (z78 : XS × Int32) : f_AR_performOp0_c5 z78 = z78 := id rfl
theorem i_AR_performOp0_c4 (z72 : XS × Int32) : f_AR_performOp0_c4 z72 = z72 := id rfl
theorem i_AR_performOp0_c3 (z66 : XS × Int32) : f_AR_performOp0_c3 z66 = z66 := id rfl
theorem i_AR_performOp0_c2 (z60 : XS × Int32) : f_AR_performOp0_c2 z60 = z60 := id rfl
theorem i_AR_performOp0_c1 (z54 : XS × Int32) : f_AR_performOp0_c1 z54 = z54 := id rfl
theorem i_AR_immediate_c8 (z126 : XS × Int32) : f_AR_immediate_c8 z126 = z126 := id rfl
theorem i_AR_immediate_c7 (z148 : XS × Int32) : f_AR_immediate_c7 z148 = z148 := id rfl
theorem i_AR_immediate_c6 (z201 : XS × Int32) : f_AR_immediate_c6 z201 = z201 := id rfl
theorem i_AR_immediate_c5 (z187 : XS × Int32) : f_AR_immediate_c5 z187 = z187 := id rfl
theorem i_AR_immediate_c4 (z174 : XS × Int32) : f_AR_immediate_c4 z174 = z174 := id rfl
theorem i_AR_immediate_c3 (z161 : XS × Int32) : f_AR_immediate_c3 z161 = z161 := id rfl
theorem i_AR_immediate_c2 (z107 : XS × Int32) : f_AR_immediate_c2 z107 = z107 := id rfl
theorem i_AR_immediate_c1 (z95 : XS × Int32) : f_AR_immediate_c1 z95 = z95 := id rfl
theorem i_AR_performOp1C_c7 (z208 : XS × Int32) : f_AR_performOp1C_c7 z208 = z208 := id rfl
theorem i_AR_performOp1C_c6 (z187 : XS × Int32) : f_AR_performOp1C_c6 z187 = z187 := id rfl
theorem i_AR_performOp1C_c5 (z168 : XS × Int32) : f_AR_performOp1C_c5 z168 = z168 := id rfl
theorem i_AR_performOp1C_c4 (z151 : XS × Int32) : f_AR_performOp1C_c4 z151 = z151 := id rfl
theorem i_AR_performOp1C_c3 (z134 : XS × Int32) : f_AR_performOp1C_c3 z134 = z134 := id rfl
theorem i_AR_performOp1C_c2 (z110 : XS × Int32) : f_AR_performOp1C_c2 z110 = z110 := id rfl
theorem i_AR_performOp1C_c1 (z93 : XS × Int32) : f_AR_performOp1C_c1 z93 = z93 := id rfl
theorem i_BR_branch_c3 (z27 : XS) (a1 : Bool) (a2 : Bool) : f_BR_branch_c3 z27 a1 a2 = z27 := id rfl
theorem i_BR_branch_c2 (z51 : XS) (a1 : Bool) (a2 : Bool) : f_BR_branch_c2 z51 a1 a2 = z51 := id rfl
theorem i_BR_branch_c1 (z71 : XS) (a1 : Bool) (a2 : Bool) : f_BR_branch_c1 z71 a1 a2 = z71 := id rfl
theorem i_BR_jumpToRegister_c2 (z52 : XS × Int32) (a1 : Bool) : f_BR_jumpToRegister_c2 z52 a1 = z52 := id rfl
theorem i_BR_jump_c2 (z62 : XS × Int32) (a1 : Bool) : f_BR_jump_c2 z62 a1 = z62 := id rfl
theorem i_BR_bySign_c2 (z93 : XS × Int32) : f_BR_bySign_c2 z93 = z93 := id rfl
theorem i_LS_endLink_c2 (z28 : XS × Int32) : f_LS_endLink_c2 z28 = z28 := id rfl
theorem i_LS_load_c3 (z89 : XS × Int32) : f_LS_load_c3 z89 = z89 := id rfl
theorem i_LS_store_c3 (z97 : XS × Int32) : f_LS_store_c3 z97 = z97 := id rfl
theorem i_CP_command_c5 (z120 : XS × Int32) (a1 : Int32) : f_CP_command_c5 z120 a1 = z120 := id rfl
theorem i_CP_command_c4 (z100 : XS × Int32) (a1 : Int32) : f_CP_command_c4 z100 a1 = z100 := id rfl
theorem i_CP_command_c3 (z95 : XS × Int32) (a1 : Int32) : f_CP_command_c3 z95 a1 = z95 := id rfl
theorem i_CP_command_c2 (z82 : XS × Int32) (a1 : Int32) : f_CP_command_c2 z82 a1 = z82 := id rfl
theorem i_CP_command_c1 (z69 : XS × Int32) (a1 : Int32) : f_CP_command_c1 z69 a1 = z69 := id rfl
theorem i_CP_perform_c3 (z51 : XS × Int32) : f_CP_perform_c3 z51 = z51 := id rfl
theorem i_CP_perform_c1 (z109 : XS × Int32) : f_CP_perform_c1 z109 = z109 := id rfl
theorem i_PR_enter_c3 (z54 : XS) (a1 : Int32) : f_PR_enter_c3 z54 a1 = z54 := id rfl
theorem i_PR_performOp0_c3 (z54 : XS × Int32) : f_PR_performOp0_c3 z54 = z54 := id rfl
theorem i_PR_performOp0_c2 (z46 : XS × Int32) : f_PR_performOp0_c2 z46 = z46 := id rfl
theorem i_PR_performOp0_c1 (z37 : XS × Int32) : f_PR_performOp0_c1 z37 = z37 := id rfl
theorem i_PR_performOp1_c1 (z48 : XS × Int32) : f_PR_performOp1_c1 z48 = z48 := id rfl
theorem i_PR_perform_c10 (z300 : XS × Int32) (a1 : Int32) : f_PR_perform_c10 z300 a1 = z300 := id rfl
theorem i_PR_perform_c9 (z308 : XS × Int32) (a1 : Int32) : f_PR_perform_c9 z308 a1 = z308 := id rfl
theorem i_PR_perform_c8 (z316 : XS × Int32) (a1 : Int32) : f_PR_perform_c8 z316 a1 = z316 := id rfl
theorem i_PR_perform_c7 (z347 : XS × Int32) (a1 : Int32) : f_PR_perform_c7 z347 a1 = z347 := id rfl
theorem i_PR_perform_c6 (z355 : XS × Int32) (a1 : Int32) : f_PR_perform_c6 z355 a1 = z355 := id rfl
theorem i_PR_perform_c5 (z339 : XS × Int32) (a1 : Int32) : f_PR_perform_c5 z339 a1 = z339 := id rfl
theorem i_PR_perform_c4 (z292 : XS × Int32) (a1 : Int32) : f_PR_perform_c4 z292 a1 = z292 := id rfl
theorem i_PR_perform_c3 (z283 : XS × Int32) (a1 : Int32) : f_PR_perform_c3 z283 a1 = z283 := id rfl
theorem i_PR_perform_c2 (z274 : XS × Int32) (a1 : Int32) : f_PR_perform_c2 z274 a1 = z274 := id rfl
theorem i_PR_perform_c1 (z269 : XS × Int32) (a1 : Int32) : f_PR_perform_c1 z269 a1 = z269 := id rfl
theorem i_MO_put_c1 (σ14 : MS) (a1 : Int32) (a2 : Int32) : f_MO_put_c1 σ14 a1 a2 = σ14 := id rfl
theorem i_MO_write_c4 (σ61 : MS) (a1 : Int32) (a2 : Int32) : f_MO_write_c4 σ61 a1 a2 = σ61 := id rfl
theorem i_MO_aligned_c1 (z32 : MS × Int64) (a1 : Int32) (a2 : Int32) (a3 : Bool) (a4 : Bool) : f_MO_aligned_c1 z32 a1 a2 a3 a4 = z32 := id rfl
theorem i_MO_store_c1 (σ68 : MS) (a1 : Int64) (a2 : Int32) (a3 : Int32) : f_MO_store_c1 σ68 a1 a2 a3 = σ68 := id rfl
theorem i_MO_enter_c10 (σ255 : MS) : f_MO_enter_c10 σ255 = σ255 := id rfl
theorem i_MO_other_c2 (z123 : MS × Int32) (a1 : Int32) : f_MO_other_c2 z123 a1 = z123.1 := id rfl
theorem i_MO_branch_c4 (σ51 : MS) (a1 : Bool) (a2 : Int32) (a3 : Bool) : f_MO_branch_c4 σ51 a1 a2 a3 = σ51 := id rfl
theorem i_MO_branch_c1 (σ16 : MS) (a1 : Bool) (a2 : Int32) (a3 : Bool) : f_MO_branch_c1 σ16 a1 a2 a3 = σ16 := id rfl
theorem i_MO_shift_c2 (z52 : MS) (a1 : Int32) (a2 : Int32) (a3 : Int32) (a4 : Int32) : f_MO_shift_c2 z52 a1 a2 a3 a4 = z52 := id rfl
theorem i_MO_shift_c1 (z14 : MS × Int32) (a1 : Int32) (a2 : Int32) (a3 : Int32) (a4 : Int32) : f_MO_shift_c1 z14 a1 a2 a3 a4 = z14.1 := id rfl
theorem i_MO_moves_c6 (z39 : MS) (a1 : Int32) (a2 : Int32) (a3 : Int32) (a4 : Int32) : f_MO_moves_c6 z39 a1 a2 a3 a4 = z39 := id rfl
theorem i_MO_moves_c5 (z71 : MS × Int32) (a1 : Int32) (a2 : Int32) (a3 : Int32) (a4 : Int32) : f_MO_moves_c5 z71 a1 a2 a3 a4 = z71.1 := id rfl
theorem i_MO_moves_c4 (z109 : MS) (a1 : Int32) (a2 : Int32) (a3 : Int32) (a4 : Int32) : f_MO_moves_c4 z109 a1 a2 a3 a4 = z109 := id rfl
theorem i_MO_moves_c3 (σ123 : MS) (a1 : Int32) (a2 : Int32) (a3 : Int32) (a4 : Int32) : f_MO_moves_c3 σ123 a1 a2 a3 a4 = σ123 := id rfl
theorem i_MO_moves_c2 (σ137 : MS) (a1 : Int32) (a2 : Int32) (a3 : Int32) (a4 : Int32) : f_MO_moves_c2 σ137 a1 a2 a3 a4 = σ137 := id rfl
theorem i_MO_moves_c1 (z152 : MS × Int32) (a1 : Int32) (a2 : Int32) (a3 : Int32) (a4 : Int32) : f_MO_moves_c1 z152 a1 a2 a3 a4 = z152.1 := id rfl
theorem i_MO_setBoth_c2 (σ12 : MS) (a1 : Int64) : f_MO_setBoth_c2 σ12 a1 = σ12 := id rfl
theorem i_MO_divides_c3 (z47 : MS) (a1 : Int32) (a2 : Int32) (a3 : Int32) : f_MO_divides_c3 z47 a1 a2 a3 = z47 := id rfl
theorem i_MO_divides_c2 (σ77 : MS) (a1 : Int32) (a2 : Int32) (a3 : Int32) : f_MO_divides_c2 σ77 a1 a2 a3 = σ77 := id rfl
theorem i_MO_sums_c6 (z48 : MS × Int32) (a1 : Int32) (a2 : Int32) (a3 : Int32) (a4 : Int32) : f_MO_sums_c6 z48 a1 a2 a3 a4 = z48.1 := id rfl
theorem i_MO_sums_c5 (z60 : MS) (a1 : Int32) (a2 : Int32) (a3 : Int32) (a4 : Int32) : f_MO_sums_c5 z60 a1 a2 a3 a4 = z60 := id rfl
theorem i_MO_sums_c4 (z97 : MS) (a1 : Int32) (a2 : Int32) (a3 : Int32) (a4 : Int32) : f_MO_sums_c4 z97 a1 a2 a3 a4 = z97 := id rfl
theorem i_MO_sums_c3 (z210 : MS) (a1 : Int32) (a2 : Int32) (a3 : Int32) (a4 : Int32) : f_MO_sums_c3 z210 a1 a2 a3 a4 = z210 := id rfl
theorem i_MO_sums_c2 (z161 : MS) (a1 : Int32) (a2 : Int32) (a3 : Int32) (a4 : Int32) : f_MO_sums_c2 z161 a1 a2 a3 a4 = z161 := id rfl
theorem i_MO_sums_c1 (z219 : MS × Int32) (a1 : Int32) (a2 : Int32) (a3 : Int32) (a4 : Int32) : f_MO_sums_c1 z219 a1 a2 a3 a4 = z219.1 := id rfl
theorem i_MO_trap_c2 (z117 : MS × Int32) (a1 : Int32) (a2 : Int32) (a3 : Int32) : f_MO_trap_c2 z117 a1 a2 a3 = z117.1 := id rfl
theorem i_MO_trap_c1 (z132 : MS × Int32) (a1 : Int32) (a2 : Int32) (a3 : Int32) : f_MO_trap_c1 z132 a1 a2 a3 = z132.1 := id rfl
theorem i_MO_byRegister_c4 (z50 : MS × Int32) (a1 : Int32) (a2 : Int32) (a3 : Int32) : f_MO_byRegister_c4 z50 a1 a2 a3 = z50.1 := id rfl
theorem i_MO_byRegister_c3 (z130 : MS) (a1 : Int32) (a2 : Int32) (a3 : Int32) : f_MO_byRegister_c3 z130 a1 a2 a3 = z130 := id rfl
theorem i_MO_byRegister_c1 (z18 : MS) (a1 : Int32) (a2 : Int32) (a3 : Int32) : f_MO_byRegister_c1 z18 a1 a2 a3 = z18 := id rfl
theorem i_MO_branches_c4 (z159 : MS) (a1 : Int32) (a2 : Int32) (a3 : Int32) (a4 : Int32) (a5 : Int32) : f_MO_branches_c4 z159 a1 a2 a3 a4 a5 = z159 := id rfl
theorem i_MO_branches_c3 (z57 : MS) (a1 : Int32) (a2 : Int32) (a3 : Int32) (a4 : Int32) (a5 : Int32) : f_MO_branches_c3 z57 a1 a2 a3 a4 a5 = z57 := id rfl
theorem i_MO_branches_c2 (z10 : MS × Int32) (a1 : Int32) (a2 : Int32) (a3 : Int32) (a4 : Int32) (a5 : Int32) : f_MO_branches_c2 z10 a1 a2 a3 a4 a5 = z10.1 := id rfl
theorem i_MO_immediate_c2 (z145 : MS) (a1 : Int32) (a2 : Int32) (a3 : Int32) (a4 : Int32) : f_MO_immediate_c2 z145 a1 a2 a3 a4 = z145 := id rfl
theorem i_MO_immediate_c1 (z34 : MS × Int32) (a1 : Int32) (a2 : Int32) (a3 : Int32) (a4 : Int32) : f_MO_immediate_c1 z34 a1 a2 a3 a4 = z34.1 := id rfl
theorem i_MO_multiplies_c5 (z104 : MS) (a1 : Int32) (a2 : Int32) (a3 : Int32) : f_MO_multiplies_c5 z104 a1 a2 a3 = z104 := id rfl
theorem i_MO_multiplies_c4 (z162 : MS) (a1 : Int32) (a2 : Int32) (a3 : Int32) : f_MO_multiplies_c4 z162 a1 a2 a3 = z162 := id rfl
theorem i_MO_multiplies_c3 (z80 : MS) (a1 : Int32) (a2 : Int32) (a3 : Int32) : f_MO_multiplies_c3 z80 a1 a2 a3 = z80 := id rfl
theorem i_MO_multiplies_c2 (z122 : MS) (a1 : Int32) (a2 : Int32) (a3 : Int32) : f_MO_multiplies_c2 z122 a1 a2 a3 = z122 := id rfl
theorem i_MO_multiplies_c1 (z171 : MS × Int32) (a1 : Int32) (a2 : Int32) (a3 : Int32) : f_MO_multiplies_c1 z171 a1 a2 a3 = z171.1 := id rfl
theorem i_MO_special_c8 (z79 : MS) (a1 : Int32) (a2 : Int32) (a3 : Int32) : f_MO_special_c8 z79 a1 a2 a3 = z79 := id rfl
theorem i_MO_special_c7 (z48 : MS × Int32) (a1 : Int32) (a2 : Int32) (a3 : Int32) : f_MO_special_c7 z48 a1 a2 a3 = z48.1 := id rfl
theorem i_MO_special_c5 (z235 : MS) (a1 : Int32) (a2 : Int32) (a3 : Int32) : f_MO_special_c5 z235 a1 a2 a3 = z235 := id rfl
theorem i_MO_special_c4 (z113 : MS) (a1 : Int32) (a2 : Int32) (a3 : Int32) : f_MO_special_c4 z113 a1 a2 a3 = z113 := id rfl
theorem i_MO_special_c3 (z133 : MS) (a1 : Int32) (a2 : Int32) (a3 : Int32) : f_MO_special_c3 z133 a1 a2 a3 = z133 := id rfl
theorem i_MO_special_c2 (z151 : MS) (a1 : Int32) (a2 : Int32) (a3 : Int32) : f_MO_special_c2 z151 a1 a2 a3 = z151 := id rfl
theorem i_MO_special_c1 (z248 : MS) (a1 : Int32) (a2 : Int32) (a3 : Int32) : f_MO_special_c1 z248 a1 a2 a3 = z248 := id rfl
theorem i_MO_setEntry_c5 (σ99 : MS) (a1 : Int32) : f_MO_setEntry_c5 σ99 a1 = σ99 := id rfl
theorem i_MO_tables_c10 (z201 : MS × Int32) (a1 : Int32) : f_MO_tables_c10 z201 a1 = z201.1 := id rfl
theorem i_MO_tables_c9 (σ244 : MS) (a1 : Int32) : f_MO_tables_c9 σ244 a1 = σ244 := id rfl
theorem i_MO_tables_c6 (σ175 : MS) (a1 : Int32) : f_MO_tables_c6 σ175 a1 = σ175 := id rfl
theorem i_MO_tables_c5 (σ94 : MS) (a1 : Int32) : f_MO_tables_c5 σ94 a1 = σ94 := id rfl
theorem i_MO_tables_c2 (z113 : MS) (a1 : Int32) : f_MO_tables_c2 z113 a1 = z113 := id rfl
theorem i_MO_tables_c1 (z132 : MS) (a1 : Int32) : f_MO_tables_c1 z132 a1 = z132 := id rfl
theorem i_MO_system_c5 (z53 : MS) (a1 : Int32) (a2 : Int32) (a3 : Int32) (a4 : Int32) : f_MO_system_c5 z53 a1 a2 a3 a4 = z53 := id rfl
theorem i_MO_system_c4 (z74 : MS) (a1 : Int32) (a2 : Int32) (a3 : Int32) (a4 : Int32) : f_MO_system_c4 z74 a1 a2 a3 a4 = z74 := id rfl
theorem i_MO_system_c3 (z89 : MS × Int32) (a1 : Int32) (a2 : Int32) (a3 : Int32) (a4 : Int32) : f_MO_system_c3 z89 a1 a2 a3 a4 = z89.1 := id rfl
theorem i_MO_system_c2 (z101 : MS) (a1 : Int32) (a2 : Int32) (a3 : Int32) (a4 : Int32) : f_MO_system_c2 z101 a1 a2 a3 a4 = z101 := id rfl
theorem i_MO_system_c1 (z19 : MS × Int32) (a1 : Int32) (a2 : Int32) (a3 : Int32) (a4 : Int32) : f_MO_system_c1 z19 a1 a2 a3 a4 = z19.1 := id rfl
theorem i_MO_load_c2 (σ56 : MS) (a1 : Int32) (a2 : Int32) (a3 : Int32) (a4 : Int64) : f_MO_load_c2 σ56 a1 a2 a3 a4 = σ56 := id rfl
theorem i_MO_keep_c3 (σ44 : MS) (a1 : Int32) (a2 : Int32) (a3 : Int32) (a4 : Int64) : f_MO_keep_c3 σ44 a1 a2 a3 a4 = σ44 := id rfl
theorem i_MO_partly_c2 (z191 : MS) (a1 : Int32) (a2 : Int32) (a3 : Int64) : f_MO_partly_c2 z191 a1 a2 a3 = z191 := id rfl
theorem i_MO_partly_c1 (z126 : MS) (a1 : Int32) (a2 : Int32) (a3 : Int64) : f_MO_partly_c1 z126 a1 a2 a3 = z126 := id rfl
theorem i_MO_memories_c5 (z191 : MS) (a1 : Int32) (a2 : Int32) (a3 : Int32) : f_MO_memories_c5 z191 a1 a2 a3 = z191 := id rfl
theorem i_MO_memories_c4 (z209 : MS) (a1 : Int32) (a2 : Int32) (a3 : Int32) : f_MO_memories_c4 z209 a1 a2 a3 = z209 := id rfl
theorem i_MO_memories_c3 (z222 : MS) (a1 : Int32) (a2 : Int32) (a3 : Int32) : f_MO_memories_c3 z222 a1 a2 a3 = z222 := id rfl
theorem i_MO_memories_c1 (z105 : MS) (a1 : Int32) (a2 : Int32) (a3 : Int32) : f_MO_memories_c1 z105 a1 a2 a3 = z105 := id rfl
theorem i_MO_perform_c8 (z108 : MS) (a1 : Int32) : f_MO_perform_c8 z108 a1 = z108 := id rfl
theorem i_MO_perform_c7 (z152 : MS) (a1 : Int32) : f_MO_perform_c7 z152 a1 = z152 := id rfl
theorem i_MO_perform_c6 (z58 : MS) (a1 : Int32) : f_MO_perform_c6 z58 a1 = z58 := id rfl
theorem i_MO_perform_c5 (z76 : MS) (a1 : Int32) : f_MO_perform_c5 z76 a1 = z76 := id rfl
theorem i_MO_perform_c4 (z128 : MS) (a1 : Int32) : f_MO_perform_c4 z128 a1 = z128 := id rfl
theorem i_MO_perform_c3 (z170 : MS) (a1 : Int32) : f_MO_perform_c3 z170 a1 = z170 := id rfl
theorem i_MO_perform_c2 (z191 : MS) (a1 : Int32) : f_MO_perform_c2 z191 a1 = z191 := id rfl
theorem i_MO_perform_c1 (z199 : MS) (a1 : Int32) : f_MO_perform_c1 z199 a1 = z199 := id rfl
theorem i_MO_poke_c4 (z13 : MS × Int32) (a1 : Int32) (a2 : Int32) : f_MO_poke_c4 z13 a1 a2 = z13 := id rfl
theorem i_MO_poke_c3 (z29 : MS × Int32) (a1 : Int32) (a2 : Int32) : f_MO_poke_c3 z29 a1 a2 = z29 := id rfl
theorem i_MO_peek_c3 (z13 : MS × Int32) (a1 : Int32) : f_MO_peek_c3 z13 a1 = z13 := id rfl
theorem i_MO_peek_c2 (z40 : MS × Int32) (a1 : Int32) : f_MO_peek_c2 z40 a1 = z40 := id rfl
theorem i_MO_set_c8 (σ93 : MS) (a1 : Int32) (a2 : Int32) (a3 : Int32) : f_MO_set_c8 σ93 a1 a2 a3 = σ93 := id rfl
theorem i_MO_set_c6 (σ15 : MS) (a1 : Int32) (a2 : Int32) (a3 : Int32) : f_MO_set_c6 σ15 a1 a2 a3 = σ15 := id rfl
theorem i_MO_set_c5 (z29 : MS) (a1 : Int32) (a2 : Int32) (a3 : Int32) : f_MO_set_c5 z29 a1 a2 a3 = z29 := id rfl
theorem i_MO_set_c4 (σ48 : MS) (a1 : Int32) (a2 : Int32) (a3 : Int32) : f_MO_set_c4 σ48 a1 a2 a3 = σ48 := id rfl
theorem i_MO_set_c2 (z102 : MS) (a1 : Int32) (a2 : Int32) (a3 : Int32) : f_MO_set_c2 z102 a1 a2 a3 = z102 := id rfl
theorem i_MO_get_c2 (z15 : MS × Int32) (a1 : Int32) (a2 : Int32) : f_MO_get_c2 z15 a1 a2 = z15 := id rfl
theorem i_MO_entry_c2 (z26 : MS × Int32) (a1 : Int32) (a2 : Int32) : f_MO_entry_c2 z26 a1 a2 = z26 := id rfl
theorem i_MO_count_c2 (z17 : MS × Int32) (a1 : Int32) : f_MO_count_c2 z17 a1 = z17 := id rfl
theorem i_MO_step_c2 (z18 : MS × Int32) (a1 : Int32) : f_MO_step_c2 z18 a1 = z18 := id rfl
