/-! codes as rows: printed by wip/gen/tabs.py -/
def p_js_length : List (Nat × Instr) := [(0, .aload_n 0), (1, .getfield 9), (4, .arraylength), (5, .aload_n 0), (6, .invokevirtual 335), (9, .ishr), (10, .ireturn)]
set_option maxRecDepth 100000 in
theorem q_js_length : dOk b_js_length p_js_length = true := dOk_w (by decide +kernel)
def p_js_coder : List (Nat × Instr) := [(0, .getstatic 38), (3, .ifCond .eq 10), (6, .aload_n 0), (7, .getfield 15), (10, .goto 4), (13, .iconst 1), (14, .ireturn)]
set_option maxRecDepth 100000 in
theorem q_js_coder : dOk b_js_coder p_js_coder = true := dOk_w (by decide +kernel)
def p_js_charAt : List (Nat × Instr) := [(0, .aload_n 0), (1, .invokevirtual 492), (4, .ifCond .eq 12), (7, .aload_n 0), (8, .getfield 9), (11, .iload_n 1), (12, .invokestatic 495), (15, .ireturn), (16, .aload_n 0), (17, .getfield 9), (20, .iload_n 1), (21, .invokestatic 498), (24, .ireturn)]
set_option maxRecDepth 100000 in
theorem q_js_charAt : dOk b_js_charAt p_js_charAt = true := dOk_w (by decide +kernel)
def p_js_isLatin1 : List (Nat × Instr) := [(0, .getstatic 38), (3, .ifCond .eq 14), (6, .aload_n 0), (7, .getfield 15), (10, .ifCond .ne 7), (13, .iconst 1), (14, .goto 4), (17, .iconst 0), (18, .ireturn)]
set_option maxRecDepth 100000 in
theorem q_js_isLatin1 : dOk b_js_isLatin1 p_js_isLatin1 = true := dOk_w (by decide +kernel)
def p_jl_charAt : List (Nat × Instr) := [(0, .iload_n 1), (1, .aload_n 0), (2, .arraylength), (3, .invokestatic 9), (6, .aload_n 0), (7, .iload_n 1), (8, .baload), (9, .sipush 255), (12, .iand), (13, .i2c), (14, .ireturn)]
set_option maxRecDepth 100000 in
theorem q_jl_charAt : dOk b_jl_charAt p_jl_charAt = true := dOk_w (by decide +kernel)
