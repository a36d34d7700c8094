theorem nm_X3_3 : Cond.methodLink RX3 3 Lib.objectInit ∈ tb := tb_at 78 (by decide +kernel) (by decide +kernel)
theorem no_i : Cond.instanceMethod Lib.objectInit ∈ tb := tb_at 58 (by decide +kernel) (by decide +kernel)
theorem no_c : Cond.code Lib.objectInit ⟨#[0xb1]⟩ 1 none ∈ tb := tb_at 59 (by decide +kernel) (by decide +kernel)
theorem wac_I : Cond.arrayClass .int ∈ tb := by decide +kernel
theorem wac_Z : Cond.arrayClass .boolean ∈ tb := by decide +kernel
theorem nm_X0_3 : Cond.methodLink RX0 3 Lib.objectInit ∈ tb := tb_at 143 (by decide +kernel) (by decide +kernel)
theorem nm_X1_3 : Cond.methodLink RX1 3 Lib.objectInit ∈ tb := tb_at 65 (by decide +kernel) (by decide +kernel)
theorem nm_X4_1 : Cond.methodLink RX4 1 Lib.objectInit ∈ tb := tb_at 251 (by decide +kernel) (by decide +kernel)
theorem wl_X4_16 : Cond.classLink RX4 16 ("[" ++ (FieldType.array .int).toString) ∈ tb := by decide +kernel
theorem nm_X5_5 : Cond.methodLink RX5 5 Lib.objectInit ∈ tb := tb_at 183 (by decide +kernel) (by decide +kernel)
theorem wl_X5_19 : Cond.classLink RX5 19 RX0 ∈ tb := tb_at 184 (by decide +kernel) (by decide +kernel)
theorem wq_X0 : Cond.instantiable RX0 11 ∈ tb := tb_at 139 (by decide +kernel) (by decide +kernel)
theorem wm_X5_21 : Cond.methodLink RX5 21 yX0_init ∈ tb := tb_at 185 (by decide +kernel) (by decide +kernel)
theorem wi_X0_init : Cond.instanceMethod yX0_init ∈ tb := tb_at 141 (by decide +kernel) (by decide +kernel)
theorem wv_X0_init : Cond.initialized yX0_init.cls ∈ tb := tb_at 46 (by decide +kernel) (by decide +kernel)
theorem wc_X0_init : Cond.code yX0_init cX0_init 1 none ∈ tb := tb_at 142 (by decide +kernel) (by decide +kernel)
theorem wz_X0_init : yX0_init.cls ≠ "java/lang/invoke/MethodHandle" ∧ yX0_init.cls ≠ "java/lang/invoke/VarHandle" ∧ (parseMethodDescriptor yX0_init.desc).map (fun d => d.parameters.length) = some 0 := by decide +kernel
theorem wl_X5_26 : Cond.classLink RX5 26 ("[" ++ (FieldType.array .int).toString) ∈ tb := by decide +kernel
theorem nm_X7_1 : Cond.methodLink RX7 1 Lib.objectInit ∈ tb := tb_at 740 (by decide +kernel) (by decide +kernel)
theorem wl_X2_9 : Cond.classLink RX2 9 RX3 ∈ tb := tb_at 124 (by decide +kernel) (by decide +kernel)
theorem nm_X2_1 : Cond.methodLink RX2 1 Lib.objectInit ∈ tb := tb_at 123 (by decide +kernel) (by decide +kernel)
theorem wm_X2_15 : Cond.methodLink RX2 15 yX3_init ∈ tb := tb_at 126 (by decide +kernel) (by decide +kernel)
theorem wi_X3_init : Cond.instanceMethod yX3_init ∈ tb := tb_at 76 (by decide +kernel) (by decide +kernel)
theorem wv_X3_init : Cond.initialized yX3_init.cls ∈ tb := tb_at 43 (by decide +kernel) (by decide +kernel)
theorem wc_X3_init : Cond.code yX3_init cX3_init 1 none ∈ tb := tb_at 77 (by decide +kernel) (by decide +kernel)
theorem wz_X3_init : yX3_init.cls ≠ "java/lang/invoke/MethodHandle" ∧ yX3_init.cls ≠ "java/lang/invoke/VarHandle" ∧ (parseMethodDescriptor yX3_init.desc).map (fun d => d.parameters.length) = some 0 := by decide +kernel
theorem wq_X3 : Cond.instantiable RX3 7 ∈ tb := tb_at 74 (by decide +kernel) (by decide +kernel)
theorem wm_X3_34 : Cond.methodLink RX3 34 yJ7_fill_53178 ∈ tb := tb_at 79 (by decide +kernel) (by decide +kernel)
