/-- what the tables say of a constructor, and how many parameters it has -/
def zMI (y : MethodName) (b : ByteArray) (n : Nat) (np : Nat) : Prop := plainName y.cls = true ∧ Cond.code y b n none ∈ zU ∧ Cond.instanceMethod y ∈ zU ∧ Cond.initialized y.cls ∈ zU ∧ (y.cls ≠ "java/lang/invoke/MethodHandle" ∧ y.cls ≠ "java/lang/invoke/VarHandle") ∧ (parseMethodDescriptor y.desc).map (fun d => d.parameters.length) = some np ∧ y.name = "<init>"

set_option maxRecDepth 20000 in
theorem zi_X0 : Cond.instantiable RX0 8 ∈ zU := zmem 113 (by decide +kernel) (by decide +kernel)
set_option maxRecDepth 20000 in
theorem zini_X0 : Cond.initialized RX0 ∈ zU := zmem 73 (by decide +kernel) (by decide +kernel)
set_option maxRecDepth 20000 in
theorem zmi_X0 : zMI yX0_init cX0_init 2 1 := ⟨rfl, zmem 116 (by decide +kernel) (by decide +kernel), zmem 115 (by decide +kernel) (by decide +kernel), zini_X0, ⟨by decide +kernel, by decide +kernel⟩, by decide +kernel, rfl⟩
set_option maxRecDepth 20000 in
theorem zi_X1 : Cond.instantiable RX1 4 ∈ zU := zmem 189 (by decide +kernel) (by decide +kernel)
set_option maxRecDepth 20000 in
theorem zini_X1 : Cond.initialized RX1 ∈ zU := zmem 75 (by decide +kernel) (by decide +kernel)
set_option maxRecDepth 20000 in
theorem zmi_X1 : zMI yX1_init cX1_init 1 0 := ⟨rfl, zmem 192 (by decide +kernel) (by decide +kernel), zmem 191 (by decide +kernel) (by decide +kernel), zini_X1, ⟨by decide +kernel, by decide +kernel⟩, by decide +kernel, rfl⟩
set_option maxRecDepth 20000 in
theorem zi_X2 : Cond.instantiable RX2 3 ∈ zU := zmem 251 (by decide +kernel) (by decide +kernel)
set_option maxRecDepth 20000 in
theorem zini_X2 : Cond.initialized RX2 ∈ zU := zmem 76 (by decide +kernel) (by decide +kernel)
set_option maxRecDepth 20000 in
theorem zmi_X2 : zMI yX2_init cX2_init 2 0 := ⟨rfl, zmem 254 (by decide +kernel) (by decide +kernel), zmem 253 (by decide +kernel) (by decide +kernel), zini_X2, ⟨by decide +kernel, by decide +kernel⟩, by decide +kernel, rfl⟩
set_option maxRecDepth 20000 in
theorem zi_X3 : Cond.instantiable RX3 6 ∈ zU := zmem 272 (by decide +kernel) (by decide +kernel)
set_option maxRecDepth 20000 in
theorem zini_X3 : Cond.initialized RX3 ∈ zU := zmem 77 (by decide +kernel) (by decide +kernel)
set_option maxRecDepth 20000 in
theorem zmi_X3 : zMI yX3_init cX3_init 1 0 := ⟨rfl, zmem 275 (by decide +kernel) (by decide +kernel), zmem 274 (by decide +kernel) (by decide +kernel), zini_X3, ⟨by decide +kernel, by decide +kernel⟩, by decide +kernel, rfl⟩
set_option maxRecDepth 20000 in
theorem zi_X4 : Cond.instantiable RX4 8 ∈ zU := zmem 151 (by decide +kernel) (by decide +kernel)
set_option maxRecDepth 20000 in
theorem zini_X4 : Cond.initialized RX4 ∈ zU := zmem 74 (by decide +kernel) (by decide +kernel)
set_option maxRecDepth 20000 in
theorem zmi_X4 : zMI yX4_init cX4_init 2 1 := ⟨rfl, zmem 154 (by decide +kernel) (by decide +kernel), zmem 153 (by decide +kernel) (by decide +kernel), zini_X4, ⟨by decide +kernel, by decide +kernel⟩, by decide +kernel, rfl⟩
set_option maxRecDepth 20000 in
theorem zi_X5 : Cond.instantiable RX5 12 ∈ zU := zmem 89 (by decide +kernel) (by decide +kernel)
set_option maxRecDepth 20000 in
theorem zini_X5 : Cond.initialized RX5 ∈ zU := zmem 72 (by decide +kernel) (by decide +kernel)
set_option maxRecDepth 20000 in
theorem zmi_X5 : zMI yX5_init cX5_init 2 0 := ⟨rfl, zmem 92 (by decide +kernel) (by decide +kernel), zmem 91 (by decide +kernel) (by decide +kernel), zini_X5, ⟨by decide +kernel, by decide +kernel⟩, by decide +kernel, rfl⟩
set_option maxRecDepth 20000 in
theorem zi_X6 : Cond.instantiable RX6 5 ∈ zU := zmem 81 (by decide +kernel) (by decide +kernel)
set_option maxRecDepth 20000 in
theorem zini_X6 : Cond.initialized RX6 ∈ zU := zmem 71 (by decide +kernel) (by decide +kernel)
set_option maxRecDepth 20000 in
theorem zmi_X6 : zMI yX6_init cX6_init 1 0 := ⟨rfl, zmem 84 (by decide +kernel) (by decide +kernel), zmem 83 (by decide +kernel) (by decide +kernel), zini_X6, ⟨by decide +kernel, by decide +kernel⟩, by decide +kernel, rfl⟩
set_option maxRecDepth 20000 in
theorem zi_X7 : Cond.instantiable RX7 15 ∈ zU := zmem 757 (by decide +kernel) (by decide +kernel)
set_option maxRecDepth 20000 in
theorem zini_X7 : Cond.initialized RX7 ∈ zU := zmem 78 (by decide +kernel) (by decide +kernel)
set_option maxRecDepth 20000 in
theorem zmi_X7 : zMI yX7_init cX7_init 1 0 := ⟨rfl, zmem 760 (by decide +kernel) (by decide +kernel), zmem 759 (by decide +kernel) (by decide +kernel), zini_X7, ⟨by decide +kernel, by decide +kernel⟩, by decide +kernel, rfl⟩
set_option maxRecDepth 20000 in
theorem zc_L_7 : Cond.classLink RL 7 "RightsDesk" ∈ zU := zmem 80 (by decide +kernel) (by decide +kernel)
set_option maxRecDepth 20000 in
theorem zl_L_9 : Cond.methodLink RL 9 yX6_init ∈ zU := zmem 82 (by decide +kernel) (by decide +kernel)
set_option maxRecDepth 20000 in
theorem zl_X6_1 : Cond.methodLink RX6 1 Lib.objectInit ∈ zU := zmem 85 (by decide +kernel) (by decide +kernel)
set_option maxRecDepth 20000 in
theorem zc_X6_7 : Cond.classLink RX6 7 "RightsDesk$State" ∈ zU := zmem 88 (by decide +kernel) (by decide +kernel)
set_option maxRecDepth 20000 in
theorem zl_X6_9 : Cond.methodLink RX6 9 yX5_init ∈ zU := zmem 90 (by decide +kernel) (by decide +kernel)
set_option maxRecDepth 20000 in
theorem zl_X5_3 : Cond.methodLink RX5 3 Lib.objectInit ∈ zU := zmem 93 (by decide +kernel) (by decide +kernel)
set_option maxRecDepth 20000 in
theorem zc_X5_14 : Cond.classLink RX5 14 "[I" ∈ zU := zmem 102 (by decide +kernel) (by decide +kernel)
set_option maxRecDepth 20000 in
theorem zc_X5_35 : Cond.classLink RX5 35 "RightsDesk$DateRow" ∈ zU := zmem 107 (by decide +kernel) (by decide +kernel)
set_option maxRecDepth 20000 in
theorem zc_X5_41 : Cond.classLink RX5 41 "RightsDesk$RightRow" ∈ zU := zmem 109 (by decide +kernel) (by decide +kernel)
set_option maxRecDepth 20000 in
theorem zc_X5_50 : Cond.classLink RX5 50 "RightsDesk$EventRow" ∈ zU := zmem 111 (by decide +kernel) (by decide +kernel)
set_option maxRecDepth 20000 in
theorem zl_X5_56 : Cond.methodLink RX5 56 yX0_init ∈ zU := zmem 114 (by decide +kernel) (by decide +kernel)
set_option maxRecDepth 20000 in
theorem zl_X0_3 : Cond.methodLink RX0 3 Lib.objectInit ∈ zU := zmem 117 (by decide +kernel) (by decide +kernel)
set_option maxRecDepth 20000 in
theorem zl_X5_59 : Cond.methodLink RX5 59 yX4_init ∈ zU := zmem 152 (by decide +kernel) (by decide +kernel)
set_option maxRecDepth 20000 in
theorem zl_X4_3 : Cond.methodLink RX4 3 Lib.objectInit ∈ zU := zmem 155 (by decide +kernel) (by decide +kernel)
set_option maxRecDepth 20000 in
theorem zl_X1_1 : Cond.methodLink RX1 1 Lib.objectInit ∈ zU := zmem 193 (by decide +kernel) (by decide +kernel)
set_option maxRecDepth 20000 in
theorem zc_X6_19 : Cond.classLink RX6 19 "RightsDesk$History" ∈ zU := zmem 250 (by decide +kernel) (by decide +kernel)
set_option maxRecDepth 20000 in
theorem zl_X6_21 : Cond.methodLink RX6 21 yX2_init ∈ zU := zmem 252 (by decide +kernel) (by decide +kernel)
set_option maxRecDepth 20000 in
theorem zl_X2_3 : Cond.methodLink RX2 3 Lib.objectInit ∈ zU := zmem 255 (by decide +kernel) (by decide +kernel)
set_option maxRecDepth 20000 in
theorem zc_X2_9 : Cond.classLink RX2 9 "RightsDesk$State" ∈ zU := zmem 256 (by decide +kernel) (by decide +kernel)
set_option maxRecDepth 20000 in
theorem zl_X2_17 : Cond.methodLink RX2 17 yX5_init ∈ zU := zmem 258 (by decide +kernel) (by decide +kernel)
set_option maxRecDepth 20000 in
theorem zc_X6_26 : Cond.classLink RX6 26 "RightsDesk$OrderText" ∈ zU := zmem 271 (by decide +kernel) (by decide +kernel)
set_option maxRecDepth 20000 in
theorem zl_X3_3 : Cond.methodLink RX3 3 Lib.objectInit ∈ zU := zmem 276 (by decide +kernel) (by decide +kernel)
set_option maxRecDepth 20000 in
theorem zc_L_10 : Cond.classLink RL 10 "RightsDeskModel" ∈ zU := zmem 756 (by decide +kernel) (by decide +kernel)
set_option maxRecDepth 20000 in
theorem zl_L_12 : Cond.methodLink RL 12 yX7_init ∈ zU := zmem 758 (by decide +kernel) (by decide +kernel)
set_option maxRecDepth 20000 in
theorem zl_X7_1 : Cond.methodLink RX7 1 Lib.objectInit ∈ zU := zmem 761 (by decide +kernel) (by decide +kernel)
set_option maxRecDepth 20000 in
theorem zobj : Cond.instanceMethod Lib.objectInit ∈ zU ∧ Cond.code Lib.objectInit ⟨#[0xb1]⟩ 1 none ∈ zU := ⟨zmem 86 (by decide +kernel) (by decide +kernel), zmem 87 (by decide +kernel) (by decide +kernel)⟩
set_option maxRecDepth 20000 in
theorem zcln : Cond.methodLink RX5 13 ⟨"[I", "clone", "()Ljava/lang/Object;"⟩ ∈ zU ∧ Cond.sameMethod "[I" "java/lang/Object" "clone" "()Ljava/lang/Object;" ∈ zU ∧ Cond.native ⟨"java/lang/Object", "clone", "()Ljava/lang/Object;"⟩ ∈ zU ∧ Cond.instanceMethod ⟨"java/lang/Object", "clone", "()Ljava/lang/Object;"⟩ ∈ zU ∧ Cond.selects "[I" ⟨"[I", "clone", "()Ljava/lang/Object;"⟩ ⟨"java/lang/Object", "clone", "()Ljava/lang/Object;"⟩ ∈ zU := ⟨zmem 96 (by decide +kernel) (by decide +kernel), zmem 97 (by decide +kernel) (by decide +kernel), zmem 98 (by decide +kernel) (by decide +kernel), zmem 99 (by decide +kernel) (by decide +kernel), zmem 100 (by decide +kernel) (by decide +kernel)⟩
set_option maxRecDepth 20000 in
theorem zarrI : Cond.arrayClass .int ∈ zU := zmem 150 (by decide +kernel) (by decide +kernel)
set_option maxRecDepth 20000 in
theorem zarrC : Cond.arrayClass .char ∈ zU := zmem 300 (by decide +kernel) (by decide +kernel)
set_option maxRecDepth 20000 in
theorem zt_castable : (Jvm.Cond.castable "[I" "java/lang/Cloneable") ∈ lw_tbl := List.mem_of_getElem? (i := 101) (by decide +kernel)
set_option maxRecDepth 20000 in
theorem zt_overX0 : (Jvm.Cond.arrayOver (Jvm.ClassFile.FieldType.object "RightsDesk$DateRow")) ∈ lw_tbl := List.mem_of_getElem? (i := 108) (by decide +kernel)
set_option maxRecDepth 20000 in
theorem zt_overX1 : (Jvm.Cond.arrayOver (Jvm.ClassFile.FieldType.object "RightsDesk$EventRow")) ∈ lw_tbl := List.mem_of_getElem? (i := 112) (by decide +kernel)
set_option maxRecDepth 20000 in
theorem zt_overX4 : (Jvm.Cond.arrayOver (Jvm.ClassFile.FieldType.object "RightsDesk$RightRow")) ∈ lw_tbl := List.mem_of_getElem? (i := 110) (by decide +kernel)
set_option maxRecDepth 20000 in
theorem zt_overX5 : (Jvm.Cond.arrayOver (Jvm.ClassFile.FieldType.object "RightsDesk$State")) ∈ lw_tbl := List.mem_of_getElem? (i := 257) (by decide +kernel)
set_option maxRecDepth 20000 in
theorem zt_FIRST_NUMBERS : Cond.laysStatic "RightsDesk" "FIRST_NUMBERS" "[I" ∈ lw_tbl := List.mem_of_getElem? (i := 95) (by decide +kernel)
set_option maxRecDepth 20000 in
theorem zt_FIRST_STAGE_DAYS : Cond.laysStatic "RightsDesk" "FIRST_STAGE_DAYS" "[I" ∈ lw_tbl := List.mem_of_getElem? (i := 104) (by decide +kernel)
set_option maxRecDepth 20000 in
theorem zt_FIRST_STAGE_FEES : Cond.laysStatic "RightsDesk" "FIRST_STAGE_FEES" "[I" ∈ lw_tbl := List.mem_of_getElem? (i := 106) (by decide +kernel)
set_option maxRecDepth 20000 in
theorem zt_LEAST_NUMBERS : Cond.laysStatic "RightsDesk" "LEAST_NUMBERS" "[I" ∈ lw_tbl := List.mem_of_getElem? (i := 381) (by decide +kernel)
set_option maxRecDepth 20000 in
theorem zt_MOST_NUMBERS : Cond.laysStatic "RightsDesk" "MOST_NUMBERS" "[I" ∈ lw_tbl := List.mem_of_getElem? (i := 383) (by decide +kernel)
