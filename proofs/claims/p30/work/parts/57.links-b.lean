/-- what the tables say of a constructor, and how many parameters it has -/
def zMI (y : MethodName) (b : ByteArray) (n : Nat) (np : Nat) : Prop := plainName y.cls = true ∧ Cond.code y b n none ∈ zU ∧ Cond.instanceMethod y ∈ zU ∧ Cond.initialized y.cls ∈ zU ∧ (y.cls ≠ "java/lang/invoke/MethodHandle" ∧ y.cls ≠ "java/lang/invoke/VarHandle") ∧ (parseMethodDescriptor y.desc).map (fun d => d.parameters.length) = some np ∧ y.name = "<init>"

set_option maxRecDepth 20000 in
theorem zi_X0 : Cond.instantiable RX0 8 ∈ zU := zmem 73 (by decide +kernel) (by decide +kernel)
set_option maxRecDepth 20000 in
theorem zini_X0 : Cond.initialized RX0 ∈ zU := zmem 34 (by decide +kernel) (by decide +kernel)
set_option maxRecDepth 20000 in
theorem zmi_X0 : zMI yX0_init cX0_init 2 1 := ⟨rfl, zmem 76 (by decide +kernel) (by decide +kernel), zmem 75 (by decide +kernel) (by decide +kernel), zini_X0, ⟨by decide +kernel, by decide +kernel⟩, by decide +kernel, rfl⟩
set_option maxRecDepth 20000 in
theorem zi_X1 : Cond.instantiable RX1 4 ∈ zU := zmem 149 (by decide +kernel) (by decide +kernel)
set_option maxRecDepth 20000 in
theorem zini_X1 : Cond.initialized RX1 ∈ zU := zmem 36 (by decide +kernel) (by decide +kernel)
set_option maxRecDepth 20000 in
theorem zmi_X1 : zMI yX1_init cX1_init 1 0 := ⟨rfl, zmem 152 (by decide +kernel) (by decide +kernel), zmem 151 (by decide +kernel) (by decide +kernel), zini_X1, ⟨by decide +kernel, by decide +kernel⟩, by decide +kernel, rfl⟩
set_option maxRecDepth 20000 in
theorem zi_X2 : Cond.instantiable RX2 3 ∈ zU := zmem 211 (by decide +kernel) (by decide +kernel)
set_option maxRecDepth 20000 in
theorem zini_X2 : Cond.initialized RX2 ∈ zU := zmem 37 (by decide +kernel) (by decide +kernel)
set_option maxRecDepth 20000 in
theorem zmi_X2 : zMI yX2_init cX2_init 2 0 := ⟨rfl, zmem 214 (by decide +kernel) (by decide +kernel), zmem 213 (by decide +kernel) (by decide +kernel), zini_X2, ⟨by decide +kernel, by decide +kernel⟩, by decide +kernel, rfl⟩
set_option maxRecDepth 20000 in
theorem zi_X3 : Cond.instantiable RX3 6 ∈ zU := zmem 232 (by decide +kernel) (by decide +kernel)
set_option maxRecDepth 20000 in
theorem zini_X3 : Cond.initialized RX3 ∈ zU := zmem 38 (by decide +kernel) (by decide +kernel)
set_option maxRecDepth 20000 in
theorem zmi_X3 : zMI yX3_init cX3_init 1 0 := ⟨rfl, zmem 235 (by decide +kernel) (by decide +kernel), zmem 234 (by decide +kernel) (by decide +kernel), zini_X3, ⟨by decide +kernel, by decide +kernel⟩, by decide +kernel, rfl⟩
set_option maxRecDepth 20000 in
theorem zi_X4 : Cond.instantiable RX4 8 ∈ zU := zmem 111 (by decide +kernel) (by decide +kernel)
set_option maxRecDepth 20000 in
theorem zini_X4 : Cond.initialized RX4 ∈ zU := zmem 35 (by decide +kernel) (by decide +kernel)
set_option maxRecDepth 20000 in
theorem zmi_X4 : zMI yX4_init cX4_init 2 1 := ⟨rfl, zmem 114 (by decide +kernel) (by decide +kernel), zmem 113 (by decide +kernel) (by decide +kernel), zini_X4, ⟨by decide +kernel, by decide +kernel⟩, by decide +kernel, rfl⟩
set_option maxRecDepth 20000 in
theorem zi_X5 : Cond.instantiable RX5 12 ∈ zU := zmem 49 (by decide +kernel) (by decide +kernel)
set_option maxRecDepth 20000 in
theorem zini_X5 : Cond.initialized RX5 ∈ zU := zmem 33 (by decide +kernel) (by decide +kernel)
set_option maxRecDepth 20000 in
theorem zmi_X5 : zMI yX5_init cX5_init 2 0 := ⟨rfl, zmem 52 (by decide +kernel) (by decide +kernel), zmem 51 (by decide +kernel) (by decide +kernel), zini_X5, ⟨by decide +kernel, by decide +kernel⟩, by decide +kernel, rfl⟩
set_option maxRecDepth 20000 in
theorem zi_X6 : Cond.instantiable RX6 5 ∈ zU := zmem 41 (by decide +kernel) (by decide +kernel)
set_option maxRecDepth 20000 in
theorem zini_X6 : Cond.initialized RX6 ∈ zU := zmem 32 (by decide +kernel) (by decide +kernel)
set_option maxRecDepth 20000 in
theorem zmi_X6 : zMI yX6_init cX6_init 1 0 := ⟨rfl, zmem 44 (by decide +kernel) (by decide +kernel), zmem 43 (by decide +kernel) (by decide +kernel), zini_X6, ⟨by decide +kernel, by decide +kernel⟩, by decide +kernel, rfl⟩
set_option maxRecDepth 20000 in
theorem zc_L_10 : Cond.classLink RL 10 "RightsDesk" ∈ zU := zmem 40 (by decide +kernel) (by decide +kernel)
set_option maxRecDepth 20000 in
theorem zl_L_85 : Cond.methodLink RL 85 yX6_init ∈ zU := zmem 42 (by decide +kernel) (by decide +kernel)
set_option maxRecDepth 20000 in
theorem zl_X6_1 : Cond.methodLink RX6 1 Lib.objectInit ∈ zU := zmem 45 (by decide +kernel) (by decide +kernel)
set_option maxRecDepth 20000 in
theorem zc_X6_7 : Cond.classLink RX6 7 "RightsDesk$State" ∈ zU := zmem 48 (by decide +kernel) (by decide +kernel)
set_option maxRecDepth 20000 in
theorem zl_X6_9 : Cond.methodLink RX6 9 yX5_init ∈ zU := zmem 50 (by decide +kernel) (by decide +kernel)
set_option maxRecDepth 20000 in
theorem zl_X5_3 : Cond.methodLink RX5 3 Lib.objectInit ∈ zU := zmem 53 (by decide +kernel) (by decide +kernel)
set_option maxRecDepth 20000 in
theorem zc_X5_14 : Cond.classLink RX5 14 "[I" ∈ zU := zmem 62 (by decide +kernel) (by decide +kernel)
set_option maxRecDepth 20000 in
theorem zc_X5_35 : Cond.classLink RX5 35 "RightsDesk$DateRow" ∈ zU := zmem 67 (by decide +kernel) (by decide +kernel)
set_option maxRecDepth 20000 in
theorem zc_X5_41 : Cond.classLink RX5 41 "RightsDesk$RightRow" ∈ zU := zmem 69 (by decide +kernel) (by decide +kernel)
set_option maxRecDepth 20000 in
theorem zc_X5_50 : Cond.classLink RX5 50 "RightsDesk$EventRow" ∈ zU := zmem 71 (by decide +kernel) (by decide +kernel)
set_option maxRecDepth 20000 in
theorem zl_X5_56 : Cond.methodLink RX5 56 yX0_init ∈ zU := zmem 74 (by decide +kernel) (by decide +kernel)
set_option maxRecDepth 20000 in
theorem zl_X0_3 : Cond.methodLink RX0 3 Lib.objectInit ∈ zU := zmem 77 (by decide +kernel) (by decide +kernel)
set_option maxRecDepth 20000 in
theorem zl_X5_59 : Cond.methodLink RX5 59 yX4_init ∈ zU := zmem 112 (by decide +kernel) (by decide +kernel)
set_option maxRecDepth 20000 in
theorem zl_X4_3 : Cond.methodLink RX4 3 Lib.objectInit ∈ zU := zmem 115 (by decide +kernel) (by decide +kernel)
set_option maxRecDepth 20000 in
theorem zl_X1_1 : Cond.methodLink RX1 1 Lib.objectInit ∈ zU := zmem 153 (by decide +kernel) (by decide +kernel)
set_option maxRecDepth 20000 in
theorem zc_X6_19 : Cond.classLink RX6 19 "RightsDesk$History" ∈ zU := zmem 210 (by decide +kernel) (by decide +kernel)
set_option maxRecDepth 20000 in
theorem zl_X6_21 : Cond.methodLink RX6 21 yX2_init ∈ zU := zmem 212 (by decide +kernel) (by decide +kernel)
set_option maxRecDepth 20000 in
theorem zl_X2_3 : Cond.methodLink RX2 3 Lib.objectInit ∈ zU := zmem 215 (by decide +kernel) (by decide +kernel)
set_option maxRecDepth 20000 in
theorem zc_X2_9 : Cond.classLink RX2 9 "RightsDesk$State" ∈ zU := zmem 216 (by decide +kernel) (by decide +kernel)
set_option maxRecDepth 20000 in
theorem zl_X2_17 : Cond.methodLink RX2 17 yX5_init ∈ zU := zmem 218 (by decide +kernel) (by decide +kernel)
set_option maxRecDepth 20000 in
theorem zc_X6_26 : Cond.classLink RX6 26 "RightsDesk$OrderText" ∈ zU := zmem 231 (by decide +kernel) (by decide +kernel)
set_option maxRecDepth 20000 in
theorem zl_X3_3 : Cond.methodLink RX3 3 Lib.objectInit ∈ zU := zmem 236 (by decide +kernel) (by decide +kernel)
set_option maxRecDepth 20000 in
theorem zobj : Cond.instanceMethod Lib.objectInit ∈ zU ∧ Cond.code Lib.objectInit ⟨#[0xb1]⟩ 1 none ∈ zU := ⟨zmem 46 (by decide +kernel) (by decide +kernel), zmem 47 (by decide +kernel) (by decide +kernel)⟩
set_option maxRecDepth 20000 in
theorem zcln : Cond.methodLink RX5 13 ⟨"[I", "clone", "()Ljava/lang/Object;"⟩ ∈ zU ∧ Cond.sameMethod "[I" "java/lang/Object" "clone" "()Ljava/lang/Object;" ∈ zU ∧ Cond.native ⟨"java/lang/Object", "clone", "()Ljava/lang/Object;"⟩ ∈ zU ∧ Cond.instanceMethod ⟨"java/lang/Object", "clone", "()Ljava/lang/Object;"⟩ ∈ zU ∧ Cond.selects "[I" ⟨"[I", "clone", "()Ljava/lang/Object;"⟩ ⟨"java/lang/Object", "clone", "()Ljava/lang/Object;"⟩ ∈ zU := ⟨zmem 56 (by decide +kernel) (by decide +kernel), zmem 57 (by decide +kernel) (by decide +kernel), zmem 58 (by decide +kernel) (by decide +kernel), zmem 59 (by decide +kernel) (by decide +kernel), zmem 60 (by decide +kernel) (by decide +kernel)⟩
set_option maxRecDepth 20000 in
theorem zarrI : Cond.arrayClass .int ∈ zU := zmem 110 (by decide +kernel) (by decide +kernel)
set_option maxRecDepth 20000 in
theorem zarrC : Cond.arrayClass .char ∈ zU := zmem 260 (by decide +kernel) (by decide +kernel)
set_option maxRecDepth 20000 in
theorem zt_castable : (Jvm.Cond.castable "[I" "java/lang/Cloneable") ∈ lw_tbl := List.mem_of_getElem? (i := 61) (by decide +kernel)
set_option maxRecDepth 20000 in
theorem zt_overX0 : (Jvm.Cond.arrayOver (Jvm.ClassFile.FieldType.object "RightsDesk$DateRow")) ∈ lw_tbl := List.mem_of_getElem? (i := 68) (by decide +kernel)
set_option maxRecDepth 20000 in
theorem zt_overX1 : (Jvm.Cond.arrayOver (Jvm.ClassFile.FieldType.object "RightsDesk$EventRow")) ∈ lw_tbl := List.mem_of_getElem? (i := 72) (by decide +kernel)
set_option maxRecDepth 20000 in
theorem zt_overX4 : (Jvm.Cond.arrayOver (Jvm.ClassFile.FieldType.object "RightsDesk$RightRow")) ∈ lw_tbl := List.mem_of_getElem? (i := 70) (by decide +kernel)
set_option maxRecDepth 20000 in
theorem zt_overX5 : (Jvm.Cond.arrayOver (Jvm.ClassFile.FieldType.object "RightsDesk$State")) ∈ lw_tbl := List.mem_of_getElem? (i := 217) (by decide +kernel)
set_option maxRecDepth 20000 in
theorem zt_FIRST_NUMBERS : Cond.laysStatic "RightsDesk" "FIRST_NUMBERS" "[I" ∈ lw_tbl := List.mem_of_getElem? (i := 55) (by decide +kernel)
set_option maxRecDepth 20000 in
theorem zt_FIRST_STAGE_DAYS : Cond.laysStatic "RightsDesk" "FIRST_STAGE_DAYS" "[I" ∈ lw_tbl := List.mem_of_getElem? (i := 64) (by decide +kernel)
set_option maxRecDepth 20000 in
theorem zt_FIRST_STAGE_FEES : Cond.laysStatic "RightsDesk" "FIRST_STAGE_FEES" "[I" ∈ lw_tbl := List.mem_of_getElem? (i := 66) (by decide +kernel)
set_option maxRecDepth 20000 in
theorem zt_LEAST_NUMBERS : Cond.laysStatic "RightsDesk" "LEAST_NUMBERS" "[I" ∈ lw_tbl := List.mem_of_getElem? (i := 325) (by decide +kernel)
set_option maxRecDepth 20000 in
theorem zt_MOST_NUMBERS : Cond.laysStatic "RightsDesk" "MOST_NUMBERS" "[I" ∈ lw_tbl := List.mem_of_getElem? (i := 327) (by decide +kernel)
