set_option maxRecDepth 20000 in
theorem zin0 : ∀ w ∈ wsX00, w ∈ zU := fun w h => List.mem_filter.mpr (by revert w h; decide +kernel)
set_option maxRecDepth 20000 in
theorem zin1 : ∀ w ∈ wsX10, w ∈ zU := fun w h => List.mem_filter.mpr (by revert w h; decide +kernel)
set_option maxRecDepth 20000 in
theorem zin2 : ∀ w ∈ wsX20, w ∈ zU := fun w h => List.mem_filter.mpr (by revert w h; decide +kernel)
set_option maxRecDepth 20000 in
theorem zin3 : ∀ w ∈ wsX30, w ∈ zU := fun w h => List.mem_filter.mpr (by revert w h; decide +kernel)
set_option maxRecDepth 20000 in
theorem zin4 : ∀ w ∈ wsX40, w ∈ zU := fun w h => List.mem_filter.mpr (by revert w h; decide +kernel)
set_option maxRecDepth 20000 in
theorem zin5 : ∀ w ∈ wsX50, w ∈ zU := fun w h => List.mem_filter.mpr (by revert w h; decide +kernel)
set_option maxRecDepth 20000 in
theorem zin6 : ∀ w ∈ wsX60, w ∈ zU := fun w h => List.mem_filter.mpr (by revert w h; decide +kernel)
set_option maxRecDepth 20000 in
theorem zf_X0_9 : Cond.fieldLink RX0 9 "RightsDesk$DateRow" "list" "[I" ∈ zU := zmem 90 (by decide +kernel) (by decide +kernel)
set_option maxRecDepth 20000 in
theorem zf_X0_15 : Cond.fieldLink RX0 15 "RightsDesk$DateRow" "number" "I" ∈ zU := zmem 78 (by decide +kernel) (by decide +kernel)
set_option maxRecDepth 20000 in
theorem zf_X0_19 : Cond.fieldLink RX0 19 "RightsDesk$DateRow" "day" "I" ∈ zU := zmem 80 (by decide +kernel) (by decide +kernel)
set_option maxRecDepth 20000 in
theorem zf_X0_22 : Cond.fieldLink RX0 22 "RightsDesk$DateRow" "places" "I" ∈ zU := zmem 82 (by decide +kernel) (by decide +kernel)
set_option maxRecDepth 20000 in
theorem zf_X0_25 : Cond.fieldLink RX0 25 "RightsDesk$DateRow" "surplus" "I" ∈ zU := zmem 84 (by decide +kernel) (by decide +kernel)
set_option maxRecDepth 20000 in
theorem zf_X0_28 : Cond.fieldLink RX0 28 "RightsDesk$DateRow" "base" "I" ∈ zU := zmem 86 (by decide +kernel) (by decide +kernel)
set_option maxRecDepth 20000 in
theorem zf_X0_31 : Cond.fieldLink RX0 31 "RightsDesk$DateRow" "rule" "I" ∈ zU := zmem 88 (by decide +kernel) (by decide +kernel)
set_option maxRecDepth 20000 in
theorem zf_X0_38 : Cond.fieldLink RX0 38 "RightsDesk$DateRow" "listLength" "I" ∈ zU := zmem 91 (by decide +kernel) (by decide +kernel)
set_option maxRecDepth 20000 in
theorem zf_X1_7 : Cond.fieldLink RX1 7 "RightsDesk$EventRow" "kind" "I" ∈ zU := zmem 154 (by decide +kernel) (by decide +kernel)
set_option maxRecDepth 20000 in
theorem zf_X1_13 : Cond.fieldLink RX1 13 "RightsDesk$EventRow" "right" "I" ∈ zU := zmem 156 (by decide +kernel) (by decide +kernel)
set_option maxRecDepth 20000 in
theorem zf_X1_16 : Cond.fieldLink RX1 16 "RightsDesk$EventRow" "cents" "I" ∈ zU := zmem 158 (by decide +kernel) (by decide +kernel)
set_option maxRecDepth 20000 in
theorem zf_X1_19 : Cond.fieldLink RX1 19 "RightsDesk$EventRow" "day" "I" ∈ zU := zmem 160 (by decide +kernel) (by decide +kernel)
set_option maxRecDepth 20000 in
theorem zf_X2_11 : Cond.fieldLink RX2 11 "RightsDesk$History" "past" "[LRightsDesk$State;" ∈ zU := zmem 219 (by decide +kernel) (by decide +kernel)
set_option maxRecDepth 20000 in
theorem zf_X2_18 : Cond.fieldLink RX2 18 "RightsDesk$History" "prepared" "LRightsDesk$State;" ∈ zU := zmem 222 (by decide +kernel) (by decide +kernel)
set_option maxRecDepth 20000 in
theorem zf_X2_26 : Cond.fieldLink RX2 26 "RightsDesk$History" "count" "I" ∈ zU := zmem 220 (by decide +kernel) (by decide +kernel)
set_option maxRecDepth 20000 in
theorem zf_X3_9 : Cond.fieldLink RX3 9 "RightsDesk$OrderText" "signs" "[C" ∈ zU := zmem 237 (by decide +kernel) (by decide +kernel)
set_option maxRecDepth 20000 in
theorem zf_X3_15 : Cond.fieldLink RX3 15 "RightsDesk$OrderText" "length" "I" ∈ zU := zmem 238 (by decide +kernel) (by decide +kernel)
set_option maxRecDepth 20000 in
theorem zf_X3_26 : Cond.fieldLink RX3 26 "RightsDesk$OrderText" "at" "I" ∈ zU := zmem 240 (by decide +kernel) (by decide +kernel)
set_option maxRecDepth 20000 in
theorem zf_X3_37 : Cond.fieldLink RX3 37 "RightsDesk$OrderText" "kind" "I" ∈ zU := zmem 241 (by decide +kernel) (by decide +kernel)
set_option maxRecDepth 20000 in
theorem zf_X3_56 : Cond.fieldLink RX3 56 "RightsDesk$OrderText" "first" "I" ∈ zU := zmem 243 (by decide +kernel) (by decide +kernel)
set_option maxRecDepth 20000 in
theorem zf_X3_59 : Cond.fieldLink RX3 59 "RightsDesk$OrderText" "second" "I" ∈ zU := zmem 245 (by decide +kernel) (by decide +kernel)
set_option maxRecDepth 20000 in
theorem zf_X4_9 : Cond.fieldLink RX4 9 "RightsDesk$RightRow" "number" "I" ∈ zU := zmem 116 (by decide +kernel) (by decide +kernel)
set_option maxRecDepth 20000 in
theorem zf_X4_15 : Cond.fieldLink RX4 15 "RightsDesk$RightRow" "date" "I" ∈ zU := zmem 118 (by decide +kernel) (by decide +kernel)
set_option maxRecDepth 20000 in
theorem zf_X4_18 : Cond.fieldLink RX4 18 "RightsDesk$RightRow" "holder" "I" ∈ zU := zmem 120 (by decide +kernel) (by decide +kernel)
set_option maxRecDepth 20000 in
theorem zf_X4_21 : Cond.fieldLink RX4 21 "RightsDesk$RightRow" "cost" "I" ∈ zU := zmem 122 (by decide +kernel) (by decide +kernel)
set_option maxRecDepth 20000 in
theorem zf_X4_24 : Cond.fieldLink RX4 24 "RightsDesk$RightRow" "state" "I" ∈ zU := zmem 124 (by decide +kernel) (by decide +kernel)
set_option maxRecDepth 20000 in
theorem zf_X4_27 : Cond.fieldLink RX4 27 "RightsDesk$RightRow" "asking" "I" ∈ zU := zmem 126 (by decide +kernel) (by decide +kernel)
set_option maxRecDepth 20000 in
theorem zf_X4_30 : Cond.fieldLink RX4 30 "RightsDesk$RightRow" "soldOn" "I" ∈ zU := zmem 128 (by decide +kernel) (by decide +kernel)
set_option maxRecDepth 20000 in
theorem zf_X4_33 : Cond.fieldLink RX4 33 "RightsDesk$RightRow" "resold" "I" ∈ zU := zmem 130 (by decide +kernel) (by decide +kernel)
set_option maxRecDepth 20000 in
theorem zf_X5_18 : Cond.fieldLink RX5 18 "RightsDesk$State" "numbers" "[I" ∈ zU := zmem 173 (by decide +kernel) (by decide +kernel)
set_option maxRecDepth 20000 in
theorem zf_X5_26 : Cond.fieldLink RX5 26 "RightsDesk$State" "stageDays" "[I" ∈ zU := zmem 175 (by decide +kernel) (by decide +kernel)
set_option maxRecDepth 20000 in
theorem zf_X5_32 : Cond.fieldLink RX5 32 "RightsDesk$State" "stageFees" "[I" ∈ zU := zmem 176 (by decide +kernel) (by decide +kernel)
set_option maxRecDepth 20000 in
theorem zf_X5_37 : Cond.fieldLink RX5 37 "RightsDesk$State" "dates" "[LRightsDesk$DateRow;" ∈ zU := zmem 178 (by decide +kernel) (by decide +kernel)
set_option maxRecDepth 20000 in
theorem zf_X5_43 : Cond.fieldLink RX5 43 "RightsDesk$State" "rights" "[LRightsDesk$RightRow;" ∈ zU := zmem 180 (by decide +kernel) (by decide +kernel)
set_option maxRecDepth 20000 in
theorem zf_X5_47 : Cond.fieldLink RX5 47 "RightsDesk$State" "accounts" "[I" ∈ zU := zmem 181 (by decide +kernel) (by decide +kernel)
set_option maxRecDepth 20000 in
theorem zf_X5_52 : Cond.fieldLink RX5 52 "RightsDesk$State" "events" "[LRightsDesk$EventRow;" ∈ zU := zmem 184 (by decide +kernel) (by decide +kernel)
set_option maxRecDepth 20000 in
theorem zf_X5_61 : Cond.fieldLink RX5 61 "RightsDesk$State" "day" "I" ∈ zU := zmem 171 (by decide +kernel) (by decide +kernel)
set_option maxRecDepth 20000 in
theorem zf_X5_69 : Cond.fieldLink RX5 69 "RightsDesk$State" "dateCount" "I" ∈ zU := zmem 177 (by decide +kernel) (by decide +kernel)
set_option maxRecDepth 20000 in
theorem zf_X5_76 : Cond.fieldLink RX5 76 "RightsDesk$State" "rightCount" "I" ∈ zU := zmem 179 (by decide +kernel) (by decide +kernel)
set_option maxRecDepth 20000 in
theorem zf_X5_82 : Cond.fieldLink RX5 82 "RightsDesk$State" "provider" "I" ∈ zU := zmem 182 (by decide +kernel) (by decide +kernel)
set_option maxRecDepth 20000 in
theorem zf_X5_85 : Cond.fieldLink RX5 85 "RightsDesk$State" "eventCount" "I" ∈ zU := zmem 183 (by decide +kernel) (by decide +kernel)
set_option maxRecDepth 20000 in
theorem zf_X5_91 : Cond.fieldLink RX5 91 "RightsDesk$DateRow" "day" "I" ∈ zU := zmem 81 (by decide +kernel) (by decide +kernel)
set_option maxRecDepth 20000 in
theorem zf_X5_92 : Cond.fieldLink RX5 92 "RightsDesk$DateRow" "places" "I" ∈ zU := zmem 83 (by decide +kernel) (by decide +kernel)
set_option maxRecDepth 20000 in
theorem zf_X5_95 : Cond.fieldLink RX5 95 "RightsDesk$DateRow" "surplus" "I" ∈ zU := zmem 85 (by decide +kernel) (by decide +kernel)
set_option maxRecDepth 20000 in
theorem zf_X5_98 : Cond.fieldLink RX5 98 "RightsDesk$DateRow" "base" "I" ∈ zU := zmem 87 (by decide +kernel) (by decide +kernel)
set_option maxRecDepth 20000 in
theorem zf_X5_101 : Cond.fieldLink RX5 101 "RightsDesk$DateRow" "rule" "I" ∈ zU := zmem 89 (by decide +kernel) (by decide +kernel)
set_option maxRecDepth 20000 in
theorem zf_X5_104 : Cond.fieldLink RX5 104 "RightsDesk$DateRow" "listLength" "I" ∈ zU := zmem 92 (by decide +kernel) (by decide +kernel)
set_option maxRecDepth 20000 in
theorem zf_X5_107 : Cond.fieldLink RX5 107 "RightsDesk$DateRow" "number" "I" ∈ zU := zmem 79 (by decide +kernel) (by decide +kernel)
set_option maxRecDepth 20000 in
theorem zf_X5_143 : Cond.fieldLink RX5 143 "RightsDesk$RightRow" "holder" "I" ∈ zU := zmem 121 (by decide +kernel) (by decide +kernel)
set_option maxRecDepth 20000 in
theorem zf_X5_146 : Cond.fieldLink RX5 146 "RightsDesk$RightRow" "asking" "I" ∈ zU := zmem 127 (by decide +kernel) (by decide +kernel)
set_option maxRecDepth 20000 in
theorem zf_X5_153 : Cond.fieldLink RX5 153 "RightsDesk$RightRow" "resold" "I" ∈ zU := zmem 131 (by decide +kernel) (by decide +kernel)
set_option maxRecDepth 20000 in
theorem zf_X5_163 : Cond.fieldLink RX5 163 "RightsDesk$RightRow" "number" "I" ∈ zU := zmem 117 (by decide +kernel) (by decide +kernel)
set_option maxRecDepth 20000 in
theorem zf_X5_172 : Cond.fieldLink RX5 172 "RightsDesk$RightRow" "date" "I" ∈ zU := zmem 119 (by decide +kernel) (by decide +kernel)
set_option maxRecDepth 20000 in
theorem zf_X5_182 : Cond.fieldLink RX5 182 "RightsDesk$RightRow" "state" "I" ∈ zU := zmem 125 (by decide +kernel) (by decide +kernel)
set_option maxRecDepth 20000 in
theorem zf_X5_217 : Cond.fieldLink RX5 217 "RightsDesk$RightRow" "cost" "I" ∈ zU := zmem 123 (by decide +kernel) (by decide +kernel)
set_option maxRecDepth 20000 in
theorem zf_X5_241 : Cond.fieldLink RX5 241 "RightsDesk$RightRow" "soldOn" "I" ∈ zU := zmem 129 (by decide +kernel) (by decide +kernel)
set_option maxRecDepth 20000 in
theorem zf_X5_256 : Cond.fieldLink RX5 256 "RightsDesk$EventRow" "kind" "I" ∈ zU := zmem 155 (by decide +kernel) (by decide +kernel)
set_option maxRecDepth 20000 in
theorem zf_X5_259 : Cond.fieldLink RX5 259 "RightsDesk$EventRow" "right" "I" ∈ zU := zmem 157 (by decide +kernel) (by decide +kernel)
set_option maxRecDepth 20000 in
theorem zf_X5_262 : Cond.fieldLink RX5 262 "RightsDesk$EventRow" "cents" "I" ∈ zU := zmem 159 (by decide +kernel) (by decide +kernel)
set_option maxRecDepth 20000 in
theorem zf_X5_265 : Cond.fieldLink RX5 265 "RightsDesk$EventRow" "day" "I" ∈ zU := zmem 161 (by decide +kernel) (by decide +kernel)
set_option maxRecDepth 20000 in
theorem zf_X6_10 : Cond.fieldLink RX6 10 "RightsDesk" "now" "LRightsDesk$State;" ∈ zU := zmem 261 (by decide +kernel) (by decide +kernel)
set_option maxRecDepth 20000 in
theorem zf_X6_16 : Cond.fieldLink RX6 16 "RightsDesk" "kept" "LRightsDesk$State;" ∈ zU := zmem 262 (by decide +kernel) (by decide +kernel)
set_option maxRecDepth 20000 in
theorem zf_X6_22 : Cond.fieldLink RX6 22 "RightsDesk" "history" "LRightsDesk$History;" ∈ zU := zmem 264 (by decide +kernel) (by decide +kernel)
set_option maxRecDepth 20000 in
theorem zf_X6_29 : Cond.fieldLink RX6 29 "RightsDesk" "text" "LRightsDesk$OrderText;" ∈ zU := zmem 265 (by decide +kernel) (by decide +kernel)
set_option maxRecDepth 20000 in
theorem zf_X6_97 : Cond.fieldLink RX6 97 "RightsDesk$History" "prepared" "LRightsDesk$State;" ∈ zU := zmem 223 (by decide +kernel) (by decide +kernel)
set_option maxRecDepth 20000 in
theorem zf_X6_107 : Cond.fieldLink RX6 107 "RightsDesk$History" "count" "I" ∈ zU := zmem 221 (by decide +kernel) (by decide +kernel)
set_option maxRecDepth 20000 in
theorem zf_X6_111 : Cond.fieldLink RX6 111 "RightsDesk" "hasKept" "Z" ∈ zU := zmem 263 (by decide +kernel) (by decide +kernel)
set_option maxRecDepth 20000 in
theorem zf_X6_115 : Cond.fieldLink RX6 115 "RightsDesk$State" "day" "I" ∈ zU := zmem 172 (by decide +kernel) (by decide +kernel)
set_option maxRecDepth 20000 in
theorem zf_X6_159 : Cond.fieldLink RX6 159 "RightsDesk$State" "numbers" "[I" ∈ zU := zmem 174 (by decide +kernel) (by decide +kernel)
set_option maxRecDepth 20000 in
theorem zf_X6_175 : Cond.fieldLink RX6 175 "RightsDesk$OrderText" "length" "I" ∈ zU := zmem 239 (by decide +kernel) (by decide +kernel)
set_option maxRecDepth 20000 in
theorem zf_X6_189 : Cond.fieldLink RX6 189 "RightsDesk$OrderText" "kind" "I" ∈ zU := zmem 242 (by decide +kernel) (by decide +kernel)
set_option maxRecDepth 20000 in
theorem zf_X6_192 : Cond.fieldLink RX6 192 "RightsDesk$OrderText" "first" "I" ∈ zU := zmem 244 (by decide +kernel) (by decide +kernel)
set_option maxRecDepth 20000 in
theorem zf_X6_195 : Cond.fieldLink RX6 195 "RightsDesk$OrderText" "second" "I" ∈ zU := zmem 246 (by decide +kernel) (by decide +kernel)
set_option maxRecDepth 20000 in
theorem zk_L_7 : Cond.constant RL 7 (15567641 : Int32) ∈ zU := zmem 559 (by decide +kernel) (by decide +kernel)
set_option maxRecDepth 20000 in
theorem zk_L_8 : Cond.constant RL 8 (2147483647 : Int32) ∈ zU := zmem 560 (by decide +kernel) (by decide +kernel)
set_option maxRecDepth 20000 in
theorem zk_L_15 : Cond.constant RL 15 (1000000000 : Int32) ∈ zU := zmem 564 (by decide +kernel) (by decide +kernel)
set_option maxRecDepth 20000 in
theorem zk_X5_275 : Cond.constant RX5 275 (1000000000 : Int32) ∈ zU := zmem 555 (by decide +kernel) (by decide +kernel)
/-- what the tables say of an instance method, and how many parameters it has -/
def zMV (y : MethodName) (b : ByteArray) (n : Nat) (ret : Option FieldType) (np : Nat) : Prop := plainName y.cls = true ∧ Cond.code y b n ret ∈ zU ∧ Cond.instanceMethod y ∈ zU ∧ Cond.selects y.cls y y ∈ zU ∧ Cond.initialized y.cls ∈ zU ∧ (y.cls ≠ "java/lang/invoke/MethodHandle" ∧ y.cls ≠ "java/lang/invoke/VarHandle") ∧ (parseMethodDescriptor y.desc).map (fun d => d.parameters.length) = some np ∧ n ≤ 21
def zMS (y : MethodName) (b : ByteArray) (n : Nat) (ret : Option FieldType) (np : Nat) : Prop := plainName y.cls = true ∧ Cond.code y b n ret ∈ zU ∧ Cond.static y ∈ zU ∧ Cond.initialized y.cls ∈ zU ∧ (y.cls ≠ "java/lang/invoke/MethodHandle" ∧ y.cls ≠ "java/lang/invoke/VarHandle") ∧ (parseMethodDescriptor y.desc).map (fun d => d.parameters.length) = some np ∧ n ≤ 21
set_option maxRecDepth 20000 in
theorem zm_L_account : zMS yL_account cL_account 2 (some .int) 2 := ⟨rfl, zmem 567 rfl (by decide +kernel), zmem 566 (by decide +kernel) (by decide +kernel), zmem 31 (by decide +kernel) (by decide +kernel), ⟨by decide +kernel, by decide +kernel⟩, by decide +kernel, by decide⟩
set_option maxRecDepth 20000 in
theorem zm_L_acts : zMS yL_acts cL_acts 17 (some .boolean) 2 := ⟨rfl, zmem 645 rfl (by decide +kernel), zmem 644 (by decide +kernel) (by decide +kernel), zmem 31 (by decide +kernel) (by decide +kernel), ⟨by decide +kernel, by decide +kernel⟩, by decide +kernel, by decide⟩
set_option maxRecDepth 20000 in
theorem zm_L_cell : zMS yL_cell cL_cell 2 (some .int) 2 := ⟨rfl, zmem 558 rfl (by decide +kernel), zmem 557 (by decide +kernel) (by decide +kernel), zmem 31 (by decide +kernel) (by decide +kernel), ⟨by decide +kernel, by decide +kernel⟩, by decide +kernel, by decide⟩
set_option maxRecDepth 20000 in
theorem zm_L_dates : zMS yL_dates cL_dates 10 (some .boolean) 1 := ⟨rfl, zmem 604 rfl (by decide +kernel), zmem 603 (by decide +kernel) (by decide +kernel), zmem 31 (by decide +kernel) (by decide +kernel), ⟨by decide +kernel, by decide +kernel⟩, by decide +kernel, by decide⟩
set_option maxRecDepth 20000 in
theorem zm_L_deed : zMS yL_deed cL_deed 16 (some .boolean) 2 := ⟨rfl, zmem 668 rfl (by decide +kernel), zmem 667 (by decide +kernel) (by decide +kernel), zmem 31 (by decide +kernel) (by decide +kernel), ⟨by decide +kernel, by decide +kernel⟩, by decide +kernel, by decide⟩
set_option maxRecDepth 20000 in
theorem zm_L_sums : zMS yL_sums cL_sums 8 (some .boolean) 1 := ⟨rfl, zmem 563 rfl (by decide +kernel), zmem 562 (by decide +kernel) (by decide +kernel), zmem 31 (by decide +kernel) (by decide +kernel), ⟨by decide +kernel, by decide +kernel⟩, by decide +kernel, by decide⟩
set_option maxRecDepth 20000 in
theorem zm_X0_appendToList : zMV yX0_appendToList cX0_appendToList 2 (some .int) 1 := ⟨rfl, zmem 700 (by decide +kernel) (by decide +kernel), zmem 698 (by decide +kernel) (by decide +kernel), zmem 699 (by decide +kernel) (by decide +kernel), zmem 34 (by decide +kernel) (by decide +kernel), ⟨by decide +kernel, by decide +kernel⟩, by decide +kernel, by decide⟩
set_option maxRecDepth 20000 in
theorem zm_X0_copyFrom : zMV yX0_copyFrom cX0_copyFrom 2 none 1 := ⟨rfl, zmem 295 (by decide +kernel) (by decide +kernel), zmem 293 (by decide +kernel) (by decide +kernel), zmem 294 (by decide +kernel) (by decide +kernel), zmem 34 (by decide +kernel) (by decide +kernel), ⟨by decide +kernel, by decide +kernel⟩, by decide +kernel, by decide⟩
set_option maxRecDepth 20000 in
theorem zm_X0_placeOf : zMV yX0_placeOf cX0_placeOf 3 (some .int) 1 := ⟨rfl, zmem 588 (by decide +kernel) (by decide +kernel), zmem 586 (by decide +kernel) (by decide +kernel), zmem 587 (by decide +kernel) (by decide +kernel), zmem 34 (by decide +kernel) (by decide +kernel), ⟨by decide +kernel, by decide +kernel⟩, by decide +kernel, by decide⟩
set_option maxRecDepth 20000 in
theorem zm_X0_priceFor : zMV yX0_priceFor cX0_priceFor 4 (some .int) 2 := ⟨rfl, zmem 422 (by decide +kernel) (by decide +kernel), zmem 420 (by decide +kernel) (by decide +kernel), zmem 421 (by decide +kernel) (by decide +kernel), zmem 34 (by decide +kernel) (by decide +kernel), ⟨by decide +kernel, by decide +kernel⟩, by decide +kernel, by decide⟩
set_option maxRecDepth 20000 in
theorem zm_X0_removeFromList : zMV yX0_removeFromList cX0_removeFromList 3 none 1 := ⟨rfl, zmem 426 (by decide +kernel) (by decide +kernel), zmem 424 (by decide +kernel) (by decide +kernel), zmem 425 (by decide +kernel) (by decide +kernel), zmem 34 (by decide +kernel) (by decide +kernel), ⟨by decide +kernel, by decide +kernel⟩, by decide +kernel, by decide⟩
set_option maxRecDepth 20000 in
theorem zm_X0_waitingAt : zMV yX0_waitingAt cX0_waitingAt 2 (some .int) 1 := ⟨rfl, zmem 403 (by decide +kernel) (by decide +kernel), zmem 401 (by decide +kernel) (by decide +kernel), zmem 402 (by decide +kernel) (by decide +kernel), zmem 34 (by decide +kernel) (by decide +kernel), ⟨by decide +kernel, by decide +kernel⟩, by decide +kernel, by decide⟩
set_option maxRecDepth 20000 in
theorem zm_X1_copyFrom : zMV yX1_copyFrom cX1_copyFrom 2 none 1 := ⟨rfl, zmem 304 (by decide +kernel) (by decide +kernel), zmem 302 (by decide +kernel) (by decide +kernel), zmem 303 (by decide +kernel) (by decide +kernel), zmem 36 (by decide +kernel) (by decide +kernel), ⟨by decide +kernel, by decide +kernel⟩, by decide +kernel, by decide⟩
set_option maxRecDepth 20000 in
theorem zm_X1_tell : zMV yX1_tell cX1_tell 2 (some .int) 1 := ⟨rfl, zmem 661 (by decide +kernel) (by decide +kernel), zmem 659 (by decide +kernel) (by decide +kernel), zmem 660 (by decide +kernel) (by decide +kernel), zmem 36 (by decide +kernel) (by decide +kernel), ⟨by decide +kernel, by decide +kernel⟩, by decide +kernel, by decide⟩
set_option maxRecDepth 20000 in
theorem zm_X2_prepare : zMV yX2_prepare cX2_prepare 2 none 1 := ⟨rfl, zmem 284 (by decide +kernel) (by decide +kernel), zmem 282 (by decide +kernel) (by decide +kernel), zmem 283 (by decide +kernel) (by decide +kernel), zmem 37 (by decide +kernel) (by decide +kernel), ⟨by decide +kernel, by decide +kernel⟩, by decide +kernel, by decide⟩
set_option maxRecDepth 20000 in
theorem zm_X2_settle : zMV yX2_settle cX2_settle 4 (some .int) 1 := ⟨rfl, zmem 312 (by decide +kernel) (by decide +kernel), zmem 310 (by decide +kernel) (by decide +kernel), zmem 311 (by decide +kernel) (by decide +kernel), zmem 37 (by decide +kernel) (by decide +kernel), ⟨by decide +kernel, by decide +kernel⟩, by decide +kernel, by decide⟩
set_option maxRecDepth 20000 in
theorem zm_X2_takeLatest : zMV yX2_takeLatest cX2_takeLatest 3 (some (.object "RightsDesk$State")) 0 := ⟨rfl, zmem 534 (by decide +kernel) (by decide +kernel), zmem 532 (by decide +kernel) (by decide +kernel), zmem 533 (by decide +kernel) (by decide +kernel), zmem 37 (by decide +kernel) (by decide +kernel), ⟨by decide +kernel, by decide +kernel⟩, by decide +kernel, by decide⟩
set_option maxRecDepth 20000 in
theorem zm_X3_countOrders : zMV yX3_countOrders cX3_countOrders 4 (some .int) 0 := ⟨rfl, zmem 434 (by decide +kernel) (by decide +kernel), zmem 432 (by decide +kernel) (by decide +kernel), zmem 433 (by decide +kernel) (by decide +kernel), zmem 38 (by decide +kernel) (by decide +kernel), ⟨by decide +kernel, by decide +kernel⟩, by decide +kernel, by decide⟩
set_option maxRecDepth 20000 in
theorem zm_X3_goToStart : zMV yX3_goToStart cX3_goToStart 1 none 0 := ⟨rfl, zmem 438 (by decide +kernel) (by decide +kernel), zmem 436 (by decide +kernel) (by decide +kernel), zmem 437 (by decide +kernel) (by decide +kernel), zmem 38 (by decide +kernel) (by decide +kernel), ⟨by decide +kernel, by decide +kernel⟩, by decide +kernel, by decide⟩
set_option maxRecDepth 20000 in
theorem zm_X3_here : zMV yX3_here cX3_here 1 (some .char) 0 := ⟨rfl, zmem 446 (by decide +kernel) (by decide +kernel), zmem 445 (by decide +kernel) (by decide +kernel), zmem 13 (by decide +kernel) (by decide +kernel), zmem 38 (by decide +kernel) (by decide +kernel), ⟨by decide +kernel, by decide +kernel⟩, by decide +kernel, by decide⟩
set_option maxRecDepth 20000 in
theorem zm_X3_isDigitHere : zMV yX3_isDigitHere cX3_isDigitHere 1 (some .boolean) 0 := ⟨rfl, zmem 458 (by decide +kernel) (by decide +kernel), zmem 457 (by decide +kernel) (by decide +kernel), zmem 15 (by decide +kernel) (by decide +kernel), zmem 38 (by decide +kernel) (by decide +kernel), ⟨by decide +kernel, by decide +kernel⟩, by decide +kernel, by decide⟩
set_option maxRecDepth 20000 in
theorem zm_X3_readHolderAndDate : zMV yX3_readHolderAndDate cX3_readHolderAndDate 1 (some .boolean) 0 := ⟨rfl, zmem 454 (by decide +kernel) (by decide +kernel), zmem 453 (by decide +kernel) (by decide +kernel), zmem 14 (by decide +kernel) (by decide +kernel), zmem 38 (by decide +kernel) (by decide +kernel), ⟨by decide +kernel, by decide +kernel⟩, by decide +kernel, by decide⟩
set_option maxRecDepth 20000 in
theorem zm_X3_readOrder : zMV yX3_readOrder cX3_readOrder 1 (some .boolean) 0 := ⟨rfl, zmem 442 (by decide +kernel) (by decide +kernel), zmem 440 (by decide +kernel) (by decide +kernel), zmem 441 (by decide +kernel) (by decide +kernel), zmem 38 (by decide +kernel) (by decide +kernel), ⟨by decide +kernel, by decide +kernel⟩, by decide +kernel, by decide⟩
set_option maxRecDepth 20000 in
theorem zm_X3_readPrice : zMV yX3_readPrice cX3_readPrice 2 (some .boolean) 0 := ⟨rfl, zmem 470 (by decide +kernel) (by decide +kernel), zmem 469 (by decide +kernel) (by decide +kernel), zmem 18 (by decide +kernel) (by decide +kernel), zmem 38 (by decide +kernel) (by decide +kernel), ⟨by decide +kernel, by decide +kernel⟩, by decide +kernel, by decide⟩
set_option maxRecDepth 20000 in
theorem zm_X3_readRight : zMV yX3_readRight cX3_readRight 1 (some .boolean) 0 := ⟨rfl, zmem 466 (by decide +kernel) (by decide +kernel), zmem 465 (by decide +kernel) (by decide +kernel), zmem 17 (by decide +kernel) (by decide +kernel), zmem 38 (by decide +kernel) (by decide +kernel), ⟨by decide +kernel, by decide +kernel⟩, by decide +kernel, by decide⟩
set_option maxRecDepth 20000 in
theorem zm_X3_skip : zMV yX3_skip cX3_skip 2 (some .boolean) 1 := ⟨rfl, zmem 450 (by decide +kernel) (by decide +kernel), zmem 448 (by decide +kernel) (by decide +kernel), zmem 449 (by decide +kernel) (by decide +kernel), zmem 38 (by decide +kernel) (by decide +kernel), ⟨by decide +kernel, by decide +kernel⟩, by decide +kernel, by decide⟩
set_option maxRecDepth 20000 in
theorem zm_X3_takeDigit : zMV yX3_takeDigit cX3_takeDigit 2 (some .int) 0 := ⟨rfl, zmem 462 (by decide +kernel) (by decide +kernel), zmem 461 (by decide +kernel) (by decide +kernel), zmem 16 (by decide +kernel) (by decide +kernel), zmem 38 (by decide +kernel) (by decide +kernel), ⟨by decide +kernel, by decide +kernel⟩, by decide +kernel, by decide⟩
set_option maxRecDepth 20000 in
theorem zm_X4_copyFrom : zMV yX4_copyFrom cX4_copyFrom 2 none 1 := ⟨rfl, zmem 300 (by decide +kernel) (by decide +kernel), zmem 298 (by decide +kernel) (by decide +kernel), zmem 299 (by decide +kernel) (by decide +kernel), zmem 35 (by decide +kernel) (by decide +kernel), ⟨by decide +kernel, by decide +kernel⟩, by decide +kernel, by decide⟩
set_option maxRecDepth 20000 in
theorem zm_X4_isHeldOrOffered : zMV yX4_isHeldOrOffered cX4_isHeldOrOffered 1 (some .boolean) 0 := ⟨rfl, zmem 351 (by decide +kernel) (by decide +kernel), zmem 349 (by decide +kernel) (by decide +kernel), zmem 350 (by decide +kernel) (by decide +kernel), zmem 35 (by decide +kernel) (by decide +kernel), ⟨by decide +kernel, by decide +kernel⟩, by decide +kernel, by decide⟩
set_option maxRecDepth 20000 in
theorem zm_X4_turnTo : zMV yX4_turnTo cX4_turnTo 3 none 2 := ⟨rfl, zmem 355 (by decide +kernel) (by decide +kernel), zmem 353 (by decide +kernel) (by decide +kernel), zmem 354 (by decide +kernel) (by decide +kernel), zmem 35 (by decide +kernel) (by decide +kernel), ⟨by decide +kernel, by decide +kernel⟩, by decide +kernel, by decide⟩
set_option maxRecDepth 20000 in
theorem zm_X5_canBeExercised : zMV yX5_canBeExercised cX5_canBeExercised 3 (some .boolean) 2 := ⟨rfl, zmem 517 (by decide +kernel) (by decide +kernel), zmem 516 (by decide +kernel) (by decide +kernel), zmem 23 (by decide +kernel) (by decide +kernel), zmem 33 (by decide +kernel) (by decide +kernel), ⟨by decide +kernel, by decide +kernel⟩, by decide +kernel, by decide⟩
set_option maxRecDepth 20000 in
theorem zm_X5_cancelRight : zMV yX5_cancelRight cX5_cancelRight 5 (some .int) 1 := ⟨rfl, zmem 493 (by decide +kernel) (by decide +kernel), zmem 491 (by decide +kernel) (by decide +kernel), zmem 492 (by decide +kernel) (by decide +kernel), zmem 33 (by decide +kernel) (by decide +kernel), ⟨by decide +kernel, by decide +kernel⟩, by decide +kernel, by decide⟩
set_option maxRecDepth 20000 in
theorem zm_X5_changeNumber : zMV yX5_changeNumber cX5_changeNumber 4 (some .int) 2 := ⟨rfl, zmem 323 (by decide +kernel) (by decide +kernel), zmem 321 (by decide +kernel) (by decide +kernel), zmem 322 (by decide +kernel) (by decide +kernel), zmem 33 (by decide +kernel) (by decide +kernel), ⟨by decide +kernel, by decide +kernel⟩, by decide +kernel, by decide⟩
set_option maxRecDepth 20000 in
theorem zm_X5_changeStage : zMV yX5_changeStage cX5_changeStage 5 (some .int) 3 := ⟨rfl, zmem 716 (by decide +kernel) (by decide +kernel), zmem 714 (by decide +kernel) (by decide +kernel), zmem 715 (by decide +kernel) (by decide +kernel), zmem 33 (by decide +kernel) (by decide +kernel), ⟨by decide +kernel, by decide +kernel⟩, by decide +kernel, by decide⟩
set_option maxRecDepth 20000 in
theorem zm_X5_cheapestHeld : zMV yX5_cheapestHeld cX5_cheapestHeld 5 (some (.object "RightsDesk$RightRow")) 1 := ⟨rfl, zmem 380 (by decide +kernel) (by decide +kernel), zmem 379 (by decide +kernel) (by decide +kernel), zmem 5 (by decide +kernel) (by decide +kernel), zmem 33 (by decide +kernel) (by decide +kernel), ⟨by decide +kernel, by decide +kernel⟩, by decide +kernel, by decide⟩
set_option maxRecDepth 20000 in
theorem zm_X5_cheapestOffered : zMV yX5_cheapestOffered cX5_cheapestOffered 5 (some (.object "RightsDesk$RightRow")) 1 := ⟨rfl, zmem 376 (by decide +kernel) (by decide +kernel), zmem 375 (by decide +kernel) (by decide +kernel), zmem 4 (by decide +kernel) (by decide +kernel), zmem 33 (by decide +kernel) (by decide +kernel), ⟨by decide +kernel, by decide +kernel⟩, by decide +kernel, by decide⟩
set_option maxRecDepth 20000 in
theorem zm_X5_copyFrom : zMV yX5_copyFrom cX5_copyFrom 3 none 1 := ⟨rfl, zmem 288 (by decide +kernel) (by decide +kernel), zmem 286 (by decide +kernel) (by decide +kernel), zmem 287 (by decide +kernel) (by decide +kernel), zmem 33 (by decide +kernel) (by decide +kernel), ⟨by decide +kernel, by decide +kernel⟩, by decide +kernel, by decide⟩
set_option maxRecDepth 20000 in
theorem zm_X5_coverOne : zMV yX5_coverOne cX5_coverOne 3 (some .int) 1 := ⟨rfl, zmem 384 (by decide +kernel) (by decide +kernel), zmem 383 (by decide +kernel) (by decide +kernel), zmem 6 (by decide +kernel) (by decide +kernel), zmem 33 (by decide +kernel) (by decide +kernel), ⟨by decide +kernel, by decide +kernel⟩, by decide +kernel, by decide⟩
set_option maxRecDepth 20000 in
theorem zm_X5_coverRightsOf : zMV yX5_coverRightsOf cX5_coverRightsOf 6 (some .int) 1 := ⟨rfl, zmem 364 (by decide +kernel) (by decide +kernel), zmem 362 (by decide +kernel) (by decide +kernel), zmem 363 (by decide +kernel) (by decide +kernel), zmem 33 (by decide +kernel) (by decide +kernel), ⟨by decide +kernel, by decide +kernel⟩, by decide +kernel, by decide⟩
set_option maxRecDepth 20000 in
theorem zm_X5_dateRow : zMV yX5_dateRow cX5_dateRow 2 (some (.object "RightsDesk$DateRow")) 1 := ⟨rfl, zmem 485 (by decide +kernel) (by decide +kernel), zmem 483 (by decide +kernel) (by decide +kernel), zmem 484 (by decide +kernel) (by decide +kernel), zmem 33 (by decide +kernel) (by decide +kernel), ⟨by decide +kernel, by decide +kernel⟩, by decide +kernel, by decide⟩
set_option maxRecDepth 20000 in
theorem zm_X5_daysLeft : zMV yX5_daysLeft cX5_daysLeft 2 (some .int) 1 := ⟨rfl, zmem 343 (by decide +kernel) (by decide +kernel), zmem 341 (by decide +kernel) (by decide +kernel), zmem 342 (by decide +kernel) (by decide +kernel), zmem 33 (by decide +kernel) (by decide +kernel), ⟨by decide +kernel, by decide +kernel⟩, by decide +kernel, by decide⟩
set_option maxRecDepth 20000 in
theorem zm_X5_endDate : zMV yX5_endDate cX5_endDate 4 (some .int) 1 := ⟨rfl, zmem 347 (by decide +kernel) (by decide +kernel), zmem 346 (by decide +kernel) (by decide +kernel), zmem 1 (by decide +kernel) (by decide +kernel), zmem 33 (by decide +kernel) (by decide +kernel), ⟨by decide +kernel, by decide +kernel⟩, by decide +kernel, by decide⟩
set_option maxRecDepth 20000 in
theorem zm_X5_eventRow : zMV yX5_eventRow cX5_eventRow 2 (some (.object "RightsDesk$EventRow")) 1 := ⟨rfl, zmem 657 (by decide +kernel) (by decide +kernel), zmem 655 (by decide +kernel) (by decide +kernel), zmem 656 (by decide +kernel) (by decide +kernel), zmem 33 (by decide +kernel) (by decide +kernel), ⟨by decide +kernel, by decide +kernel⟩, by decide +kernel, by decide⟩
set_option maxRecDepth 20000 in
theorem zm_X5_exerciseRight : zMV yX5_exerciseRight cX5_exerciseRight 5 (some .int) 1 := ⟨rfl, zmem 513 (by decide +kernel) (by decide +kernel), zmem 511 (by decide +kernel) (by decide +kernel), zmem 512 (by decide +kernel) (by decide +kernel), zmem 33 (by decide +kernel) (by decide +kernel), ⟨by decide +kernel, by decide +kernel⟩, by decide +kernel, by decide⟩
set_option maxRecDepth 20000 in
theorem zm_X5_fitsStage : zMV yX5_fitsStage cX5_fitsStage 4 (some .boolean) 2 := ⟨rfl, zmem 720 (by decide +kernel) (by decide +kernel), zmem 719 (by decide +kernel) (by decide +kernel), zmem 30 (by decide +kernel) (by decide +kernel), zmem 33 (by decide +kernel) (by decide +kernel), ⟨by decide +kernel, by decide +kernel⟩, by decide +kernel, by decide⟩
set_option maxRecDepth 20000 in
theorem zm_X5_give : zMV yX5_give cX5_give 3 none 2 := ⟨rfl, zmem 388 (by decide +kernel) (by decide +kernel), zmem 387 (by decide +kernel) (by decide +kernel), zmem 7 (by decide +kernel) (by decide +kernel), zmem 33 (by decide +kernel) (by decide +kernel), ⟨by decide +kernel, by decide +kernel⟩, by decide +kernel, by decide⟩
set_option maxRecDepth 20000 in
theorem zm_X5_isOpen : zMV yX5_isOpen cX5_isOpen 2 (some .boolean) 1 := ⟨rfl, zmem 395 (by decide +kernel) (by decide +kernel), zmem 394 (by decide +kernel) (by decide +kernel), zmem 8 (by decide +kernel) (by decide +kernel), zmem 33 (by decide +kernel) (by decide +kernel), ⟨by decide +kernel, by decide +kernel⟩, by decide +kernel, by decide⟩
set_option maxRecDepth 20000 in
theorem zm_X5_isStage : zMV yX5_isStage cX5_isStage 2 (some .boolean) 1 := ⟨rfl, zmem 509 (by decide +kernel) (by decide +kernel), zmem 508 (by decide +kernel) (by decide +kernel), zmem 22 (by decide +kernel) (by decide +kernel), zmem 33 (by decide +kernel) (by decide +kernel), ⟨by decide +kernel, by decide +kernel⟩, by decide +kernel, by decide⟩
set_option maxRecDepth 20000 in
theorem zm_X5_joinList : zMV yX5_joinList cX5_joinList 4 (some .int) 2 := ⟨rfl, zmem 696 (by decide +kernel) (by decide +kernel), zmem 694 (by decide +kernel) (by decide +kernel), zmem 695 (by decide +kernel) (by decide +kernel), zmem 33 (by decide +kernel) (by decide +kernel), ⟨by decide +kernel, by decide +kernel⟩, by decide +kernel, by decide⟩
set_option maxRecDepth 20000 in
theorem zm_X5_letListBuy : zMV yX5_letListBuy cX5_letListBuy 3 none 1 := ⟨rfl, zmem 399 (by decide +kernel) (by decide +kernel), zmem 398 (by decide +kernel) (by decide +kernel), zmem 9 (by decide +kernel) (by decide +kernel), zmem 33 (by decide +kernel) (by decide +kernel), ⟨by decide +kernel, by decide +kernel⟩, by decide +kernel, by decide⟩
set_option maxRecDepth 20000 in
theorem zm_X5_listsWith : zMV yX5_listsWith cX5_listsWith 4 (some .int) 1 := ⟨rfl, zmem 584 (by decide +kernel) (by decide +kernel), zmem 583 (by decide +kernel) (by decide +kernel), zmem 27 (by decide +kernel) (by decide +kernel), zmem 33 (by decide +kernel) (by decide +kernel), ⟨by decide +kernel, by decide +kernel⟩, by decide +kernel, by decide⟩
set_option maxRecDepth 20000 in
theorem zm_X5_log : zMV yX5_log cX5_log 6 none 3 := ⟨rfl, zmem 359 (by decide +kernel) (by decide +kernel), zmem 358 (by decide +kernel) (by decide +kernel), zmem 2 (by decide +kernel) (by decide +kernel), zmem 33 (by decide +kernel) (by decide +kernel), ⟨by decide +kernel, by decide +kernel⟩, by decide +kernel, by decide⟩
set_option maxRecDepth 20000 in
theorem zm_X5_lowestAsking : zMV yX5_lowestAsking cX5_lowestAsking 3 (some .int) 1 := ⟨rfl, zmem 601 (by decide +kernel) (by decide +kernel), zmem 600 (by decide +kernel) (by decide +kernel), zmem 28 (by decide +kernel) (by decide +kernel), zmem 33 (by decide +kernel) (by decide +kernel), ⟨by decide +kernel, by decide +kernel⟩, by decide +kernel, by decide⟩
set_option maxRecDepth 20000 in
theorem zm_X5_nextToCover : zMV yX5_nextToCover cX5_nextToCover 3 (some (.object "RightsDesk$RightRow")) 1 := ⟨rfl, zmem 372 (by decide +kernel) (by decide +kernel), zmem 371 (by decide +kernel) (by decide +kernel), zmem 3 (by decide +kernel) (by decide +kernel), zmem 33 (by decide +kernel) (by decide +kernel), ⟨by decide +kernel, by decide +kernel⟩, by decide +kernel, by decide⟩
set_option maxRecDepth 20000 in
theorem zm_X5_offerRight : zMV yX5_offerRight cX5_offerRight 6 (some .int) 2 := ⟨rfl, zmem 525 (by decide +kernel) (by decide +kernel), zmem 523 (by decide +kernel) (by decide +kernel), zmem 524 (by decide +kernel) (by decide +kernel), zmem 33 (by decide +kernel) (by decide +kernel), ⟨by decide +kernel, by decide +kernel⟩, by decide +kernel, by decide⟩
set_option maxRecDepth 20000 in
theorem zm_X5_openDate : zMV yX5_openDate cX5_openDate 7 (some .int) 5 := ⟨rfl, zmem 308 (by decide +kernel) (by decide +kernel), zmem 306 (by decide +kernel) (by decide +kernel), zmem 307 (by decide +kernel) (by decide +kernel), zmem 33 (by decide +kernel) (by decide +kernel), ⟨by decide +kernel, by decide +kernel⟩, by decide +kernel, by decide⟩
set_option maxRecDepth 20000 in
theorem zm_X5_passDays : zMV yX5_passDays cX5_passDays 4 (some .int) 1 := ⟨rfl, zmem 335 (by decide +kernel) (by decide +kernel), zmem 333 (by decide +kernel) (by decide +kernel), zmem 334 (by decide +kernel) (by decide +kernel), zmem 33 (by decide +kernel) (by decide +kernel), ⟨by decide +kernel, by decide +kernel⟩, by decide +kernel, by decide⟩
set_option maxRecDepth 20000 in
theorem zm_X5_passOneDay : zMV yX5_passOneDay cX5_passOneDay 3 (some .int) 0 := ⟨rfl, zmem 339 (by decide +kernel) (by decide +kernel), zmem 338 (by decide +kernel) (by decide +kernel), zmem 0 (by decide +kernel) (by decide +kernel), zmem 33 (by decide +kernel) (by decide +kernel), ⟨by decide +kernel, by decide +kernel⟩, by decide +kernel, by decide⟩
set_option maxRecDepth 20000 in
theorem zm_X5_priceNow : zMV yX5_priceNow cX5_priceNow 2 (some .int) 1 := ⟨rfl, zmem 418 (by decide +kernel) (by decide +kernel), zmem 417 (by decide +kernel) (by decide +kernel), zmem 12 (by decide +kernel) (by decide +kernel), zmem 33 (by decide +kernel) (by decide +kernel), ⟨by decide +kernel, by decide +kernel⟩, by decide +kernel, by decide⟩
set_option maxRecDepth 20000 in
theorem zm_X5_quitList : zMV yX5_quitList cX5_quitList 5 (some .int) 2 := ⟨rfl, zmem 708 (by decide +kernel) (by decide +kernel), zmem 706 (by decide +kernel) (by decide +kernel), zmem 707 (by decide +kernel) (by decide +kernel), zmem 33 (by decide +kernel) (by decide +kernel), ⟨by decide +kernel, by decide +kernel⟩, by decide +kernel, by decide⟩
set_option maxRecDepth 20000 in
theorem zm_X5_refund : zMV yX5_refund cX5_refund 4 (some .int) 1 := ⟨rfl, zmem 501 (by decide +kernel) (by decide +kernel), zmem 500 (by decide +kernel) (by decide +kernel), zmem 20 (by decide +kernel) (by decide +kernel), zmem 33 (by decide +kernel) (by decide +kernel), ⟨by decide +kernel, by decide +kernel⟩, by decide +kernel, by decide⟩
set_option maxRecDepth 20000 in
theorem zm_X5_resellTo : zMV yX5_resellTo cX5_resellTo 6 (some .int) 2 := ⟨rfl, zmem 489 (by decide +kernel) (by decide +kernel), zmem 487 (by decide +kernel) (by decide +kernel), zmem 488 (by decide +kernel) (by decide +kernel), zmem 33 (by decide +kernel) (by decide +kernel), ⟨by decide +kernel, by decide +kernel⟩, by decide +kernel, by decide⟩
set_option maxRecDepth 20000 in
theorem zm_X5_rightRow : zMV yX5_rightRow cX5_rightRow 2 (some (.object "RightsDesk$RightRow")) 1 := ⟨rfl, zmem 497 (by decide +kernel) (by decide +kernel), zmem 495 (by decide +kernel) (by decide +kernel), zmem 496 (by decide +kernel) (by decide +kernel), zmem 33 (by decide +kernel) (by decide +kernel), ⟨by decide +kernel, by decide +kernel⟩, by decide +kernel, by decide⟩
set_option maxRecDepth 20000 in
theorem zm_X5_rightsIn : zMV yX5_rightsIn cX5_rightsIn 5 (some .int) 2 := ⟨rfl, zmem 521 (by decide +kernel) (by decide +kernel), zmem 520 (by decide +kernel) (by decide +kernel), zmem 24 (by decide +kernel) (by decide +kernel), zmem 33 (by decide +kernel) (by decide +kernel), ⟨by decide +kernel, by decide +kernel⟩, by decide +kernel, by decide⟩
set_option maxRecDepth 20000 in
theorem zm_X5_rightsInAll : zMV yX5_rightsInAll cX5_rightsInAll 4 (some .int) 1 := ⟨rfl, zmem 554 (by decide +kernel) (by decide +kernel), zmem 553 (by decide +kernel) (by decide +kernel), zmem 25 (by decide +kernel) (by decide +kernel), zmem 33 (by decide +kernel) (by decide +kernel), ⟨by decide +kernel, by decide +kernel⟩, by decide +kernel, by decide⟩
set_option maxRecDepth 20000 in
theorem zm_X5_rightsOfHolder : zMV yX5_rightsOfHolder cX5_rightsOfHolder 5 (some .int) 2 := ⟨rfl, zmem 580 (by decide +kernel) (by decide +kernel), zmem 579 (by decide +kernel) (by decide +kernel), zmem 26 (by decide +kernel) (by decide +kernel), zmem 33 (by decide +kernel) (by decide +kernel), ⟨by decide +kernel, by decide +kernel⟩, by decide +kernel, by decide⟩
set_option maxRecDepth 20000 in
theorem zm_X5_rightsOut : zMV yX5_rightsOut cX5_rightsOut 4 (some .int) 1 := ⟨rfl, zmem 368 (by decide +kernel) (by decide +kernel), zmem 366 (by decide +kernel) (by decide +kernel), zmem 367 (by decide +kernel) (by decide +kernel), zmem 33 (by decide +kernel) (by decide +kernel), ⟨by decide +kernel, by decide +kernel⟩, by decide +kernel, by decide⟩
set_option maxRecDepth 20000 in
theorem zm_X5_sell : zMV yX5_sell cX5_sell 5 (some .int) 2 := ⟨rfl, zmem 407 (by decide +kernel) (by decide +kernel), zmem 406 (by decide +kernel) (by decide +kernel), zmem 10 (by decide +kernel) (by decide +kernel), zmem 33 (by decide +kernel) (by decide +kernel), ⟨by decide +kernel, by decide +kernel⟩, by decide +kernel, by decide⟩
set_option maxRecDepth 20000 in
theorem zm_X5_sellTo : zMV yX5_sellTo cX5_sellTo 4 (some .int) 2 := ⟨rfl, zmem 481 (by decide +kernel) (by decide +kernel), zmem 479 (by decide +kernel) (by decide +kernel), zmem 480 (by decide +kernel) (by decide +kernel), zmem 33 (by decide +kernel) (by decide +kernel), ⟨by decide +kernel, by decide +kernel⟩, by decide +kernel, by decide⟩
set_option maxRecDepth 20000 in
theorem zm_X5_sellable : zMV yX5_sellable cX5_sellable 3 (some .int) 1 := ⟨rfl, zmem 411 (by decide +kernel) (by decide +kernel), zmem 410 (by decide +kernel) (by decide +kernel), zmem 11 (by decide +kernel) (by decide +kernel), zmem 33 (by decide +kernel) (by decide +kernel), ⟨by decide +kernel, by decide +kernel⟩, by decide +kernel, by decide⟩
set_option maxRecDepth 20000 in
theorem zm_X5_stageOf : zMV yX5_stageOf cX5_stageOf 3 (some .int) 1 := ⟨rfl, zmem 505 (by decide +kernel) (by decide +kernel), zmem 504 (by decide +kernel) (by decide +kernel), zmem 21 (by decide +kernel) (by decide +kernel), zmem 33 (by decide +kernel) (by decide +kernel), ⟨by decide +kernel, by decide +kernel⟩, by decide +kernel, by decide⟩
set_option maxRecDepth 20000 in
theorem zm_X5_tellCount : zMV yX5_tellCount cX5_tellCount 2 (some .int) 1 := ⟨rfl, zmem 550 (by decide +kernel) (by decide +kernel), zmem 548 (by decide +kernel) (by decide +kernel), zmem 549 (by decide +kernel) (by decide +kernel), zmem 33 (by decide +kernel) (by decide +kernel), ⟨by decide +kernel, by decide +kernel⟩, by decide +kernel, by decide⟩
set_option maxRecDepth 20000 in
theorem zm_X5_tellExercisable : zMV yX5_tellExercisable cX5_tellExercisable 3 (some .int) 1 := ⟨rfl, zmem 617 (by decide +kernel) (by decide +kernel), zmem 616 (by decide +kernel) (by decide +kernel), zmem 29 (by decide +kernel) (by decide +kernel), zmem 33 (by decide +kernel) (by decide +kernel), ⟨by decide +kernel, by decide +kernel⟩, by decide +kernel, by decide⟩
set_option maxRecDepth 20000 in
theorem zm_X5_tellOfDate : zMV yX5_tellOfDate cX5_tellOfDate 3 (some .int) 2 := ⟨rfl, zmem 597 (by decide +kernel) (by decide +kernel), zmem 595 (by decide +kernel) (by decide +kernel), zmem 596 (by decide +kernel) (by decide +kernel), zmem 33 (by decide +kernel) (by decide +kernel), ⟨by decide +kernel, by decide +kernel⟩, by decide +kernel, by decide⟩
set_option maxRecDepth 20000 in
theorem zm_X5_tellOfHolder : zMV yX5_tellOfHolder cX5_tellOfHolder 3 (some .int) 2 := ⟨rfl, zmem 576 (by decide +kernel) (by decide +kernel), zmem 574 (by decide +kernel) (by decide +kernel), zmem 575 (by decide +kernel) (by decide +kernel), zmem 33 (by decide +kernel) (by decide +kernel), ⟨by decide +kernel, by decide +kernel⟩, by decide +kernel, by decide⟩
set_option maxRecDepth 20000 in
theorem zm_X5_tellOfRight : zMV yX5_tellOfRight cX5_tellOfRight 3 (some .int) 2 := ⟨rfl, zmem 613 (by decide +kernel) (by decide +kernel), zmem 611 (by decide +kernel) (by decide +kernel), zmem 612 (by decide +kernel) (by decide +kernel), zmem 33 (by decide +kernel) (by decide +kernel), ⟨by decide +kernel, by decide +kernel⟩, by decide +kernel, by decide⟩
set_option maxRecDepth 20000 in
theorem zm_X5_tellOfStage : zMV yX5_tellOfStage cX5_tellOfStage 3 (some .int) 2 := ⟨rfl, zmem 625 (by decide +kernel) (by decide +kernel), zmem 623 (by decide +kernel) (by decide +kernel), zmem 624 (by decide +kernel) (by decide +kernel), zmem 33 (by decide +kernel) (by decide +kernel), ⟨by decide +kernel, by decide +kernel⟩, by decide +kernel, by decide⟩
set_option maxRecDepth 20000 in
theorem zm_X5_withdrawOffer : zMV yX5_withdrawOffer cX5_withdrawOffer 4 (some .int) 1 := ⟨rfl, zmem 688 (by decide +kernel) (by decide +kernel), zmem 686 (by decide +kernel) (by decide +kernel), zmem 687 (by decide +kernel) (by decide +kernel), zmem 33 (by decide +kernel) (by decide +kernel), ⟨by decide +kernel, by decide +kernel⟩, by decide +kernel, by decide⟩
set_option maxRecDepth 20000 in
theorem zm_X6_addDate : zMV yX6_addDate cX6_addDate 6 (some .int) 5 := ⟨rfl, zmem 280 (by decide +kernel) (by decide +kernel), zmem 278 (by decide +kernel) (by decide +kernel), zmem 279 (by decide +kernel) (by decide +kernel), zmem 32 (by decide +kernel) (by decide +kernel), ⟨by decide +kernel, by decide +kernel⟩, by decide +kernel, by decide⟩
set_option maxRecDepth 20000 in
theorem zm_X6_await : zMV yX6_await cX6_await 3 (some .int) 2 := ⟨rfl, zmem 692 (by decide +kernel) (by decide +kernel), zmem 690 (by decide +kernel) (by decide +kernel), zmem 691 (by decide +kernel) (by decide +kernel), zmem 32 (by decide +kernel) (by decide +kernel), ⟨by decide +kernel, by decide +kernel⟩, by decide +kernel, by decide⟩
set_option maxRecDepth 20000 in
theorem zm_X6_buy : zMV yX6_buy cX6_buy 3 (some .int) 2 := ⟨rfl, zmem 649 (by decide +kernel) (by decide +kernel), zmem 647 (by decide +kernel) (by decide +kernel), zmem 648 (by decide +kernel) (by decide +kernel), zmem 32 (by decide +kernel) (by decide +kernel), ⟨by decide +kernel, by decide +kernel⟩, by decide +kernel, by decide⟩
set_option maxRecDepth 20000 in
theorem zm_X6_buyOffered : zMV yX6_buyOffered cX6_buyOffered 3 (some .int) 2 := ⟨rfl, zmem 665 (by decide +kernel) (by decide +kernel), zmem 663 (by decide +kernel) (by decide +kernel), zmem 664 (by decide +kernel) (by decide +kernel), zmem 32 (by decide +kernel) (by decide +kernel), ⟨by decide +kernel, by decide +kernel⟩, by decide +kernel, by decide⟩
set_option maxRecDepth 20000 in
theorem zm_X6_cancel : zMV yX6_cancel cX6_cancel 2 (some .int) 1 := ⟨rfl, zmem 672 (by decide +kernel) (by decide +kernel), zmem 670 (by decide +kernel) (by decide +kernel), zmem 671 (by decide +kernel) (by decide +kernel), zmem 32 (by decide +kernel) (by decide +kernel), ⟨by decide +kernel, by decide +kernel⟩, by decide +kernel, by decide⟩
set_option maxRecDepth 20000 in
theorem zm_X6_copyAll : zMS yX6_copyAll cX6_copyAll 3 none 2 := ⟨rfl, zmem 291 (by decide +kernel) (by decide +kernel), zmem 290 (by decide +kernel) (by decide +kernel), zmem 32 (by decide +kernel) (by decide +kernel), ⟨by decide +kernel, by decide +kernel⟩, by decide +kernel, by decide⟩
set_option maxRecDepth 20000 in
theorem zm_X6_count : zMV yX6_count cX6_count 2 (some .int) 1 := ⟨rfl, zmem 546 (by decide +kernel) (by decide +kernel), zmem 544 (by decide +kernel) (by decide +kernel), zmem 545 (by decide +kernel) (by decide +kernel), zmem 32 (by decide +kernel) (by decide +kernel), ⟨by decide +kernel, by decide +kernel⟩, by decide +kernel, by decide⟩
set_option maxRecDepth 20000 in
theorem zm_X6_date : zMV yX6_date cX6_date 4 (some .int) 2 := ⟨rfl, zmem 592 (by decide +kernel) (by decide +kernel), zmem 590 (by decide +kernel) (by decide +kernel), zmem 591 (by decide +kernel) (by decide +kernel), zmem 32 (by decide +kernel) (by decide +kernel), ⟨by decide +kernel, by decide +kernel⟩, by decide +kernel, by decide⟩
set_option maxRecDepth 20000 in
theorem zm_X6_event : zMV yX6_event cX6_event 4 (some .int) 2 := ⟨rfl, zmem 653 (by decide +kernel) (by decide +kernel), zmem 651 (by decide +kernel) (by decide +kernel), zmem 652 (by decide +kernel) (by decide +kernel), zmem 32 (by decide +kernel) (by decide +kernel), ⟨by decide +kernel, by decide +kernel⟩, by decide +kernel, by decide⟩
set_option maxRecDepth 20000 in
theorem zm_X6_exercise : zMV yX6_exercise cX6_exercise 2 (some .int) 1 := ⟨rfl, zmem 676 (by decide +kernel) (by decide +kernel), zmem 674 (by decide +kernel) (by decide +kernel), zmem 675 (by decide +kernel) (by decide +kernel), zmem 32 (by decide +kernel) (by decide +kernel), ⟨by decide +kernel, by decide +kernel⟩, by decide +kernel, by decide⟩
set_option maxRecDepth 20000 in
theorem zm_X6_holder : zMV yX6_holder cX6_holder 3 (some .int) 2 := ⟨rfl, zmem 571 (by decide +kernel) (by decide +kernel), zmem 569 (by decide +kernel) (by decide +kernel), zmem 570 (by decide +kernel) (by decide +kernel), zmem 32 (by decide +kernel) (by decide +kernel), ⟨by decide +kernel, by decide +kernel⟩, by decide +kernel, by decide⟩
set_option maxRecDepth 20000 in
theorem zm_X6_isHolder : zMS yX6_isHolder cX6_isHolder 1 (some .boolean) 1 := ⟨rfl, zmem 391 (by decide +kernel) (by decide +kernel), zmem 390 (by decide +kernel) (by decide +kernel), zmem 32 (by decide +kernel) (by decide +kernel), ⟨by decide +kernel, by decide +kernel⟩, by decide +kernel, by decide⟩
set_option maxRecDepth 20000 in
theorem zm_X6_keep : zMV yX6_keep cX6_keep 1 (some .int) 0 := ⟨rfl, zmem 538 (by decide +kernel) (by decide +kernel), zmem 536 (by decide +kernel) (by decide +kernel), zmem 537 (by decide +kernel) (by decide +kernel), zmem 32 (by decide +kernel) (by decide +kernel), ⟨by decide +kernel, by decide +kernel⟩, by decide +kernel, by decide⟩
set_option maxRecDepth 20000 in
theorem zm_X6_leave : zMV yX6_leave cX6_leave 3 (some .int) 2 := ⟨rfl, zmem 704 (by decide +kernel) (by decide +kernel), zmem 702 (by decide +kernel) (by decide +kernel), zmem 703 (by decide +kernel) (by decide +kernel), zmem 32 (by decide +kernel) (by decide +kernel), ⟨by decide +kernel, by decide +kernel⟩, by decide +kernel, by decide⟩
set_option maxRecDepth 20000 in
theorem zm_X6_offer : zMV yX6_offer cX6_offer 3 (some .int) 2 := ⟨rfl, zmem 680 (by decide +kernel) (by decide +kernel), zmem 678 (by decide +kernel) (by decide +kernel), zmem 679 (by decide +kernel) (by decide +kernel), zmem 32 (by decide +kernel) (by decide +kernel), ⟨by decide +kernel, by decide +kernel⟩, by decide +kernel, by decide⟩
set_option maxRecDepth 20000 in
theorem zm_X6_pass : zMV yX6_pass cX6_pass 2 (some .int) 1 := ⟨rfl, zmem 331 (by decide +kernel) (by decide +kernel), zmem 329 (by decide +kernel) (by decide +kernel), zmem 330 (by decide +kernel) (by decide +kernel), zmem 32 (by decide +kernel) (by decide +kernel), ⟨by decide +kernel, by decide +kernel⟩, by decide +kernel, by decide⟩
set_option maxRecDepth 20000 in
theorem zm_X6_perform : zMV yX6_perform cX6_perform 4 (some .int) 0 := ⟨rfl, zmem 430 (by decide +kernel) (by decide +kernel), zmem 428 (by decide +kernel) (by decide +kernel), zmem 429 (by decide +kernel) (by decide +kernel), zmem 32 (by decide +kernel) (by decide +kernel), ⟨by decide +kernel, by decide +kernel⟩, by decide +kernel, by decide⟩
set_option maxRecDepth 20000 in
theorem zm_X6_performNext : zMV yX6_performNext cX6_performNext 1 (some .int) 0 := ⟨rfl, zmem 475 (by decide +kernel) (by decide +kernel), zmem 474 (by decide +kernel) (by decide +kernel), zmem 19 (by decide +kernel) (by decide +kernel), zmem 32 (by decide +kernel) (by decide +kernel), ⟨by decide +kernel, by decide +kernel⟩, by decide +kernel, by decide⟩
set_option maxRecDepth 20000 in
theorem zm_X6_priceIn : zMV yX6_priceIn cX6_priceIn 5 (some .int) 2 := ⟨rfl, zmem 629 (by decide +kernel) (by decide +kernel), zmem 627 (by decide +kernel) (by decide +kernel), zmem 628 (by decide +kernel) (by decide +kernel), zmem 32 (by decide +kernel) (by decide +kernel), ⟨by decide +kernel, by decide +kernel⟩, by decide +kernel, by decide⟩
set_option maxRecDepth 20000 in
theorem zm_X6_restore : zMV yX6_restore cX6_restore 1 (some .int) 0 := ⟨rfl, zmem 542 (by decide +kernel) (by decide +kernel), zmem 540 (by decide +kernel) (by decide +kernel), zmem 541 (by decide +kernel) (by decide +kernel), zmem 32 (by decide +kernel) (by decide +kernel), ⟨by decide +kernel, by decide +kernel⟩, by decide +kernel, by decide⟩
set_option maxRecDepth 20000 in
theorem zm_X6_right : zMV yX6_right cX6_right 4 (some .int) 2 := ⟨rfl, zmem 608 (by decide +kernel) (by decide +kernel), zmem 606 (by decide +kernel) (by decide +kernel), zmem 607 (by decide +kernel) (by decide +kernel), zmem 32 (by decide +kernel) (by decide +kernel), ⟨by decide +kernel, by decide +kernel⟩, by decide +kernel, by decide⟩
set_option maxRecDepth 20000 in
theorem zm_X6_set : zMV yX6_set cX6_set 3 (some .int) 2 := ⟨rfl, zmem 319 (by decide +kernel) (by decide +kernel), zmem 317 (by decide +kernel) (by decide +kernel), zmem 318 (by decide +kernel) (by decide +kernel), zmem 32 (by decide +kernel) (by decide +kernel), ⟨by decide +kernel, by decide +kernel⟩, by decide +kernel, by decide⟩
set_option maxRecDepth 20000 in
theorem zm_X6_setStage : zMV yX6_setStage cX6_setStage 4 (some .int) 3 := ⟨rfl, zmem 712 (by decide +kernel) (by decide +kernel), zmem 710 (by decide +kernel) (by decide +kernel), zmem 711 (by decide +kernel) (by decide +kernel), zmem 32 (by decide +kernel) (by decide +kernel), ⟨by decide +kernel, by decide +kernel⟩, by decide +kernel, by decide⟩
set_option maxRecDepth 20000 in
theorem zm_X6_stage : zMV yX6_stage cX6_stage 3 (some .int) 2 := ⟨rfl, zmem 621 (by decide +kernel) (by decide +kernel), zmem 619 (by decide +kernel) (by decide +kernel), zmem 620 (by decide +kernel) (by decide +kernel), zmem 32 (by decide +kernel) (by decide +kernel), ⟨by decide +kernel, by decide +kernel⟩, by decide +kernel, by decide⟩
set_option maxRecDepth 20000 in
theorem zm_X6_takeBack : zMV yX6_takeBack cX6_takeBack 2 (some .int) 1 := ⟨rfl, zmem 684 (by decide +kernel) (by decide +kernel), zmem 682 (by decide +kernel) (by decide +kernel), zmem 683 (by decide +kernel) (by decide +kernel), zmem 32 (by decide +kernel) (by decide +kernel), ⟨by decide +kernel, by decide +kernel⟩, by decide +kernel, by decide⟩
set_option maxRecDepth 20000 in
theorem zm_X6_undo : zMV yX6_undo cX6_undo 2 (some .int) 0 := ⟨rfl, zmem 530 (by decide +kernel) (by decide +kernel), zmem 528 (by decide +kernel) (by decide +kernel), zmem 529 (by decide +kernel) (by decide +kernel), zmem 32 (by decide +kernel) (by decide +kernel), ⟨by decide +kernel, by decide +kernel⟩, by decide +kernel, by decide⟩
set_option maxRecDepth 20000 in
theorem zm_X6_waiting : zMV yX6_waiting cX6_waiting 4 (some .int) 2 := ⟨rfl, zmem 641 (by decide +kernel) (by decide +kernel), zmem 639 (by decide +kernel) (by decide +kernel), zmem 640 (by decide +kernel) (by decide +kernel), zmem 32 (by decide +kernel) (by decide +kernel), ⟨by decide +kernel, by decide +kernel⟩, by decide +kernel, by decide⟩
set_option maxRecDepth 20000 in
theorem zm_X6_wouldCover : zMV yX6_wouldCover cX6_wouldCover 3 (some .int) 1 := ⟨rfl, zmem 636 (by decide +kernel) (by decide +kernel), zmem 634 (by decide +kernel) (by decide +kernel), zmem 635 (by decide +kernel) (by decide +kernel), zmem 32 (by decide +kernel) (by decide +kernel), ⟨by decide +kernel, by decide +kernel⟩, by decide +kernel, by decide⟩
set_option maxRecDepth 20000 in
theorem zl_L_9 : Cond.methodLink RL 9 yX6_holder ∈ zU := zmem 568 (by decide +kernel) (by decide +kernel)
set_option maxRecDepth 20000 in
theorem zl_L_16 : Cond.methodLink RL 16 yX6_count ∈ zU := zmem 543 (by decide +kernel) (by decide +kernel)
set_option maxRecDepth 20000 in
theorem zl_L_20 : Cond.methodLink RL 20 yL_account ∈ zU := zmem 565 (by decide +kernel) (by decide +kernel)
set_option maxRecDepth 20000 in
theorem zl_L_26 : Cond.methodLink RL 26 yX6_date ∈ zU := zmem 589 (by decide +kernel) (by decide +kernel)
set_option maxRecDepth 20000 in
theorem zl_L_29 : Cond.methodLink RL 29 yX6_right ∈ zU := zmem 605 (by decide +kernel) (by decide +kernel)
set_option maxRecDepth 20000 in
theorem zl_L_32 : Cond.methodLink RL 32 yX6_stage ∈ zU := zmem 618 (by decide +kernel) (by decide +kernel)
set_option maxRecDepth 20000 in
theorem zl_L_35 : Cond.methodLink RL 35 yX6_priceIn ∈ zU := zmem 626 (by decide +kernel) (by decide +kernel)
set_option maxRecDepth 20000 in
theorem zl_L_38 : Cond.methodLink RL 38 yX6_wouldCover ∈ zU := zmem 633 (by decide +kernel) (by decide +kernel)
set_option maxRecDepth 20000 in
theorem zl_L_41 : Cond.methodLink RL 41 yX6_waiting ∈ zU := zmem 638 (by decide +kernel) (by decide +kernel)
set_option maxRecDepth 20000 in
theorem zl_L_44 : Cond.methodLink RL 44 yX6_cancel ∈ zU := zmem 669 (by decide +kernel) (by decide +kernel)
set_option maxRecDepth 20000 in
theorem zl_L_47 : Cond.methodLink RL 47 yX6_event ∈ zU := zmem 650 (by decide +kernel) (by decide +kernel)
set_option maxRecDepth 20000 in
theorem zl_L_50 : Cond.methodLink RL 50 yX6_exercise ∈ zU := zmem 673 (by decide +kernel) (by decide +kernel)
set_option maxRecDepth 20000 in
theorem zl_L_53 : Cond.methodLink RL 53 yX6_offer ∈ zU := zmem 677 (by decide +kernel) (by decide +kernel)
set_option maxRecDepth 20000 in
theorem zl_L_56 : Cond.methodLink RL 56 yX6_takeBack ∈ zU := zmem 681 (by decide +kernel) (by decide +kernel)
set_option maxRecDepth 20000 in
theorem zl_L_59 : Cond.methodLink RL 59 yX6_buy ∈ zU := zmem 646 (by decide +kernel) (by decide +kernel)
set_option maxRecDepth 20000 in
theorem zl_L_62 : Cond.methodLink RL 62 yX6_buyOffered ∈ zU := zmem 662 (by decide +kernel) (by decide +kernel)
set_option maxRecDepth 20000 in
theorem zl_L_65 : Cond.methodLink RL 65 yL_deed ∈ zU := zmem 666 (by decide +kernel) (by decide +kernel)
set_option maxRecDepth 20000 in
theorem zl_L_69 : Cond.methodLink RL 69 yX6_await ∈ zU := zmem 689 (by decide +kernel) (by decide +kernel)
set_option maxRecDepth 20000 in
theorem zl_L_72 : Cond.methodLink RL 72 yX6_leave ∈ zU := zmem 701 (by decide +kernel) (by decide +kernel)
set_option maxRecDepth 20000 in
theorem zl_L_75 : Cond.methodLink RL 75 yX6_pass ∈ zU := zmem 328 (by decide +kernel) (by decide +kernel)
set_option maxRecDepth 20000 in
theorem zl_L_78 : Cond.methodLink RL 78 yX6_set ∈ zU := zmem 316 (by decide +kernel) (by decide +kernel)
set_option maxRecDepth 20000 in
theorem zl_L_81 : Cond.methodLink RL 81 yX6_setStage ∈ zU := zmem 709 (by decide +kernel) (by decide +kernel)
set_option maxRecDepth 20000 in
theorem zl_L_86 : Cond.methodLink RL 86 yL_cell ∈ zU := zmem 556 (by decide +kernel) (by decide +kernel)
set_option maxRecDepth 20000 in
theorem zl_L_90 : Cond.methodLink RL 90 yX6_perform ∈ zU := zmem 427 (by decide +kernel) (by decide +kernel)
set_option maxRecDepth 20000 in
theorem zl_L_94 : Cond.methodLink RL 94 yX6_addDate ∈ zU := zmem 277 (by decide +kernel) (by decide +kernel)
set_option maxRecDepth 20000 in
theorem zl_L_98 : Cond.methodLink RL 98 yL_acts ∈ zU := zmem 643 (by decide +kernel) (by decide +kernel)
set_option maxRecDepth 20000 in
theorem zl_L_101 : Cond.methodLink RL 101 yL_sums ∈ zU := zmem 561 (by decide +kernel) (by decide +kernel)
set_option maxRecDepth 20000 in
theorem zl_L_105 : Cond.methodLink RL 105 yL_dates ∈ zU := zmem 602 (by decide +kernel) (by decide +kernel)
set_option maxRecDepth 20000 in
theorem zl_L_108 : Cond.methodLink RL 108 yX6_keep ∈ zU := zmem 535 (by decide +kernel) (by decide +kernel)
set_option maxRecDepth 20000 in
theorem zl_L_111 : Cond.methodLink RL 111 yX6_undo ∈ zU := zmem 527 (by decide +kernel) (by decide +kernel)
set_option maxRecDepth 20000 in
theorem zl_L_114 : Cond.methodLink RL 114 yX6_restore ∈ zU := zmem 539 (by decide +kernel) (by decide +kernel)
set_option maxRecDepth 20000 in
theorem zl_X2_22 : Cond.methodLink RX2 22 yX5_copyFrom ∈ zU := zmem 285 (by decide +kernel) (by decide +kernel)
set_option maxRecDepth 20000 in
theorem zl_X2_30 : Cond.methodLink RX2 30 Lib.Math.min.name ∈ zU := zmem 313 (by decide +kernel) (by decide +kernel)
set_option maxRecDepth 20000 in
theorem zl_X3_19 : Cond.methodLink RX3 19 yX3_goToStart ∈ zU := zmem 435 (by decide +kernel) (by decide +kernel)
set_option maxRecDepth 20000 in
theorem zl_X3_22 : Cond.methodLink RX3 22 yX3_readOrder ∈ zU := zmem 439 (by decide +kernel) (by decide +kernel)
set_option maxRecDepth 20000 in
theorem zl_X3_29 : Cond.methodLink RX3 29 yX3_skip ∈ zU := zmem 447 (by decide +kernel) (by decide +kernel)
set_option maxRecDepth 20000 in
theorem zl_X3_33 : Cond.methodLink RX3 33 yX3_here ∈ zU := zmem 443 (by decide +kernel) (by decide +kernel)
set_option maxRecDepth 20000 in
theorem zl_X3_40 : Cond.methodLink RX3 40 yX3_readHolderAndDate ∈ zU := zmem 451 (by decide +kernel) (by decide +kernel)
set_option maxRecDepth 20000 in
theorem zl_X3_43 : Cond.methodLink RX3 43 yX3_readRight ∈ zU := zmem 463 (by decide +kernel) (by decide +kernel)
set_option maxRecDepth 20000 in
theorem zl_X3_46 : Cond.methodLink RX3 46 yX3_readPrice ∈ zU := zmem 467 (by decide +kernel) (by decide +kernel)
set_option maxRecDepth 20000 in
theorem zl_X3_49 : Cond.methodLink RX3 49 yX3_isDigitHere ∈ zU := zmem 455 (by decide +kernel) (by decide +kernel)
set_option maxRecDepth 20000 in
theorem zl_X3_52 : Cond.methodLink RX3 52 yX3_takeDigit ∈ zU := zmem 459 (by decide +kernel) (by decide +kernel)
set_option maxRecDepth 20000 in
theorem zl_X5_72 : Cond.methodLink RX5 72 yX0_copyFrom ∈ zU := zmem 292 (by decide +kernel) (by decide +kernel)
set_option maxRecDepth 20000 in
theorem zl_X5_79 : Cond.methodLink RX5 79 yX4_copyFrom ∈ zU := zmem 297 (by decide +kernel) (by decide +kernel)
set_option maxRecDepth 20000 in
theorem zl_X5_88 : Cond.methodLink RX5 88 yX1_copyFrom ∈ zU := zmem 301 (by decide +kernel) (by decide +kernel)
set_option maxRecDepth 20000 in
theorem zl_X5_110 : Cond.methodLink RX5 110 yX5_isStage ∈ zU := zmem 506 (by decide +kernel) (by decide +kernel)
set_option maxRecDepth 20000 in
theorem zl_X5_114 : Cond.methodLink RX5 114 yX5_fitsStage ∈ zU := zmem 717 (by decide +kernel) (by decide +kernel)
set_option maxRecDepth 20000 in
theorem zl_X5_124 : Cond.methodLink RX5 124 yX5_dateRow ∈ zU := zmem 482 (by decide +kernel) (by decide +kernel)
set_option maxRecDepth 20000 in
theorem zl_X5_131 : Cond.methodLink RX5 131 yX5_isOpen ∈ zU := zmem 392 (by decide +kernel) (by decide +kernel)
set_option maxRecDepth 20000 in
theorem zl_X5_135 : Cond.methodLink RX5 135 yX5_sell ∈ zU := zmem 404 (by decide +kernel) (by decide +kernel)
set_option maxRecDepth 20000 in
theorem zl_X5_139 : Cond.methodLink RX5 139 yX5_cheapestOffered ∈ zU := zmem 373 (by decide +kernel) (by decide +kernel)
set_option maxRecDepth 20000 in
theorem zl_X5_149 : Cond.methodLink RX5 149 yX5_give ∈ zU := zmem 385 (by decide +kernel) (by decide +kernel)
set_option maxRecDepth 20000 in
theorem zl_X5_156 : Cond.methodLink RX5 156 yX4_turnTo ∈ zU := zmem 352 (by decide +kernel) (by decide +kernel)
set_option maxRecDepth 20000 in
theorem zl_X5_159 : Cond.methodLink RX5 159 yX5_log ∈ zU := zmem 356 (by decide +kernel) (by decide +kernel)
set_option maxRecDepth 20000 in
theorem zl_X5_164 : Cond.methodLink RX5 164 yX5_rightRow ∈ zU := zmem 494 (by decide +kernel) (by decide +kernel)
set_option maxRecDepth 20000 in
theorem zl_X5_168 : Cond.methodLink RX5 168 yX5_refund ∈ zU := zmem 498 (by decide +kernel) (by decide +kernel)
set_option maxRecDepth 20000 in
theorem zl_X5_175 : Cond.methodLink RX5 175 yX5_letListBuy ∈ zU := zmem 396 (by decide +kernel) (by decide +kernel)
set_option maxRecDepth 20000 in
theorem zl_X5_178 : Cond.methodLink RX5 178 yX4_isHeldOrOffered ∈ zU := zmem 348 (by decide +kernel) (by decide +kernel)
set_option maxRecDepth 20000 in
theorem zl_X5_185 : Cond.methodLink RX5 185 yX5_canBeExercised ∈ zU := zmem 514 (by decide +kernel) (by decide +kernel)
set_option maxRecDepth 20000 in
theorem zl_X5_189 : Cond.methodLink RX5 189 yX5_rightsIn ∈ zU := zmem 518 (by decide +kernel) (by decide +kernel)
set_option maxRecDepth 20000 in
theorem zl_X5_193 : Cond.methodLink RX5 193 yX0_placeOf ∈ zU := zmem 585 (by decide +kernel) (by decide +kernel)
set_option maxRecDepth 20000 in
theorem zl_X5_197 : Cond.methodLink RX5 197 yX0_appendToList ∈ zU := zmem 697 (by decide +kernel) (by decide +kernel)
set_option maxRecDepth 20000 in
theorem zl_X5_200 : Cond.methodLink RX5 200 yX0_removeFromList ∈ zU := zmem 423 (by decide +kernel) (by decide +kernel)
set_option maxRecDepth 20000 in
theorem zl_X5_203 : Cond.methodLink RX5 203 yX5_passOneDay ∈ zU := zmem 336 (by decide +kernel) (by decide +kernel)
set_option maxRecDepth 20000 in
theorem zl_X5_207 : Cond.methodLink RX5 207 yX5_daysLeft ∈ zU := zmem 340 (by decide +kernel) (by decide +kernel)
set_option maxRecDepth 20000 in
theorem zl_X5_211 : Cond.methodLink RX5 211 yX5_endDate ∈ zU := zmem 344 (by decide +kernel) (by decide +kernel)
set_option maxRecDepth 20000 in
theorem zl_X5_214 : Cond.methodLink RX5 214 yX5_coverRightsOf ∈ zU := zmem 361 (by decide +kernel) (by decide +kernel)
set_option maxRecDepth 20000 in
theorem zl_X5_220 : Cond.methodLink RX5 220 yX5_rightsOut ∈ zU := zmem 365 (by decide +kernel) (by decide +kernel)
set_option maxRecDepth 20000 in
theorem zl_X5_223 : Cond.methodLink RX5 223 yX5_nextToCover ∈ zU := zmem 369 (by decide +kernel) (by decide +kernel)
set_option maxRecDepth 20000 in
theorem zl_X5_226 : Cond.methodLink RX5 226 yX5_coverOne ∈ zU := zmem 381 (by decide +kernel) (by decide +kernel)
set_option maxRecDepth 20000 in
theorem zl_X5_229 : Cond.methodLink RX5 229 yX5_cheapestHeld ∈ zU := zmem 377 (by decide +kernel) (by decide +kernel)
set_option maxRecDepth 20000 in
theorem zl_X5_232 : Cond.methodLink RX5 232 yX0_waitingAt ∈ zU := zmem 400 (by decide +kernel) (by decide +kernel)
set_option maxRecDepth 20000 in
theorem zl_X5_235 : Cond.methodLink RX5 235 yX5_sellable ∈ zU := zmem 408 (by decide +kernel) (by decide +kernel)
set_option maxRecDepth 20000 in
theorem zl_X5_238 : Cond.methodLink RX5 238 yX5_priceNow ∈ zU := zmem 415 (by decide +kernel) (by decide +kernel)
set_option maxRecDepth 20000 in
theorem zl_X5_244 : Cond.methodLink RX5 244 Lib.Math.min.name ∈ zU := zmem 360 (by decide +kernel) (by decide +kernel)
set_option maxRecDepth 20000 in
theorem zl_X5_250 : Cond.methodLink RX5 250 Lib.Math.max.name ∈ zU := zmem 412 (by decide +kernel) (by decide +kernel)
set_option maxRecDepth 20000 in
theorem zl_X5_253 : Cond.methodLink RX5 253 yX0_priceFor ∈ zU := zmem 419 (by decide +kernel) (by decide +kernel)
set_option maxRecDepth 20000 in
theorem zl_X5_266 : Cond.methodLink RX5 266 yX5_stageOf ∈ zU := zmem 502 (by decide +kernel) (by decide +kernel)
set_option maxRecDepth 20000 in
theorem zl_X5_269 : Cond.methodLink RX5 269 yX5_lowestAsking ∈ zU := zmem 598 (by decide +kernel) (by decide +kernel)
set_option maxRecDepth 20000 in
theorem zl_X5_272 : Cond.methodLink RX5 272 yX5_tellExercisable ∈ zU := zmem 614 (by decide +kernel) (by decide +kernel)
set_option maxRecDepth 20000 in
theorem zl_X5_276 : Cond.methodLink RX5 276 yX5_rightsOfHolder ∈ zU := zmem 577 (by decide +kernel) (by decide +kernel)
set_option maxRecDepth 20000 in
theorem zl_X5_279 : Cond.methodLink RX5 279 yX5_listsWith ∈ zU := zmem 581 (by decide +kernel) (by decide +kernel)
set_option maxRecDepth 20000 in
theorem zl_X5_282 : Cond.methodLink RX5 282 yX5_rightsInAll ∈ zU := zmem 551 (by decide +kernel) (by decide +kernel)
set_option maxRecDepth 20000 in
theorem zl_X6_33 : Cond.methodLink RX6 33 yX2_prepare ∈ zU := zmem 281 (by decide +kernel) (by decide +kernel)
set_option maxRecDepth 20000 in
theorem zl_X6_37 : Cond.methodLink RX6 37 yX5_openDate ∈ zU := zmem 305 (by decide +kernel) (by decide +kernel)
set_option maxRecDepth 20000 in
theorem zl_X6_41 : Cond.methodLink RX6 41 yX2_settle ∈ zU := zmem 309 (by decide +kernel) (by decide +kernel)
set_option maxRecDepth 20000 in
theorem zl_X6_45 : Cond.methodLink RX6 45 yX5_changeStage ∈ zU := zmem 713 (by decide +kernel) (by decide +kernel)
set_option maxRecDepth 20000 in
theorem zl_X6_49 : Cond.methodLink RX6 49 yX5_changeNumber ∈ zU := zmem 320 (by decide +kernel) (by decide +kernel)
set_option maxRecDepth 20000 in
theorem zl_X6_53 : Cond.methodLink RX6 53 yX5_sellTo ∈ zU := zmem 478 (by decide +kernel) (by decide +kernel)
set_option maxRecDepth 20000 in
theorem zl_X6_56 : Cond.methodLink RX6 56 yX5_resellTo ∈ zU := zmem 486 (by decide +kernel) (by decide +kernel)
set_option maxRecDepth 20000 in
theorem zl_X6_59 : Cond.methodLink RX6 59 yX5_cancelRight ∈ zU := zmem 490 (by decide +kernel) (by decide +kernel)
set_option maxRecDepth 20000 in
theorem zl_X6_62 : Cond.methodLink RX6 62 yX5_offerRight ∈ zU := zmem 522 (by decide +kernel) (by decide +kernel)
set_option maxRecDepth 20000 in
theorem zl_X6_65 : Cond.methodLink RX6 65 yX5_withdrawOffer ∈ zU := zmem 685 (by decide +kernel) (by decide +kernel)
set_option maxRecDepth 20000 in
theorem zl_X6_68 : Cond.methodLink RX6 68 yX5_exerciseRight ∈ zU := zmem 510 (by decide +kernel) (by decide +kernel)
set_option maxRecDepth 20000 in
theorem zl_X6_71 : Cond.methodLink RX6 71 yX5_joinList ∈ zU := zmem 693 (by decide +kernel) (by decide +kernel)
set_option maxRecDepth 20000 in
theorem zl_X6_74 : Cond.methodLink RX6 74 yX5_quitList ∈ zU := zmem 705 (by decide +kernel) (by decide +kernel)
set_option maxRecDepth 20000 in
theorem zl_X6_77 : Cond.methodLink RX6 77 yX5_passDays ∈ zU := zmem 332 (by decide +kernel) (by decide +kernel)
set_option maxRecDepth 20000 in
theorem zl_X6_88 : Cond.methodLink RX6 88 yX3_countOrders ∈ zU := zmem 431 (by decide +kernel) (by decide +kernel)
set_option maxRecDepth 20000 in
theorem zl_X6_91 : Cond.methodLink RX6 91 yX3_goToStart ∈ zU := zmem 471 (by decide +kernel) (by decide +kernel)
set_option maxRecDepth 20000 in
theorem zl_X6_94 : Cond.methodLink RX6 94 yX6_performNext ∈ zU := zmem 472 (by decide +kernel) (by decide +kernel)
set_option maxRecDepth 20000 in
theorem zl_X6_100 : Cond.methodLink RX6 100 yX5_copyFrom ∈ zU := zmem 526 (by decide +kernel) (by decide +kernel)
set_option maxRecDepth 20000 in
theorem zl_X6_103 : Cond.methodLink RX6 103 yX2_takeLatest ∈ zU := zmem 531 (by decide +kernel) (by decide +kernel)
set_option maxRecDepth 20000 in
theorem zl_X6_118 : Cond.methodLink RX6 118 yX5_dateRow ∈ zU := zmem 593 (by decide +kernel) (by decide +kernel)
set_option maxRecDepth 20000 in
theorem zl_X6_122 : Cond.methodLink RX6 122 yX5_tellOfDate ∈ zU := zmem 594 (by decide +kernel) (by decide +kernel)
set_option maxRecDepth 20000 in
theorem zl_X6_126 : Cond.methodLink RX6 126 yX0_waitingAt ∈ zU := zmem 642 (by decide +kernel) (by decide +kernel)
set_option maxRecDepth 20000 in
theorem zl_X6_131 : Cond.methodLink RX6 131 yX5_rightRow ∈ zU := zmem 609 (by decide +kernel) (by decide +kernel)
set_option maxRecDepth 20000 in
theorem zl_X6_135 : Cond.methodLink RX6 135 yX5_tellOfRight ∈ zU := zmem 610 (by decide +kernel) (by decide +kernel)
set_option maxRecDepth 20000 in
theorem zl_X6_139 : Cond.methodLink RX6 139 yX6_isHolder ∈ zU := zmem 572 (by decide +kernel) (by decide +kernel)
set_option maxRecDepth 20000 in
theorem zl_X6_143 : Cond.methodLink RX6 143 yX5_tellOfHolder ∈ zU := zmem 573 (by decide +kernel) (by decide +kernel)
set_option maxRecDepth 20000 in
theorem zl_X6_146 : Cond.methodLink RX6 146 yX5_tellOfStage ∈ zU := zmem 622 (by decide +kernel) (by decide +kernel)
set_option maxRecDepth 20000 in
theorem zl_X6_149 : Cond.methodLink RX6 149 yX5_daysLeft ∈ zU := zmem 630 (by decide +kernel) (by decide +kernel)
set_option maxRecDepth 20000 in
theorem zl_X6_153 : Cond.methodLink RX6 153 yX5_rightsOut ∈ zU := zmem 631 (by decide +kernel) (by decide +kernel)
set_option maxRecDepth 20000 in
theorem zl_X6_156 : Cond.methodLink RX6 156 yX0_priceFor ∈ zU := zmem 632 (by decide +kernel) (by decide +kernel)
set_option maxRecDepth 20000 in
theorem zl_X6_163 : Cond.methodLink RX6 163 yX5_coverRightsOf ∈ zU := zmem 637 (by decide +kernel) (by decide +kernel)
set_option maxRecDepth 20000 in
theorem zl_X6_166 : Cond.methodLink RX6 166 yX5_eventRow ∈ zU := zmem 654 (by decide +kernel) (by decide +kernel)
set_option maxRecDepth 20000 in
theorem zl_X6_170 : Cond.methodLink RX6 170 yX1_tell ∈ zU := zmem 658 (by decide +kernel) (by decide +kernel)
set_option maxRecDepth 20000 in
theorem zl_X6_178 : Cond.methodLink RX6 178 yX5_tellCount ∈ zU := zmem 547 (by decide +kernel) (by decide +kernel)
set_option maxRecDepth 20000 in
theorem zl_X6_181 : Cond.methodLink RX6 181 yX3_readOrder ∈ zU := zmem 476 (by decide +kernel) (by decide +kernel)
set_option maxRecDepth 20000 in
theorem zl_X6_185 : Cond.methodLink RX6 185 yX3_skip ∈ zU := zmem 477 (by decide +kernel) (by decide +kernel)
set_option maxRecDepth 20000 in
theorem zmath_min : Cond.static Lib.Math.min.name ∈ zU ∧ Cond.code Lib.Math.min.name Lib.Math.min.code 2 (some .int) ∈ zU := ⟨zmem 314 (by decide +kernel) (by decide +kernel), zmem 315 (by decide +kernel) (by decide +kernel)⟩
set_option maxRecDepth 20000 in
theorem zmath_max : Cond.static Lib.Math.max.name ∈ zU ∧ Cond.code Lib.Math.max.name Lib.Math.max.code 2 (some .int) ∈ zU := ⟨zmem 413 (by decide +kernel) (by decide +kernel), zmem 414 (by decide +kernel) (by decide +kernel)⟩
set_option maxRecDepth 20000 in
theorem zmath_ini : Cond.initialized "java/lang/Math" ∈ zU := zmem 39 (by decide +kernel) (by decide +kernel)
/-- the words of nest mates -/
def zN : List Cond := [Cond.fieldLinkNest RX5 9 "RightsDesk" "FIRST_NUMBERS" "[I" "RightsDesk", Cond.fieldLinkNest RX5 23 "RightsDesk" "FIRST_STAGE_DAYS" "[I" "RightsDesk", Cond.fieldLinkNest RX5 29 "RightsDesk" "FIRST_STAGE_FEES" "[I" "RightsDesk", Cond.fieldLinkNest RX5 118 "RightsDesk" "LEAST_NUMBERS" "[I" "RightsDesk", Cond.fieldLinkNest RX5 121 "RightsDesk" "MOST_NUMBERS" "[I" "RightsDesk", Cond.methodLinkNest RX0 34 yX6_copyAll "RightsDesk", Cond.methodLinkNest RX5 60 yX1_init "RightsDesk", Cond.methodLinkNest RX5 65 yX6_copyAll "RightsDesk", Cond.methodLinkNest RX5 128 yX6_isHolder "RightsDesk", Cond.methodLinkNest RX6 28 yX3_init "RightsDesk"]
theorem zf_X5_9 : Cond.fieldLinkNest RX5 9 "RightsDesk" "FIRST_NUMBERS" "[I" "RightsDesk" ∈ zN := List.mem_of_getElem? (i := 0) rfl
theorem zf_X5_23 : Cond.fieldLinkNest RX5 23 "RightsDesk" "FIRST_STAGE_DAYS" "[I" "RightsDesk" ∈ zN := List.mem_of_getElem? (i := 1) rfl
theorem zf_X5_29 : Cond.fieldLinkNest RX5 29 "RightsDesk" "FIRST_STAGE_FEES" "[I" "RightsDesk" ∈ zN := List.mem_of_getElem? (i := 2) rfl
theorem zf_X5_118 : Cond.fieldLinkNest RX5 118 "RightsDesk" "LEAST_NUMBERS" "[I" "RightsDesk" ∈ zN := List.mem_of_getElem? (i := 3) rfl
theorem zf_X5_121 : Cond.fieldLinkNest RX5 121 "RightsDesk" "MOST_NUMBERS" "[I" "RightsDesk" ∈ zN := List.mem_of_getElem? (i := 4) rfl
theorem zl_X0_34 : Cond.methodLinkNest RX0 34 yX6_copyAll "RightsDesk" ∈ zN := List.mem_of_getElem? (i := 5) rfl
theorem zl_X5_60 : Cond.methodLinkNest RX5 60 yX1_init "RightsDesk" ∈ zN := List.mem_of_getElem? (i := 6) rfl
theorem zl_X5_65 : Cond.methodLinkNest RX5 65 yX6_copyAll "RightsDesk" ∈ zN := List.mem_of_getElem? (i := 7) rfl
theorem zl_X5_128 : Cond.methodLinkNest RX5 128 yX6_isHolder "RightsDesk" ∈ zN := List.mem_of_getElem? (i := 8) rfl
theorem zl_X6_28 : Cond.methodLinkNest RX6 28 yX3_init "RightsDesk" ∈ zN := List.mem_of_getElem? (i := 9) rfl
set_option maxRecDepth 20000 in
theorem zN_tbl : ∀ w ∈ zN, w ∈ lw_tbl := by
  intro w hw
  simp only [zN, List.mem_cons, List.not_mem_nil, or_false] at hw
  rcases hw with rfl | rfl | rfl | rfl | rfl | rfl | rfl | rfl | rfl | rfl
  · exact List.mem_of_getElem? (i := 54) (by decide +kernel)
  · exact List.mem_of_getElem? (i := 63) (by decide +kernel)
  · exact List.mem_of_getElem? (i := 65) (by decide +kernel)
  · exact List.mem_of_getElem? (i := 324) (by decide +kernel)
  · exact List.mem_of_getElem? (i := 326) (by decide +kernel)
  · exact List.mem_of_getElem? (i := 296) (by decide +kernel)
  · exact List.mem_of_getElem? (i := 150) (by decide +kernel)
  · exact List.mem_of_getElem? (i := 289) (by decide +kernel)
  · exact List.mem_of_getElem? (i := 389) (by decide +kernel)
  · exact List.mem_of_getElem? (i := 233) (by decide +kernel)
def zNest (U : State) : Prop := ∀ w ∈ zN, va_Nw w U
theorem zNest.warm {s U : State} (hW : s.WarmedH U.vm) (h : zNest s) : zNest U := by
  intro w hw
  have h1 := h w hw
  simp only [zN, List.mem_cons, List.not_mem_nil, or_false] at hw
  rcases hw with rfl | rfl | rfl | rfl | rfl | rfl | rfl | rfl | rfl | rfl
  · exact va_Nw.warmF hW h1
  · exact va_Nw.warmF hW h1
  · exact va_Nw.warmF hW h1
  · exact va_Nw.warmF hW h1
  · exact va_Nw.warmF hW h1
  · exact va_Nw.warmM hW h1
  · exact va_Nw.warmM hW h1
  · exact va_Nw.warmM hW h1
  · exact va_Nw.warmM hW h1
  · exact va_Nw.warmM hW h1
theorem zNest.same {u U : State} (h : u.vm = U.vm) (hz : zNest u) : zNest U := by
  intro w hw
  have h1 := hz w hw
  simp only [zN, List.mem_cons, List.not_mem_nil, or_false] at hw
  rcases hw with rfl | rfl | rfl | rfl | rfl | rfl | rfl | rfl | rfl | rfl <;> exact va_Nw.same rfl h h1
