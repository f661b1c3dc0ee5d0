set_option maxRecDepth 20000 in
theorem zin0 : ∀ w ∈ wsX00, w ∈ zU := fun w h => List.mem_filter.mpr (by revert w h; decide +kernel)
set_option maxRecDepth 20000 in
theorem zin1 : ∀ w ∈ wsX10, w ∈ zU := fun w h => List.mem_filter.mpr (by revert w h; decide +kernel)
set_option maxRecDepth 20000 in
theorem zin2 : ∀ w ∈ wsX20, w ∈ zU := fun w h => List.mem_filter.mpr (by revert w h; decide +kernel)
set_option maxRecDepth 20000 in
theorem zin3 : ∀ w ∈ wsX30, w ∈ zU := fun w h => List.mem_filter.mpr (by revert w h; decide +kernel)
set_option maxRecDepth 20000 in
theorem zin4 : ∀ w ∈ wsX40, w ∈ zU := fun w h => List.mem_filter.mpr (by revert w h; decide +kernel)
set_option maxRecDepth 20000 in
theorem zin5 : ∀ w ∈ wsX50, w ∈ zU := fun w h => List.mem_filter.mpr (by revert w h; decide +kernel)
set_option maxRecDepth 20000 in
theorem zin6 : ∀ w ∈ wsX60, w ∈ zU := fun w h => List.mem_filter.mpr (by revert w h; decide +kernel)
set_option maxRecDepth 20000 in
theorem zin7 : ∀ w ∈ wsX70, w ∈ zU := fun w h => List.mem_filter.mpr (by revert w h; decide +kernel)
set_option maxRecDepth 20000 in
theorem zf_X0_9 : Cond.fieldLink RX0 9 "RightsDesk$DateRow" "list" "[I" ∈ zU := zmem 130 (by decide +kernel) (by decide +kernel)
set_option maxRecDepth 20000 in
theorem zf_X0_15 : Cond.fieldLink RX0 15 "RightsDesk$DateRow" "number" "I" ∈ zU := zmem 118 (by decide +kernel) (by decide +kernel)
set_option maxRecDepth 20000 in
theorem zf_X0_19 : Cond.fieldLink RX0 19 "RightsDesk$DateRow" "day" "I" ∈ zU := zmem 120 (by decide +kernel) (by decide +kernel)
set_option maxRecDepth 20000 in
theorem zf_X0_22 : Cond.fieldLink RX0 22 "RightsDesk$DateRow" "places" "I" ∈ zU := zmem 122 (by decide +kernel) (by decide +kernel)
set_option maxRecDepth 20000 in
theorem zf_X0_25 : Cond.fieldLink RX0 25 "RightsDesk$DateRow" "surplus" "I" ∈ zU := zmem 124 (by decide +kernel) (by decide +kernel)
set_option maxRecDepth 20000 in
theorem zf_X0_28 : Cond.fieldLink RX0 28 "RightsDesk$DateRow" "base" "I" ∈ zU := zmem 126 (by decide +kernel) (by decide +kernel)
set_option maxRecDepth 20000 in
theorem zf_X0_31 : Cond.fieldLink RX0 31 "RightsDesk$DateRow" "rule" "I" ∈ zU := zmem 128 (by decide +kernel) (by decide +kernel)
set_option maxRecDepth 20000 in
theorem zf_X0_38 : Cond.fieldLink RX0 38 "RightsDesk$DateRow" "listLength" "I" ∈ zU := zmem 131 (by decide +kernel) (by decide +kernel)
set_option maxRecDepth 20000 in
theorem zf_X1_7 : Cond.fieldLink RX1 7 "RightsDesk$EventRow" "kind" "I" ∈ zU := zmem 194 (by decide +kernel) (by decide +kernel)
set_option maxRecDepth 20000 in
theorem zf_X1_13 : Cond.fieldLink RX1 13 "RightsDesk$EventRow" "right" "I" ∈ zU := zmem 196 (by decide +kernel) (by decide +kernel)
set_option maxRecDepth 20000 in
theorem zf_X1_16 : Cond.fieldLink RX1 16 "RightsDesk$EventRow" "cents" "I" ∈ zU := zmem 198 (by decide +kernel) (by decide +kernel)
set_option maxRecDepth 20000 in
theorem zf_X1_19 : Cond.fieldLink RX1 19 "RightsDesk$EventRow" "day" "I" ∈ zU := zmem 200 (by decide +kernel) (by decide +kernel)
set_option maxRecDepth 20000 in
theorem zf_X2_11 : Cond.fieldLink RX2 11 "RightsDesk$History" "past" "[LRightsDesk$State;" ∈ zU := zmem 259 (by decide +kernel) (by decide +kernel)
set_option maxRecDepth 20000 in
theorem zf_X2_18 : Cond.fieldLink RX2 18 "RightsDesk$History" "prepared" "LRightsDesk$State;" ∈ zU := zmem 262 (by decide +kernel) (by decide +kernel)
set_option maxRecDepth 20000 in
theorem zf_X2_26 : Cond.fieldLink RX2 26 "RightsDesk$History" "count" "I" ∈ zU := zmem 260 (by decide +kernel) (by decide +kernel)
set_option maxRecDepth 20000 in
theorem zf_X3_9 : Cond.fieldLink RX3 9 "RightsDesk$OrderText" "signs" "[C" ∈ zU := zmem 277 (by decide +kernel) (by decide +kernel)
set_option maxRecDepth 20000 in
theorem zf_X3_15 : Cond.fieldLink RX3 15 "RightsDesk$OrderText" "length" "I" ∈ zU := zmem 278 (by decide +kernel) (by decide +kernel)
set_option maxRecDepth 20000 in
theorem zf_X3_26 : Cond.fieldLink RX3 26 "RightsDesk$OrderText" "at" "I" ∈ zU := zmem 280 (by decide +kernel) (by decide +kernel)
set_option maxRecDepth 20000 in
theorem zf_X3_37 : Cond.fieldLink RX3 37 "RightsDesk$OrderText" "kind" "I" ∈ zU := zmem 281 (by decide +kernel) (by decide +kernel)
set_option maxRecDepth 20000 in
theorem zf_X3_56 : Cond.fieldLink RX3 56 "RightsDesk$OrderText" "first" "I" ∈ zU := zmem 283 (by decide +kernel) (by decide +kernel)
set_option maxRecDepth 20000 in
theorem zf_X3_59 : Cond.fieldLink RX3 59 "RightsDesk$OrderText" "second" "I" ∈ zU := zmem 285 (by decide +kernel) (by decide +kernel)
set_option maxRecDepth 20000 in
theorem zf_X4_9 : Cond.fieldLink RX4 9 "RightsDesk$RightRow" "number" "I" ∈ zU := zmem 156 (by decide +kernel) (by decide +kernel)
set_option maxRecDepth 20000 in
theorem zf_X4_15 : Cond.fieldLink RX4 15 "RightsDesk$RightRow" "date" "I" ∈ zU := zmem 158 (by decide +kernel) (by decide +kernel)
set_option maxRecDepth 20000 in
theorem zf_X4_18 : Cond.fieldLink RX4 18 "RightsDesk$RightRow" "holder" "I" ∈ zU := zmem 160 (by decide +kernel) (by decide +kernel)
set_option maxRecDepth 20000 in
theorem zf_X4_21 : Cond.fieldLink RX4 21 "RightsDesk$RightRow" "cost" "I" ∈ zU := zmem 162 (by decide +kernel) (by decide +kernel)
set_option maxRecDepth 20000 in
theorem zf_X4_24 : Cond.fieldLink RX4 24 "RightsDesk$RightRow" "state" "I" ∈ zU := zmem 164 (by decide +kernel) (by decide +kernel)
set_option maxRecDepth 20000 in
theorem zf_X4_27 : Cond.fieldLink RX4 27 "RightsDesk$RightRow" "asking" "I" ∈ zU := zmem 166 (by decide +kernel) (by decide +kernel)
set_option maxRecDepth 20000 in
theorem zf_X4_30 : Cond.fieldLink RX4 30 "RightsDesk$RightRow" "soldOn" "I" ∈ zU := zmem 168 (by decide +kernel) (by decide +kernel)
set_option maxRecDepth 20000 in
theorem zf_X4_33 : Cond.fieldLink RX4 33 "RightsDesk$RightRow" "resold" "I" ∈ zU := zmem 170 (by decide +kernel) (by decide +kernel)
set_option maxRecDepth 20000 in
theorem zf_X5_18 : Cond.fieldLink RX5 18 "RightsDesk$State" "numbers" "[I" ∈ zU := zmem 213 (by decide +kernel) (by decide +kernel)
set_option maxRecDepth 20000 in
theorem zf_X5_26 : Cond.fieldLink RX5 26 "RightsDesk$State" "stageDays" "[I" ∈ zU := zmem 215 (by decide +kernel) (by decide +kernel)
set_option maxRecDepth 20000 in
theorem zf_X5_32 : Cond.fieldLink RX5 32 "RightsDesk$State" "stageFees" "[I" ∈ zU := zmem 216 (by decide +kernel) (by decide +kernel)
set_option maxRecDepth 20000 in
theorem zf_X5_37 : Cond.fieldLink RX5 37 "RightsDesk$State" "dates" "[LRightsDesk$DateRow;" ∈ zU := zmem 218 (by decide +kernel) (by decide +kernel)
set_option maxRecDepth 20000 in
theorem zf_X5_43 : Cond.fieldLink RX5 43 "RightsDesk$State" "rights" "[LRightsDesk$RightRow;" ∈ zU := zmem 220 (by decide +kernel) (by decide +kernel)
set_option maxRecDepth 20000 in
theorem zf_X5_47 : Cond.fieldLink RX5 47 "RightsDesk$State" "accounts" "[I" ∈ zU := zmem 221 (by decide +kernel) (by decide +kernel)
set_option maxRecDepth 20000 in
theorem zf_X5_52 : Cond.fieldLink RX5 52 "RightsDesk$State" "events" "[LRightsDesk$EventRow;" ∈ zU := zmem 224 (by decide +kernel) (by decide +kernel)
set_option maxRecDepth 20000 in
theorem zf_X5_61 : Cond.fieldLink RX5 61 "RightsDesk$State" "day" "I" ∈ zU := zmem 211 (by decide +kernel) (by decide +kernel)
set_option maxRecDepth 20000 in
theorem zf_X5_69 : Cond.fieldLink RX5 69 "RightsDesk$State" "dateCount" "I" ∈ zU := zmem 217 (by decide +kernel) (by decide +kernel)
set_option maxRecDepth 20000 in
theorem zf_X5_76 : Cond.fieldLink RX5 76 "RightsDesk$State" "rightCount" "I" ∈ zU := zmem 219 (by decide +kernel) (by decide +kernel)
set_option maxRecDepth 20000 in
theorem zf_X5_82 : Cond.fieldLink RX5 82 "RightsDesk$State" "provider" "I" ∈ zU := zmem 222 (by decide +kernel) (by decide +kernel)
set_option maxRecDepth 20000 in
theorem zf_X5_85 : Cond.fieldLink RX5 85 "RightsDesk$State" "eventCount" "I" ∈ zU := zmem 223 (by decide +kernel) (by decide +kernel)
set_option maxRecDepth 20000 in
theorem zf_X5_91 : Cond.fieldLink RX5 91 "RightsDesk$DateRow" "day" "I" ∈ zU := zmem 121 (by decide +kernel) (by decide +kernel)
set_option maxRecDepth 20000 in
theorem zf_X5_92 : Cond.fieldLink RX5 92 "RightsDesk$DateRow" "places" "I" ∈ zU := zmem 123 (by decide +kernel) (by decide +kernel)
set_option maxRecDepth 20000 in
theorem zf_X5_95 : Cond.fieldLink RX5 95 "RightsDesk$DateRow" "surplus" "I" ∈ zU := zmem 125 (by decide +kernel) (by decide +kernel)
set_option maxRecDepth 20000 in
theorem zf_X5_98 : Cond.fieldLink RX5 98 "RightsDesk$DateRow" "base" "I" ∈ zU := zmem 127 (by decide +kernel) (by decide +kernel)
set_option maxRecDepth 20000 in
theorem zf_X5_101 : Cond.fieldLink RX5 101 "RightsDesk$DateRow" "rule" "I" ∈ zU := zmem 129 (by decide +kernel) (by decide +kernel)
set_option maxRecDepth 20000 in
theorem zf_X5_104 : Cond.fieldLink RX5 104 "RightsDesk$DateRow" "listLength" "I" ∈ zU := zmem 132 (by decide +kernel) (by decide +kernel)
set_option maxRecDepth 20000 in
theorem zf_X5_107 : Cond.fieldLink RX5 107 "RightsDesk$DateRow" "number" "I" ∈ zU := zmem 119 (by decide +kernel) (by decide +kernel)
set_option maxRecDepth 20000 in
theorem zf_X5_143 : Cond.fieldLink RX5 143 "RightsDesk$RightRow" "holder" "I" ∈ zU := zmem 161 (by decide +kernel) (by decide +kernel)
set_option maxRecDepth 20000 in
theorem zf_X5_146 : Cond.fieldLink RX5 146 "RightsDesk$RightRow" "asking" "I" ∈ zU := zmem 167 (by decide +kernel) (by decide +kernel)
set_option maxRecDepth 20000 in
theorem zf_X5_153 : Cond.fieldLink RX5 153 "RightsDesk$RightRow" "resold" "I" ∈ zU := zmem 171 (by decide +kernel) (by decide +kernel)
set_option maxRecDepth 20000 in
theorem zf_X5_163 : Cond.fieldLink RX5 163 "RightsDesk$RightRow" "number" "I" ∈ zU := zmem 157 (by decide +kernel) (by decide +kernel)
set_option maxRecDepth 20000 in
theorem zf_X5_172 : Cond.fieldLink RX5 172 "RightsDesk$RightRow" "date" "I" ∈ zU := zmem 159 (by decide +kernel) (by decide +kernel)
set_option maxRecDepth 20000 in
theorem zf_X5_182 : Cond.fieldLink RX5 182 "RightsDesk$RightRow" "state" "I" ∈ zU := zmem 165 (by decide +kernel) (by decide +kernel)
set_option maxRecDepth 20000 in
theorem zf_X5_217 : Cond.fieldLink RX5 217 "RightsDesk$RightRow" "cost" "I" ∈ zU := zmem 163 (by decide +kernel) (by decide +kernel)
set_option maxRecDepth 20000 in
theorem zf_X5_241 : Cond.fieldLink RX5 241 "RightsDesk$RightRow" "soldOn" "I" ∈ zU := zmem 169 (by decide +kernel) (by decide +kernel)
set_option maxRecDepth 20000 in
theorem zf_X5_256 : Cond.fieldLink RX5 256 "RightsDesk$EventRow" "kind" "I" ∈ zU := zmem 195 (by decide +kernel) (by decide +kernel)
set_option maxRecDepth 20000 in
theorem zf_X5_259 : Cond.fieldLink RX5 259 "RightsDesk$EventRow" "right" "I" ∈ zU := zmem 197 (by decide +kernel) (by decide +kernel)
set_option maxRecDepth 20000 in
theorem zf_X5_262 : Cond.fieldLink RX5 262 "RightsDesk$EventRow" "cents" "I" ∈ zU := zmem 199 (by decide +kernel) (by decide +kernel)
set_option maxRecDepth 20000 in
theorem zf_X5_265 : Cond.fieldLink RX5 265 "RightsDesk$EventRow" "day" "I" ∈ zU := zmem 201 (by decide +kernel) (by decide +kernel)
set_option maxRecDepth 20000 in
theorem zf_X6_10 : Cond.fieldLink RX6 10 "RightsDesk" "now" "LRightsDesk$State;" ∈ zU := zmem 301 (by decide +kernel) (by decide +kernel)
set_option maxRecDepth 20000 in
theorem zf_X6_16 : Cond.fieldLink RX6 16 "RightsDesk" "kept" "LRightsDesk$State;" ∈ zU := zmem 302 (by decide +kernel) (by decide +kernel)
set_option maxRecDepth 20000 in
theorem zf_X6_22 : Cond.fieldLink RX6 22 "RightsDesk" "history" "LRightsDesk$History;" ∈ zU := zmem 304 (by decide +kernel) (by decide +kernel)
set_option maxRecDepth 20000 in
theorem zf_X6_29 : Cond.fieldLink RX6 29 "RightsDesk" "text" "LRightsDesk$OrderText;" ∈ zU := zmem 305 (by decide +kernel) (by decide +kernel)
set_option maxRecDepth 20000 in
theorem zf_X6_97 : Cond.fieldLink RX6 97 "RightsDesk$History" "prepared" "LRightsDesk$State;" ∈ zU := zmem 263 (by decide +kernel) (by decide +kernel)
set_option maxRecDepth 20000 in
theorem zf_X6_107 : Cond.fieldLink RX6 107 "RightsDesk$History" "count" "I" ∈ zU := zmem 261 (by decide +kernel) (by decide +kernel)
set_option maxRecDepth 20000 in
theorem zf_X6_111 : Cond.fieldLink RX6 111 "RightsDesk" "hasKept" "Z" ∈ zU := zmem 303 (by decide +kernel) (by decide +kernel)
set_option maxRecDepth 20000 in
theorem zf_X6_115 : Cond.fieldLink RX6 115 "RightsDesk$State" "day" "I" ∈ zU := zmem 212 (by decide +kernel) (by decide +kernel)
set_option maxRecDepth 20000 in
theorem zf_X6_159 : Cond.fieldLink RX6 159 "RightsDesk$State" "numbers" "[I" ∈ zU := zmem 214 (by decide +kernel) (by decide +kernel)
set_option maxRecDepth 20000 in
theorem zf_X6_175 : Cond.fieldLink RX6 175 "RightsDesk$OrderText" "length" "I" ∈ zU := zmem 279 (by decide +kernel) (by decide +kernel)
set_option maxRecDepth 20000 in
theorem zf_X6_189 : Cond.fieldLink RX6 189 "RightsDesk$OrderText" "kind" "I" ∈ zU := zmem 282 (by decide +kernel) (by decide +kernel)
set_option maxRecDepth 20000 in
theorem zf_X6_192 : Cond.fieldLink RX6 192 "RightsDesk$OrderText" "first" "I" ∈ zU := zmem 284 (by decide +kernel) (by decide +kernel)
set_option maxRecDepth 20000 in
theorem zf_X6_195 : Cond.fieldLink RX6 195 "RightsDesk$OrderText" "second" "I" ∈ zU := zmem 286 (by decide +kernel) (by decide +kernel)
set_option maxRecDepth 20000 in
theorem zf_X7_7 : Cond.fieldLink RX7 7 "RightsDeskModel" "v" "[I" ∈ zU := zmem 762 (by decide +kernel) (by decide +kernel)
set_option maxRecDepth 20000 in
theorem zf_X7_13 : Cond.fieldLink RX7 13 "RightsDeskModel" "spare" "[I" ∈ zU := zmem 763 (by decide +kernel) (by decide +kernel)
set_option maxRecDepth 20000 in
theorem zf_X7_16 : Cond.fieldLink RX7 16 "RightsDeskModel" "history" "[I" ∈ zU := zmem 764 (by decide +kernel) (by decide +kernel)
set_option maxRecDepth 20000 in
theorem zf_X7_19 : Cond.fieldLink RX7 19 "RightsDeskModel" "kept" "[I" ∈ zU := zmem 766 (by decide +kernel) (by decide +kernel)
set_option maxRecDepth 20000 in
theorem zf_X7_22 : Cond.fieldLink RX7 22 "RightsDeskModel" "text" "[I" ∈ zU := zmem 768 (by decide +kernel) (by decide +kernel)
set_option maxRecDepth 20000 in
theorem zf_X7_25 : Cond.fieldLink RX7 25 "RightsDeskModel" "lows" "[I" ∈ zU := zmem 770 (by decide +kernel) (by decide +kernel)
set_option maxRecDepth 20000 in
theorem zf_X7_28 : Cond.fieldLink RX7 28 "RightsDeskModel" "highs" "[I" ∈ zU := zmem 771 (by decide +kernel) (by decide +kernel)
set_option maxRecDepth 20000 in
theorem zf_X7_31 : Cond.fieldLink RX7 31 "RightsDeskModel" "states" "I" ∈ zU := zmem 765 (by decide +kernel) (by decide +kernel)
set_option maxRecDepth 20000 in
theorem zf_X7_158 : Cond.fieldLink RX7 158 "RightsDeskModel" "length" "I" ∈ zU := zmem 769 (by decide +kernel) (by decide +kernel)
set_option maxRecDepth 20000 in
theorem zf_X7_161 : Cond.fieldLink RX7 161 "RightsDeskModel" "place" "I" ∈ zU := zmem 772 (by decide +kernel) (by decide +kernel)
set_option maxRecDepth 20000 in
theorem zf_X7_164 : Cond.fieldLink RX7 164 "RightsDeskModel" "number" "I" ∈ zU := zmem 776 (by decide +kernel) (by decide +kernel)
set_option maxRecDepth 20000 in
theorem zf_X7_167 : Cond.fieldLink RX7 167 "RightsDeskModel" "letter" "I" ∈ zU := zmem 773 (by decide +kernel) (by decide +kernel)
set_option maxRecDepth 20000 in
theorem zf_X7_176 : Cond.fieldLink RX7 176 "RightsDeskModel" "one" "I" ∈ zU := zmem 774 (by decide +kernel) (by decide +kernel)
set_option maxRecDepth 20000 in
theorem zf_X7_179 : Cond.fieldLink RX7 179 "RightsDeskModel" "other" "I" ∈ zU := zmem 775 (by decide +kernel) (by decide +kernel)
set_option maxRecDepth 20000 in
theorem zf_X7_192 : Cond.fieldLink RX7 192 "RightsDeskModel" "isKept" "Z" ∈ zU := zmem 767 (by decide +kernel) (by decide +kernel)
set_option maxRecDepth 20000 in
theorem zk_X5_275 : Cond.constant RX5 275 (1000000000 : Int32) ∈ zU := zmem 703 (by decide +kernel) (by decide +kernel)
set_option maxRecDepth 20000 in
theorem zk_X7_196 : Cond.constant RX7 196 (1000000000 : Int32) ∈ zU := zmem 1064 (by decide +kernel) (by decide +kernel)
/-- what the tables say of an instance method, and how many parameters it has -/
def zMV (y : MethodName) (b : ByteArray) (n : Nat) (ret : Option FieldType) (np : Nat) : Prop := plainName y.cls = true ∧ Cond.code y b n ret ∈ zU ∧ Cond.instanceMethod y ∈ zU ∧ Cond.selects y.cls y y ∈ zU ∧ Cond.initialized y.cls ∈ zU ∧ (y.cls ≠ "java/lang/invoke/MethodHandle" ∧ y.cls ≠ "java/lang/invoke/VarHandle") ∧ (parseMethodDescriptor y.desc).map (fun d => d.parameters.length) = some np ∧ n ≤ 21
def zMS (y : MethodName) (b : ByteArray) (n : Nat) (ret : Option FieldType) (np : Nat) : Prop := plainName y.cls = true ∧ Cond.code y b n ret ∈ zU ∧ Cond.static y ∈ zU ∧ Cond.initialized y.cls ∈ zU ∧ (y.cls ≠ "java/lang/invoke/MethodHandle" ∧ y.cls ≠ "java/lang/invoke/VarHandle") ∧ (parseMethodDescriptor y.desc).map (fun d => d.parameters.length) = some np ∧ n ≤ 21
set_option maxRecDepth 20000 in
theorem zm_X0_appendToList : zMV yX0_appendToList cX0_appendToList 2 (some .int) 1 := ⟨rfl, zmem 538 (by decide +kernel) (by decide +kernel), zmem 536 (by decide +kernel) (by decide +kernel), zmem 537 (by decide +kernel) (by decide +kernel), zmem 73 (by decide +kernel) (by decide +kernel), ⟨by decide +kernel, by decide +kernel⟩, by decide +kernel, by decide⟩
set_option maxRecDepth 20000 in
theorem zm_X0_copyFrom : zMV yX0_copyFrom cX0_copyFrom 2 none 1 := ⟨rfl, zmem 335 (by decide +kernel) (by decide +kernel), zmem 333 (by decide +kernel) (by decide +kernel), zmem 334 (by decide +kernel) (by decide +kernel), zmem 73 (by decide +kernel) (by decide +kernel), ⟨by decide +kernel, by decide +kernel⟩, by decide +kernel, by decide⟩
set_option maxRecDepth 20000 in
theorem zm_X0_placeOf : zMV yX0_placeOf cX0_placeOf 3 (some .int) 1 := ⟨rfl, zmem 534 (by decide +kernel) (by decide +kernel), zmem 532 (by decide +kernel) (by decide +kernel), zmem 533 (by decide +kernel) (by decide +kernel), zmem 73 (by decide +kernel) (by decide +kernel), ⟨by decide +kernel, by decide +kernel⟩, by decide +kernel, by decide⟩
set_option maxRecDepth 20000 in
theorem zm_X0_priceFor : zMV yX0_priceFor cX0_priceFor 4 (some .int) 2 := ⟨rfl, zmem 430 (by decide +kernel) (by decide +kernel), zmem 428 (by decide +kernel) (by decide +kernel), zmem 429 (by decide +kernel) (by decide +kernel), zmem 73 (by decide +kernel) (by decide +kernel), ⟨by decide +kernel, by decide +kernel⟩, by decide +kernel, by decide⟩
set_option maxRecDepth 20000 in
theorem zm_X0_removeFromList : zMV yX0_removeFromList cX0_removeFromList 3 none 1 := ⟨rfl, zmem 490 (by decide +kernel) (by decide +kernel), zmem 488 (by decide +kernel) (by decide +kernel), zmem 489 (by decide +kernel) (by decide +kernel), zmem 73 (by decide +kernel) (by decide +kernel), ⟨by decide +kernel, by decide +kernel⟩, by decide +kernel, by decide⟩
set_option maxRecDepth 20000 in
theorem zm_X0_waitingAt : zMV yX0_waitingAt cX0_waitingAt 2 (some .int) 1 := ⟨rfl, zmem 486 (by decide +kernel) (by decide +kernel), zmem 484 (by decide +kernel) (by decide +kernel), zmem 485 (by decide +kernel) (by decide +kernel), zmem 73 (by decide +kernel) (by decide +kernel), ⟨by decide +kernel, by decide +kernel⟩, by decide +kernel, by decide⟩
set_option maxRecDepth 20000 in
theorem zm_X1_copyFrom : zMV yX1_copyFrom cX1_copyFrom 2 none 1 := ⟨rfl, zmem 344 (by decide +kernel) (by decide +kernel), zmem 342 (by decide +kernel) (by decide +kernel), zmem 343 (by decide +kernel) (by decide +kernel), zmem 75 (by decide +kernel) (by decide +kernel), ⟨by decide +kernel, by decide +kernel⟩, by decide +kernel, by decide⟩
set_option maxRecDepth 20000 in
theorem zm_X1_tell : zMV yX1_tell cX1_tell 2 (some .int) 1 := ⟨rfl, zmem 743 (by decide +kernel) (by decide +kernel), zmem 741 (by decide +kernel) (by decide +kernel), zmem 742 (by decide +kernel) (by decide +kernel), zmem 75 (by decide +kernel) (by decide +kernel), ⟨by decide +kernel, by decide +kernel⟩, by decide +kernel, by decide⟩
set_option maxRecDepth 20000 in
theorem zm_X2_prepare : zMV yX2_prepare cX2_prepare 2 none 1 := ⟨rfl, zmem 324 (by decide +kernel) (by decide +kernel), zmem 322 (by decide +kernel) (by decide +kernel), zmem 323 (by decide +kernel) (by decide +kernel), zmem 76 (by decide +kernel) (by decide +kernel), ⟨by decide +kernel, by decide +kernel⟩, by decide +kernel, by decide⟩
set_option maxRecDepth 20000 in
theorem zm_X2_settle : zMV yX2_settle cX2_settle 4 (some .int) 1 := ⟨rfl, zmem 352 (by decide +kernel) (by decide +kernel), zmem 350 (by decide +kernel) (by decide +kernel), zmem 351 (by decide +kernel) (by decide +kernel), zmem 76 (by decide +kernel) (by decide +kernel), ⟨by decide +kernel, by decide +kernel⟩, by decide +kernel, by decide⟩
set_option maxRecDepth 20000 in
theorem zm_X2_takeLatest : zMV yX2_takeLatest cX2_takeLatest 3 (some (.object "RightsDesk$State")) 0 := ⟨rfl, zmem 654 (by decide +kernel) (by decide +kernel), zmem 652 (by decide +kernel) (by decide +kernel), zmem 653 (by decide +kernel) (by decide +kernel), zmem 76 (by decide +kernel) (by decide +kernel), ⟨by decide +kernel, by decide +kernel⟩, by decide +kernel, by decide⟩
set_option maxRecDepth 20000 in
theorem zm_X3_append : zMV yX3_append cX3_append 2 (some .int) 1 := ⟨rfl, zmem 586 (by decide +kernel) (by decide +kernel), zmem 584 (by decide +kernel) (by decide +kernel), zmem 585 (by decide +kernel) (by decide +kernel), zmem 77 (by decide +kernel) (by decide +kernel), ⟨by decide +kernel, by decide +kernel⟩, by decide +kernel, by decide⟩
set_option maxRecDepth 20000 in
theorem zm_X3_countOrders : zMV yX3_countOrders cX3_countOrders 4 (some .int) 0 := ⟨rfl, zmem 602 (by decide +kernel) (by decide +kernel), zmem 600 (by decide +kernel) (by decide +kernel), zmem 601 (by decide +kernel) (by decide +kernel), zmem 77 (by decide +kernel) (by decide +kernel), ⟨by decide +kernel, by decide +kernel⟩, by decide +kernel, by decide⟩
set_option maxRecDepth 20000 in
theorem zm_X3_empty : zMV yX3_empty cX3_empty 2 (some .int) 0 := ⟨rfl, zmem 594 (by decide +kernel) (by decide +kernel), zmem 592 (by decide +kernel) (by decide +kernel), zmem 593 (by decide +kernel) (by decide +kernel), zmem 77 (by decide +kernel) (by decide +kernel), ⟨by decide +kernel, by decide +kernel⟩, by decide +kernel, by decide⟩
set_option maxRecDepth 20000 in
theorem zm_X3_goToStart : zMV yX3_goToStart cX3_goToStart 1 none 0 := ⟨rfl, zmem 606 (by decide +kernel) (by decide +kernel), zmem 604 (by decide +kernel) (by decide +kernel), zmem 605 (by decide +kernel) (by decide +kernel), zmem 77 (by decide +kernel) (by decide +kernel), ⟨by decide +kernel, by decide +kernel⟩, by decide +kernel, by decide⟩
set_option maxRecDepth 20000 in
theorem zm_X3_here : zMV yX3_here cX3_here 1 (some .char) 0 := ⟨rfl, zmem 614 (by decide +kernel) (by decide +kernel), zmem 613 (by decide +kernel) (by decide +kernel), zmem 19 (by decide +kernel) (by decide +kernel), zmem 77 (by decide +kernel) (by decide +kernel), ⟨by decide +kernel, by decide +kernel⟩, by decide +kernel, by decide⟩
set_option maxRecDepth 20000 in
theorem zm_X3_isDigitHere : zMV yX3_isDigitHere cX3_isDigitHere 1 (some .boolean) 0 := ⟨rfl, zmem 626 (by decide +kernel) (by decide +kernel), zmem 625 (by decide +kernel) (by decide +kernel), zmem 21 (by decide +kernel) (by decide +kernel), zmem 77 (by decide +kernel) (by decide +kernel), ⟨by decide +kernel, by decide +kernel⟩, by decide +kernel, by decide⟩
set_option maxRecDepth 20000 in
theorem zm_X3_readHolderAndDate : zMV yX3_readHolderAndDate cX3_readHolderAndDate 1 (some .boolean) 0 := ⟨rfl, zmem 622 (by decide +kernel) (by decide +kernel), zmem 621 (by decide +kernel) (by decide +kernel), zmem 20 (by decide +kernel) (by decide +kernel), zmem 77 (by decide +kernel) (by decide +kernel), ⟨by decide +kernel, by decide +kernel⟩, by decide +kernel, by decide⟩
set_option maxRecDepth 20000 in
theorem zm_X3_readOrder : zMV yX3_readOrder cX3_readOrder 1 (some .boolean) 0 := ⟨rfl, zmem 610 (by decide +kernel) (by decide +kernel), zmem 608 (by decide +kernel) (by decide +kernel), zmem 609 (by decide +kernel) (by decide +kernel), zmem 77 (by decide +kernel) (by decide +kernel), ⟨by decide +kernel, by decide +kernel⟩, by decide +kernel, by decide⟩
set_option maxRecDepth 20000 in
theorem zm_X3_readPrice : zMV yX3_readPrice cX3_readPrice 2 (some .boolean) 0 := ⟨rfl, zmem 638 (by decide +kernel) (by decide +kernel), zmem 637 (by decide +kernel) (by decide +kernel), zmem 24 (by decide +kernel) (by decide +kernel), zmem 77 (by decide +kernel) (by decide +kernel), ⟨by decide +kernel, by decide +kernel⟩, by decide +kernel, by decide⟩
set_option maxRecDepth 20000 in
theorem zm_X3_readRight : zMV yX3_readRight cX3_readRight 1 (some .boolean) 0 := ⟨rfl, zmem 634 (by decide +kernel) (by decide +kernel), zmem 633 (by decide +kernel) (by decide +kernel), zmem 23 (by decide +kernel) (by decide +kernel), zmem 77 (by decide +kernel) (by decide +kernel), ⟨by decide +kernel, by decide +kernel⟩, by decide +kernel, by decide⟩
set_option maxRecDepth 20000 in
theorem zm_X3_skip : zMV yX3_skip cX3_skip 2 (some .boolean) 1 := ⟨rfl, zmem 618 (by decide +kernel) (by decide +kernel), zmem 616 (by decide +kernel) (by decide +kernel), zmem 617 (by decide +kernel) (by decide +kernel), zmem 77 (by decide +kernel) (by decide +kernel), ⟨by decide +kernel, by decide +kernel⟩, by decide +kernel, by decide⟩
set_option maxRecDepth 20000 in
theorem zm_X3_takeDigit : zMV yX3_takeDigit cX3_takeDigit 2 (some .int) 0 := ⟨rfl, zmem 630 (by decide +kernel) (by decide +kernel), zmem 629 (by decide +kernel) (by decide +kernel), zmem 22 (by decide +kernel) (by decide +kernel), zmem 77 (by decide +kernel) (by decide +kernel), ⟨by decide +kernel, by decide +kernel⟩, by decide +kernel, by decide⟩
set_option maxRecDepth 20000 in
theorem zm_X4_copyFrom : zMV yX4_copyFrom cX4_copyFrom 2 none 1 := ⟨rfl, zmem 340 (by decide +kernel) (by decide +kernel), zmem 338 (by decide +kernel) (by decide +kernel), zmem 339 (by decide +kernel) (by decide +kernel), zmem 74 (by decide +kernel) (by decide +kernel), ⟨by decide +kernel, by decide +kernel⟩, by decide +kernel, by decide⟩
set_option maxRecDepth 20000 in
theorem zm_X4_isHeldOrOffered : zMV yX4_isHeldOrOffered cX4_isHeldOrOffered 1 (some .boolean) 0 := ⟨rfl, zmem 474 (by decide +kernel) (by decide +kernel), zmem 472 (by decide +kernel) (by decide +kernel), zmem 473 (by decide +kernel) (by decide +kernel), zmem 74 (by decide +kernel) (by decide +kernel), ⟨by decide +kernel, by decide +kernel⟩, by decide +kernel, by decide⟩
set_option maxRecDepth 20000 in
theorem zm_X4_turnTo : zMV yX4_turnTo cX4_turnTo 3 none 2 := ⟨rfl, zmem 434 (by decide +kernel) (by decide +kernel), zmem 432 (by decide +kernel) (by decide +kernel), zmem 433 (by decide +kernel) (by decide +kernel), zmem 74 (by decide +kernel) (by decide +kernel), ⟨by decide +kernel, by decide +kernel⟩, by decide +kernel, by decide⟩
set_option maxRecDepth 20000 in
theorem zm_X5_canBeExercised : zMV yX5_canBeExercised cX5_canBeExercised 3 (some .boolean) 2 := ⟨rfl, zmem 518 (by decide +kernel) (by decide +kernel), zmem 517 (by decide +kernel) (by decide +kernel), zmem 12 (by decide +kernel) (by decide +kernel), zmem 72 (by decide +kernel) (by decide +kernel), ⟨by decide +kernel, by decide +kernel⟩, by decide +kernel, by decide⟩
set_option maxRecDepth 20000 in
theorem zm_X5_cancelRight : zMV yX5_cancelRight cX5_cancelRight 5 (some .int) 1 := ⟨rfl, zmem 462 (by decide +kernel) (by decide +kernel), zmem 460 (by decide +kernel) (by decide +kernel), zmem 461 (by decide +kernel) (by decide +kernel), zmem 72 (by decide +kernel) (by decide +kernel), ⟨by decide +kernel, by decide +kernel⟩, by decide +kernel, by decide⟩
set_option maxRecDepth 20000 in
theorem zm_X5_changeNumber : zMV yX5_changeNumber cX5_changeNumber 4 (some .int) 2 := ⟨rfl, zmem 379 (by decide +kernel) (by decide +kernel), zmem 377 (by decide +kernel) (by decide +kernel), zmem 378 (by decide +kernel) (by decide +kernel), zmem 72 (by decide +kernel) (by decide +kernel), ⟨by decide +kernel, by decide +kernel⟩, by decide +kernel, by decide⟩
set_option maxRecDepth 20000 in
theorem zm_X5_changeStage : zMV yX5_changeStage cX5_changeStage 5 (some .int) 3 := ⟨rfl, zmem 363 (by decide +kernel) (by decide +kernel), zmem 361 (by decide +kernel) (by decide +kernel), zmem 362 (by decide +kernel) (by decide +kernel), zmem 72 (by decide +kernel) (by decide +kernel), ⟨by decide +kernel, by decide +kernel⟩, by decide +kernel, by decide⟩
set_option maxRecDepth 20000 in
theorem zm_X5_cheapestHeld : zMV yX5_cheapestHeld cX5_cheapestHeld 5 (some (.object "RightsDesk$RightRow")) 1 := ⟨rfl, zmem 574 (by decide +kernel) (by decide +kernel), zmem 573 (by decide +kernel) (by decide +kernel), zmem 17 (by decide +kernel) (by decide +kernel), zmem 72 (by decide +kernel) (by decide +kernel), ⟨by decide +kernel, by decide +kernel⟩, by decide +kernel, by decide⟩
set_option maxRecDepth 20000 in
theorem zm_X5_cheapestOffered : zMV yX5_cheapestOffered cX5_cheapestOffered 5 (some (.object "RightsDesk$RightRow")) 1 := ⟨rfl, zmem 454 (by decide +kernel) (by decide +kernel), zmem 453 (by decide +kernel) (by decide +kernel), zmem 8 (by decide +kernel) (by decide +kernel), zmem 72 (by decide +kernel) (by decide +kernel), ⟨by decide +kernel, by decide +kernel⟩, by decide +kernel, by decide⟩
set_option maxRecDepth 20000 in
theorem zm_X5_copyFrom : zMV yX5_copyFrom cX5_copyFrom 3 none 1 := ⟨rfl, zmem 328 (by decide +kernel) (by decide +kernel), zmem 326 (by decide +kernel) (by decide +kernel), zmem 327 (by decide +kernel) (by decide +kernel), zmem 72 (by decide +kernel) (by decide +kernel), ⟨by decide +kernel, by decide +kernel⟩, by decide +kernel, by decide⟩
set_option maxRecDepth 20000 in
theorem zm_X5_coverOne : zMV yX5_coverOne cX5_coverOne 3 (some .int) 1 := ⟨rfl, zmem 578 (by decide +kernel) (by decide +kernel), zmem 577 (by decide +kernel) (by decide +kernel), zmem 18 (by decide +kernel) (by decide +kernel), zmem 72 (by decide +kernel) (by decide +kernel), ⟨by decide +kernel, by decide +kernel⟩, by decide +kernel, by decide⟩
set_option maxRecDepth 20000 in
theorem zm_X5_coverRightsOf : zMV yX5_coverRightsOf cX5_coverRightsOf 6 (some .int) 1 := ⟨rfl, zmem 566 (by decide +kernel) (by decide +kernel), zmem 564 (by decide +kernel) (by decide +kernel), zmem 565 (by decide +kernel) (by decide +kernel), zmem 72 (by decide +kernel) (by decide +kernel), ⟨by decide +kernel, by decide +kernel⟩, by decide +kernel, by decide⟩
set_option maxRecDepth 20000 in
theorem zm_X5_dateRow : zMV yX5_dateRow cX5_dateRow 2 (some (.object "RightsDesk$DateRow")) 1 := ⟨rfl, zmem 395 (by decide +kernel) (by decide +kernel), zmem 393 (by decide +kernel) (by decide +kernel), zmem 394 (by decide +kernel) (by decide +kernel), zmem 72 (by decide +kernel) (by decide +kernel), ⟨by decide +kernel, by decide +kernel⟩, by decide +kernel, by decide⟩
set_option maxRecDepth 20000 in
theorem zm_X5_daysLeft : zMV yX5_daysLeft cX5_daysLeft 2 (some .int) 1 := ⟨rfl, zmem 414 (by decide +kernel) (by decide +kernel), zmem 412 (by decide +kernel) (by decide +kernel), zmem 413 (by decide +kernel) (by decide +kernel), zmem 72 (by decide +kernel) (by decide +kernel), ⟨by decide +kernel, by decide +kernel⟩, by decide +kernel, by decide⟩
set_option maxRecDepth 20000 in
theorem zm_X5_endDate : zMV yX5_endDate cX5_endDate 4 (some .int) 1 := ⟨rfl, zmem 562 (by decide +kernel) (by decide +kernel), zmem 561 (by decide +kernel) (by decide +kernel), zmem 15 (by decide +kernel) (by decide +kernel), zmem 72 (by decide +kernel) (by decide +kernel), ⟨by decide +kernel, by decide +kernel⟩, by decide +kernel, by decide⟩
set_option maxRecDepth 20000 in
theorem zm_X5_eventRow : zMV yX5_eventRow cX5_eventRow 2 (some (.object "RightsDesk$EventRow")) 1 := ⟨rfl, zmem 739 (by decide +kernel) (by decide +kernel), zmem 737 (by decide +kernel) (by decide +kernel), zmem 738 (by decide +kernel) (by decide +kernel), zmem 72 (by decide +kernel) (by decide +kernel), ⟨by decide +kernel, by decide +kernel⟩, by decide +kernel, by decide⟩
set_option maxRecDepth 20000 in
theorem zm_X5_exerciseRight : zMV yX5_exerciseRight cX5_exerciseRight 5 (some .int) 1 := ⟨rfl, zmem 514 (by decide +kernel) (by decide +kernel), zmem 512 (by decide +kernel) (by decide +kernel), zmem 513 (by decide +kernel) (by decide +kernel), zmem 72 (by decide +kernel) (by decide +kernel), ⟨by decide +kernel, by decide +kernel⟩, by decide +kernel, by decide⟩
set_option maxRecDepth 20000 in
theorem zm_X5_fitsStage : zMV yX5_fitsStage cX5_fitsStage 4 (some .boolean) 2 := ⟨rfl, zmem 371 (by decide +kernel) (by decide +kernel), zmem 370 (by decide +kernel) (by decide +kernel), zmem 1 (by decide +kernel) (by decide +kernel), zmem 72 (by decide +kernel) (by decide +kernel), ⟨by decide +kernel, by decide +kernel⟩, by decide +kernel, by decide⟩
set_option maxRecDepth 20000 in
theorem zm_X5_give : zMV yX5_give cX5_give 3 none 2 := ⟨rfl, zmem 438 (by decide +kernel) (by decide +kernel), zmem 437 (by decide +kernel) (by decide +kernel), zmem 6 (by decide +kernel) (by decide +kernel), zmem 72 (by decide +kernel) (by decide +kernel), ⟨by decide +kernel, by decide +kernel⟩, by decide +kernel, by decide⟩
set_option maxRecDepth 20000 in
theorem zm_X5_isOpen : zMV yX5_isOpen cX5_isOpen 2 (some .boolean) 1 := ⟨rfl, zmem 402 (by decide +kernel) (by decide +kernel), zmem 401 (by decide +kernel) (by decide +kernel), zmem 2 (by decide +kernel) (by decide +kernel), zmem 72 (by decide +kernel) (by decide +kernel), ⟨by decide +kernel, by decide +kernel⟩, by decide +kernel, by decide⟩
set_option maxRecDepth 20000 in
theorem zm_X5_isStage : zMV yX5_isStage cX5_isStage 2 (some .boolean) 1 := ⟨rfl, zmem 367 (by decide +kernel) (by decide +kernel), zmem 366 (by decide +kernel) (by decide +kernel), zmem 0 (by decide +kernel) (by decide +kernel), zmem 72 (by decide +kernel) (by decide +kernel), ⟨by decide +kernel, by decide +kernel⟩, by decide +kernel, by decide⟩
set_option maxRecDepth 20000 in
theorem zm_X5_joinList : zMV yX5_joinList cX5_joinList 4 (some .int) 2 := ⟨rfl, zmem 530 (by decide +kernel) (by decide +kernel), zmem 528 (by decide +kernel) (by decide +kernel), zmem 529 (by decide +kernel) (by decide +kernel), zmem 72 (by decide +kernel) (by decide +kernel), ⟨by decide +kernel, by decide +kernel⟩, by decide +kernel, by decide⟩
set_option maxRecDepth 20000 in
theorem zm_X5_letListBuy : zMV yX5_letListBuy cX5_letListBuy 3 none 1 := ⟨rfl, zmem 482 (by decide +kernel) (by decide +kernel), zmem 481 (by decide +kernel) (by decide +kernel), zmem 11 (by decide +kernel) (by decide +kernel), zmem 72 (by decide +kernel) (by decide +kernel), ⟨by decide +kernel, by decide +kernel⟩, by decide +kernel, by decide⟩
set_option maxRecDepth 20000 in
theorem zm_X5_listsWith : zMV yX5_listsWith cX5_listsWith 4 (some .int) 1 := ⟨rfl, zmem 711 (by decide +kernel) (by decide +kernel), zmem 710 (by decide +kernel) (by decide +kernel), zmem 29 (by decide +kernel) (by decide +kernel), zmem 72 (by decide +kernel) (by decide +kernel), ⟨by decide +kernel, by decide +kernel⟩, by decide +kernel, by decide⟩
set_option maxRecDepth 20000 in
theorem zm_X5_log : zMV yX5_log cX5_log 6 none 3 := ⟨rfl, zmem 442 (by decide +kernel) (by decide +kernel), zmem 441 (by decide +kernel) (by decide +kernel), zmem 7 (by decide +kernel) (by decide +kernel), zmem 72 (by decide +kernel) (by decide +kernel), ⟨by decide +kernel, by decide +kernel⟩, by decide +kernel, by decide⟩
set_option maxRecDepth 20000 in
theorem zm_X5_lowestAsking : zMV yX5_lowestAsking cX5_lowestAsking 3 (some .int) 1 := ⟨rfl, zmem 675 (by decide +kernel) (by decide +kernel), zmem 674 (by decide +kernel) (by decide +kernel), zmem 26 (by decide +kernel) (by decide +kernel), zmem 72 (by decide +kernel) (by decide +kernel), ⟨by decide +kernel, by decide +kernel⟩, by decide +kernel, by decide⟩
set_option maxRecDepth 20000 in
theorem zm_X5_nextToCover : zMV yX5_nextToCover cX5_nextToCover 3 (some (.object "RightsDesk$RightRow")) 1 := ⟨rfl, zmem 570 (by decide +kernel) (by decide +kernel), zmem 569 (by decide +kernel) (by decide +kernel), zmem 16 (by decide +kernel) (by decide +kernel), zmem 72 (by decide +kernel) (by decide +kernel), ⟨by decide +kernel, by decide +kernel⟩, by decide +kernel, by decide⟩
set_option maxRecDepth 20000 in
theorem zm_X5_offerRight : zMV yX5_offerRight cX5_offerRight 6 (some .int) 2 := ⟨rfl, zmem 498 (by decide +kernel) (by decide +kernel), zmem 496 (by decide +kernel) (by decide +kernel), zmem 497 (by decide +kernel) (by decide +kernel), zmem 72 (by decide +kernel) (by decide +kernel), ⟨by decide +kernel, by decide +kernel⟩, by decide +kernel, by decide⟩
set_option maxRecDepth 20000 in
theorem zm_X5_openDate : zMV yX5_openDate cX5_openDate 7 (some .int) 5 := ⟨rfl, zmem 348 (by decide +kernel) (by decide +kernel), zmem 346 (by decide +kernel) (by decide +kernel), zmem 347 (by decide +kernel) (by decide +kernel), zmem 72 (by decide +kernel) (by decide +kernel), ⟨by decide +kernel, by decide +kernel⟩, by decide +kernel, by decide⟩
set_option maxRecDepth 20000 in
theorem zm_X5_passDays : zMV yX5_passDays cX5_passDays 4 (some .int) 1 := ⟨rfl, zmem 554 (by decide +kernel) (by decide +kernel), zmem 552 (by decide +kernel) (by decide +kernel), zmem 553 (by decide +kernel) (by decide +kernel), zmem 72 (by decide +kernel) (by decide +kernel), ⟨by decide +kernel, by decide +kernel⟩, by decide +kernel, by decide⟩
set_option maxRecDepth 20000 in
theorem zm_X5_passOneDay : zMV yX5_passOneDay cX5_passOneDay 3 (some .int) 0 := ⟨rfl, zmem 558 (by decide +kernel) (by decide +kernel), zmem 557 (by decide +kernel) (by decide +kernel), zmem 14 (by decide +kernel) (by decide +kernel), zmem 72 (by decide +kernel) (by decide +kernel), ⟨by decide +kernel, by decide +kernel⟩, by decide +kernel, by decide⟩
set_option maxRecDepth 20000 in
theorem zm_X5_priceNow : zMV yX5_priceNow cX5_priceNow 2 (some .int) 1 := ⟨rfl, zmem 426 (by decide +kernel) (by decide +kernel), zmem 425 (by decide +kernel) (by decide +kernel), zmem 5 (by decide +kernel) (by decide +kernel), zmem 72 (by decide +kernel) (by decide +kernel), ⟨by decide +kernel, by decide +kernel⟩, by decide +kernel, by decide⟩
set_option maxRecDepth 20000 in
theorem zm_X5_quitList : zMV yX5_quitList cX5_quitList 5 (some .int) 2 := ⟨rfl, zmem 546 (by decide +kernel) (by decide +kernel), zmem 544 (by decide +kernel) (by decide +kernel), zmem 545 (by decide +kernel) (by decide +kernel), zmem 72 (by decide +kernel) (by decide +kernel), ⟨by decide +kernel, by decide +kernel⟩, by decide +kernel, by decide⟩
set_option maxRecDepth 20000 in
theorem zm_X5_refund : zMV yX5_refund cX5_refund 4 (some .int) 1 := ⟨rfl, zmem 470 (by decide +kernel) (by decide +kernel), zmem 469 (by decide +kernel) (by decide +kernel), zmem 9 (by decide +kernel) (by decide +kernel), zmem 72 (by decide +kernel) (by decide +kernel), ⟨by decide +kernel, by decide +kernel⟩, by decide +kernel, by decide⟩
set_option maxRecDepth 20000 in
theorem zm_X5_resellTo : zMV yX5_resellTo cX5_resellTo 6 (some .int) 2 := ⟨rfl, zmem 450 (by decide +kernel) (by decide +kernel), zmem 448 (by decide +kernel) (by decide +kernel), zmem 449 (by decide +kernel) (by decide +kernel), zmem 72 (by decide +kernel) (by decide +kernel), ⟨by decide +kernel, by decide +kernel⟩, by decide +kernel, by decide⟩
set_option maxRecDepth 20000 in
theorem zm_X5_rightRow : zMV yX5_rightRow cX5_rightRow 2 (some (.object "RightsDesk$RightRow")) 1 := ⟨rfl, zmem 466 (by decide +kernel) (by decide +kernel), zmem 464 (by decide +kernel) (by decide +kernel), zmem 465 (by decide +kernel) (by decide +kernel), zmem 72 (by decide +kernel) (by decide +kernel), ⟨by decide +kernel, by decide +kernel⟩, by decide +kernel, by decide⟩
set_option maxRecDepth 20000 in
theorem zm_X5_rightsIn : zMV yX5_rightsIn cX5_rightsIn 5 (some .int) 2 := ⟨rfl, zmem 522 (by decide +kernel) (by decide +kernel), zmem 521 (by decide +kernel) (by decide +kernel), zmem 13 (by decide +kernel) (by decide +kernel), zmem 72 (by decide +kernel) (by decide +kernel), ⟨by decide +kernel, by decide +kernel⟩, by decide +kernel, by decide⟩
set_option maxRecDepth 20000 in
theorem zm_X5_rightsInAll : zMV yX5_rightsInAll cX5_rightsInAll 4 (some .int) 1 := ⟨rfl, zmem 755 (by decide +kernel) (by decide +kernel), zmem 754 (by decide +kernel) (by decide +kernel), zmem 30 (by decide +kernel) (by decide +kernel), zmem 72 (by decide +kernel) (by decide +kernel), ⟨by decide +kernel, by decide +kernel⟩, by decide +kernel, by decide⟩
set_option maxRecDepth 20000 in
theorem zm_X5_rightsOfHolder : zMV yX5_rightsOfHolder cX5_rightsOfHolder 5 (some .int) 2 := ⟨rfl, zmem 707 (by decide +kernel) (by decide +kernel), zmem 706 (by decide +kernel) (by decide +kernel), zmem 28 (by decide +kernel) (by decide +kernel), zmem 72 (by decide +kernel) (by decide +kernel), ⟨by decide +kernel, by decide +kernel⟩, by decide +kernel, by decide⟩
set_option maxRecDepth 20000 in
theorem zm_X5_rightsOut : zMV yX5_rightsOut cX5_rightsOut 4 (some .int) 1 := ⟨rfl, zmem 418 (by decide +kernel) (by decide +kernel), zmem 416 (by decide +kernel) (by decide +kernel), zmem 417 (by decide +kernel) (by decide +kernel), zmem 72 (by decide +kernel) (by decide +kernel), ⟨by decide +kernel, by decide +kernel⟩, by decide +kernel, by decide⟩
set_option maxRecDepth 20000 in
theorem zm_X5_sell : zMV yX5_sell cX5_sell 5 (some .int) 2 := ⟨rfl, zmem 406 (by decide +kernel) (by decide +kernel), zmem 405 (by decide +kernel) (by decide +kernel), zmem 3 (by decide +kernel) (by decide +kernel), zmem 72 (by decide +kernel) (by decide +kernel), ⟨by decide +kernel, by decide +kernel⟩, by decide +kernel, by decide⟩
set_option maxRecDepth 20000 in
theorem zm_X5_sellTo : zMV yX5_sellTo cX5_sellTo 4 (some .int) 2 := ⟨rfl, zmem 391 (by decide +kernel) (by decide +kernel), zmem 389 (by decide +kernel) (by decide +kernel), zmem 390 (by decide +kernel) (by decide +kernel), zmem 72 (by decide +kernel) (by decide +kernel), ⟨by decide +kernel, by decide +kernel⟩, by decide +kernel, by decide⟩
set_option maxRecDepth 20000 in
theorem zm_X5_sellable : zMV yX5_sellable cX5_sellable 3 (some .int) 1 := ⟨rfl, zmem 410 (by decide +kernel) (by decide +kernel), zmem 409 (by decide +kernel) (by decide +kernel), zmem 4 (by decide +kernel) (by decide +kernel), zmem 72 (by decide +kernel) (by decide +kernel), ⟨by decide +kernel, by decide +kernel⟩, by decide +kernel, by decide⟩
set_option maxRecDepth 20000 in
theorem zm_X5_stageOf : zMV yX5_stageOf cX5_stageOf 3 (some .int) 1 := ⟨rfl, zmem 478 (by decide +kernel) (by decide +kernel), zmem 477 (by decide +kernel) (by decide +kernel), zmem 10 (by decide +kernel) (by decide +kernel), zmem 72 (by decide +kernel) (by decide +kernel), ⟨by decide +kernel, by decide +kernel⟩, by decide +kernel, by decide⟩
set_option maxRecDepth 20000 in
theorem zm_X5_tellCount : zMV yX5_tellCount cX5_tellCount 2 (some .int) 1 := ⟨rfl, zmem 751 (by decide +kernel) (by decide +kernel), zmem 749 (by decide +kernel) (by decide +kernel), zmem 750 (by decide +kernel) (by decide +kernel), zmem 72 (by decide +kernel) (by decide +kernel), ⟨by decide +kernel, by decide +kernel⟩, by decide +kernel, by decide⟩
set_option maxRecDepth 20000 in
theorem zm_X5_tellExercisable : zMV yX5_tellExercisable cX5_tellExercisable 3 (some .int) 1 := ⟨rfl, zmem 693 (by decide +kernel) (by decide +kernel), zmem 692 (by decide +kernel) (by decide +kernel), zmem 27 (by decide +kernel) (by decide +kernel), zmem 72 (by decide +kernel) (by decide +kernel), ⟨by decide +kernel, by decide +kernel⟩, by decide +kernel, by decide⟩
set_option maxRecDepth 20000 in
theorem zm_X5_tellOfDate : zMV yX5_tellOfDate cX5_tellOfDate 3 (some .int) 2 := ⟨rfl, zmem 671 (by decide +kernel) (by decide +kernel), zmem 669 (by decide +kernel) (by decide +kernel), zmem 670 (by decide +kernel) (by decide +kernel), zmem 72 (by decide +kernel) (by decide +kernel), ⟨by decide +kernel, by decide +kernel⟩, by decide +kernel, by decide⟩
set_option maxRecDepth 20000 in
theorem zm_X5_tellOfHolder : zMV yX5_tellOfHolder cX5_tellOfHolder 3 (some .int) 2 := ⟨rfl, zmem 702 (by decide +kernel) (by decide +kernel), zmem 700 (by decide +kernel) (by decide +kernel), zmem 701 (by decide +kernel) (by decide +kernel), zmem 72 (by decide +kernel) (by decide +kernel), ⟨by decide +kernel, by decide +kernel⟩, by decide +kernel, by decide⟩
set_option maxRecDepth 20000 in
theorem zm_X5_tellOfRight : zMV yX5_tellOfRight cX5_tellOfRight 3 (some .int) 2 := ⟨rfl, zmem 689 (by decide +kernel) (by decide +kernel), zmem 687 (by decide +kernel) (by decide +kernel), zmem 688 (by decide +kernel) (by decide +kernel), zmem 72 (by decide +kernel) (by decide +kernel), ⟨by decide +kernel, by decide +kernel⟩, by decide +kernel, by decide⟩
set_option maxRecDepth 20000 in
theorem zm_X5_tellOfStage : zMV yX5_tellOfStage cX5_tellOfStage 3 (some .int) 2 := ⟨rfl, zmem 719 (by decide +kernel) (by decide +kernel), zmem 717 (by decide +kernel) (by decide +kernel), zmem 718 (by decide +kernel) (by decide +kernel), zmem 72 (by decide +kernel) (by decide +kernel), ⟨by decide +kernel, by decide +kernel⟩, by decide +kernel, by decide⟩
set_option maxRecDepth 20000 in
theorem zm_X5_withdrawOffer : zMV yX5_withdrawOffer cX5_withdrawOffer 4 (some .int) 1 := ⟨rfl, zmem 506 (by decide +kernel) (by decide +kernel), zmem 504 (by decide +kernel) (by decide +kernel), zmem 505 (by decide +kernel) (by decide +kernel), zmem 72 (by decide +kernel) (by decide +kernel), ⟨by decide +kernel, by decide +kernel⟩, by decide +kernel, by decide⟩
set_option maxRecDepth 20000 in
theorem zm_X6_addDate : zMV yX6_addDate cX6_addDate 6 (some .int) 5 := ⟨rfl, zmem 320 (by decide +kernel) (by decide +kernel), zmem 318 (by decide +kernel) (by decide +kernel), zmem 319 (by decide +kernel) (by decide +kernel), zmem 71 (by decide +kernel) (by decide +kernel), ⟨by decide +kernel, by decide +kernel⟩, by decide +kernel, by decide⟩
set_option maxRecDepth 20000 in
theorem zm_X6_await : zMV yX6_await cX6_await 3 (some .int) 2 := ⟨rfl, zmem 526 (by decide +kernel) (by decide +kernel), zmem 524 (by decide +kernel) (by decide +kernel), zmem 525 (by decide +kernel) (by decide +kernel), zmem 71 (by decide +kernel) (by decide +kernel), ⟨by decide +kernel, by decide +kernel⟩, by decide +kernel, by decide⟩
set_option maxRecDepth 20000 in
theorem zm_X6_buy : zMV yX6_buy cX6_buy 3 (some .int) 2 := ⟨rfl, zmem 387 (by decide +kernel) (by decide +kernel), zmem 385 (by decide +kernel) (by decide +kernel), zmem 386 (by decide +kernel) (by decide +kernel), zmem 71 (by decide +kernel) (by decide +kernel), ⟨by decide +kernel, by decide +kernel⟩, by decide +kernel, by decide⟩
set_option maxRecDepth 20000 in
theorem zm_X6_buyOffered : zMV yX6_buyOffered cX6_buyOffered 3 (some .int) 2 := ⟨rfl, zmem 446 (by decide +kernel) (by decide +kernel), zmem 444 (by decide +kernel) (by decide +kernel), zmem 445 (by decide +kernel) (by decide +kernel), zmem 71 (by decide +kernel) (by decide +kernel), ⟨by decide +kernel, by decide +kernel⟩, by decide +kernel, by decide⟩
set_option maxRecDepth 20000 in
theorem zm_X6_cancel : zMV yX6_cancel cX6_cancel 2 (some .int) 1 := ⟨rfl, zmem 458 (by decide +kernel) (by decide +kernel), zmem 456 (by decide +kernel) (by decide +kernel), zmem 457 (by decide +kernel) (by decide +kernel), zmem 71 (by decide +kernel) (by decide +kernel), ⟨by decide +kernel, by decide +kernel⟩, by decide +kernel, by decide⟩
set_option maxRecDepth 20000 in
theorem zm_X6_clearText : zMV yX6_clearText cX6_clearText 1 (some .int) 0 := ⟨rfl, zmem 590 (by decide +kernel) (by decide +kernel), zmem 588 (by decide +kernel) (by decide +kernel), zmem 589 (by decide +kernel) (by decide +kernel), zmem 71 (by decide +kernel) (by decide +kernel), ⟨by decide +kernel, by decide +kernel⟩, by decide +kernel, by decide⟩
set_option maxRecDepth 20000 in
theorem zm_X6_copyAll : zMS yX6_copyAll cX6_copyAll 3 none 2 := ⟨rfl, zmem 331 (by decide +kernel) (by decide +kernel), zmem 330 (by decide +kernel) (by decide +kernel), zmem 71 (by decide +kernel) (by decide +kernel), ⟨by decide +kernel, by decide +kernel⟩, by decide +kernel, by decide⟩
set_option maxRecDepth 20000 in
theorem zm_X6_count : zMV yX6_count cX6_count 2 (some .int) 1 := ⟨rfl, zmem 747 (by decide +kernel) (by decide +kernel), zmem 745 (by decide +kernel) (by decide +kernel), zmem 746 (by decide +kernel) (by decide +kernel), zmem 71 (by decide +kernel) (by decide +kernel), ⟨by decide +kernel, by decide +kernel⟩, by decide +kernel, by decide⟩
set_option maxRecDepth 20000 in
theorem zm_X6_date : zMV yX6_date cX6_date 4 (some .int) 2 := ⟨rfl, zmem 666 (by decide +kernel) (by decide +kernel), zmem 664 (by decide +kernel) (by decide +kernel), zmem 665 (by decide +kernel) (by decide +kernel), zmem 71 (by decide +kernel) (by decide +kernel), ⟨by decide +kernel, by decide +kernel⟩, by decide +kernel, by decide⟩
set_option maxRecDepth 20000 in
theorem zm_X6_event : zMV yX6_event cX6_event 4 (some .int) 2 := ⟨rfl, zmem 735 (by decide +kernel) (by decide +kernel), zmem 733 (by decide +kernel) (by decide +kernel), zmem 734 (by decide +kernel) (by decide +kernel), zmem 71 (by decide +kernel) (by decide +kernel), ⟨by decide +kernel, by decide +kernel⟩, by decide +kernel, by decide⟩
set_option maxRecDepth 20000 in
theorem zm_X6_exercise : zMV yX6_exercise cX6_exercise 2 (some .int) 1 := ⟨rfl, zmem 510 (by decide +kernel) (by decide +kernel), zmem 508 (by decide +kernel) (by decide +kernel), zmem 509 (by decide +kernel) (by decide +kernel), zmem 71 (by decide +kernel) (by decide +kernel), ⟨by decide +kernel, by decide +kernel⟩, by decide +kernel, by decide⟩
set_option maxRecDepth 20000 in
theorem zm_X6_holder : zMV yX6_holder cX6_holder 3 (some .int) 2 := ⟨rfl, zmem 697 (by decide +kernel) (by decide +kernel), zmem 695 (by decide +kernel) (by decide +kernel), zmem 696 (by decide +kernel) (by decide +kernel), zmem 71 (by decide +kernel) (by decide +kernel), ⟨by decide +kernel, by decide +kernel⟩, by decide +kernel, by decide⟩
set_option maxRecDepth 20000 in
theorem zm_X6_isHolder : zMS yX6_isHolder cX6_isHolder 1 (some .boolean) 1 := ⟨rfl, zmem 398 (by decide +kernel) (by decide +kernel), zmem 397 (by decide +kernel) (by decide +kernel), zmem 71 (by decide +kernel) (by decide +kernel), ⟨by decide +kernel, by decide +kernel⟩, by decide +kernel, by decide⟩
set_option maxRecDepth 20000 in
theorem zm_X6_keep : zMV yX6_keep cX6_keep 1 (some .int) 0 := ⟨rfl, zmem 658 (by decide +kernel) (by decide +kernel), zmem 656 (by decide +kernel) (by decide +kernel), zmem 657 (by decide +kernel) (by decide +kernel), zmem 71 (by decide +kernel) (by decide +kernel), ⟨by decide +kernel, by decide +kernel⟩, by decide +kernel, by decide⟩
set_option maxRecDepth 20000 in
theorem zm_X6_leave : zMV yX6_leave cX6_leave 3 (some .int) 2 := ⟨rfl, zmem 542 (by decide +kernel) (by decide +kernel), zmem 540 (by decide +kernel) (by decide +kernel), zmem 541 (by decide +kernel) (by decide +kernel), zmem 71 (by decide +kernel) (by decide +kernel), ⟨by decide +kernel, by decide +kernel⟩, by decide +kernel, by decide⟩
set_option maxRecDepth 20000 in
theorem zm_X6_offer : zMV yX6_offer cX6_offer 3 (some .int) 2 := ⟨rfl, zmem 494 (by decide +kernel) (by decide +kernel), zmem 492 (by decide +kernel) (by decide +kernel), zmem 493 (by decide +kernel) (by decide +kernel), zmem 71 (by decide +kernel) (by decide +kernel), ⟨by decide +kernel, by decide +kernel⟩, by decide +kernel, by decide⟩
set_option maxRecDepth 20000 in
theorem zm_X6_pass : zMV yX6_pass cX6_pass 2 (some .int) 1 := ⟨rfl, zmem 550 (by decide +kernel) (by decide +kernel), zmem 548 (by decide +kernel) (by decide +kernel), zmem 549 (by decide +kernel) (by decide +kernel), zmem 71 (by decide +kernel) (by decide +kernel), ⟨by decide +kernel, by decide +kernel⟩, by decide +kernel, by decide⟩
set_option maxRecDepth 20000 in
theorem zm_X6_perform : zMV yX6_perform cX6_perform 4 (some .int) 0 := ⟨rfl, zmem 598 (by decide +kernel) (by decide +kernel), zmem 596 (by decide +kernel) (by decide +kernel), zmem 597 (by decide +kernel) (by decide +kernel), zmem 71 (by decide +kernel) (by decide +kernel), ⟨by decide +kernel, by decide +kernel⟩, by decide +kernel, by decide⟩
set_option maxRecDepth 20000 in
theorem zm_X6_performNext : zMV yX6_performNext cX6_performNext 1 (some .int) 0 := ⟨rfl, zmem 643 (by decide +kernel) (by decide +kernel), zmem 642 (by decide +kernel) (by decide +kernel), zmem 25 (by decide +kernel) (by decide +kernel), zmem 71 (by decide +kernel) (by decide +kernel), ⟨by decide +kernel, by decide +kernel⟩, by decide +kernel, by decide⟩
set_option maxRecDepth 20000 in
theorem zm_X6_priceIn : zMV yX6_priceIn cX6_priceIn 5 (some .int) 2 := ⟨rfl, zmem 723 (by decide +kernel) (by decide +kernel), zmem 721 (by decide +kernel) (by decide +kernel), zmem 722 (by decide +kernel) (by decide +kernel), zmem 71 (by decide +kernel) (by decide +kernel), ⟨by decide +kernel, by decide +kernel⟩, by decide +kernel, by decide⟩
set_option maxRecDepth 20000 in
theorem zm_X6_restore : zMV yX6_restore cX6_restore 1 (some .int) 0 := ⟨rfl, zmem 662 (by decide +kernel) (by decide +kernel), zmem 660 (by decide +kernel) (by decide +kernel), zmem 661 (by decide +kernel) (by decide +kernel), zmem 71 (by decide +kernel) (by decide +kernel), ⟨by decide +kernel, by decide +kernel⟩, by decide +kernel, by decide⟩
set_option maxRecDepth 20000 in
theorem zm_X6_right : zMV yX6_right cX6_right 4 (some .int) 2 := ⟨rfl, zmem 684 (by decide +kernel) (by decide +kernel), zmem 682 (by decide +kernel) (by decide +kernel), zmem 683 (by decide +kernel) (by decide +kernel), zmem 71 (by decide +kernel) (by decide +kernel), ⟨by decide +kernel, by decide +kernel⟩, by decide +kernel, by decide⟩
set_option maxRecDepth 20000 in
theorem zm_X6_set : zMV yX6_set cX6_set 3 (some .int) 2 := ⟨rfl, zmem 375 (by decide +kernel) (by decide +kernel), zmem 373 (by decide +kernel) (by decide +kernel), zmem 374 (by decide +kernel) (by decide +kernel), zmem 71 (by decide +kernel) (by decide +kernel), ⟨by decide +kernel, by decide +kernel⟩, by decide +kernel, by decide⟩
set_option maxRecDepth 20000 in
theorem zm_X6_setStage : zMV yX6_setStage cX6_setStage 4 (some .int) 3 := ⟨rfl, zmem 359 (by decide +kernel) (by decide +kernel), zmem 357 (by decide +kernel) (by decide +kernel), zmem 358 (by decide +kernel) (by decide +kernel), zmem 71 (by decide +kernel) (by decide +kernel), ⟨by decide +kernel, by decide +kernel⟩, by decide +kernel, by decide⟩
set_option maxRecDepth 20000 in
theorem zm_X6_stage : zMV yX6_stage cX6_stage 3 (some .int) 2 := ⟨rfl, zmem 715 (by decide +kernel) (by decide +kernel), zmem 713 (by decide +kernel) (by decide +kernel), zmem 714 (by decide +kernel) (by decide +kernel), zmem 71 (by decide +kernel) (by decide +kernel), ⟨by decide +kernel, by decide +kernel⟩, by decide +kernel, by decide⟩
set_option maxRecDepth 20000 in
theorem zm_X6_takeBack : zMV yX6_takeBack cX6_takeBack 2 (some .int) 1 := ⟨rfl, zmem 502 (by decide +kernel) (by decide +kernel), zmem 500 (by decide +kernel) (by decide +kernel), zmem 501 (by decide +kernel) (by decide +kernel), zmem 71 (by decide +kernel) (by decide +kernel), ⟨by decide +kernel, by decide +kernel⟩, by decide +kernel, by decide⟩
set_option maxRecDepth 20000 in
theorem zm_X6_type : zMV yX6_type cX6_type 2 (some .int) 1 := ⟨rfl, zmem 582 (by decide +kernel) (by decide +kernel), zmem 580 (by decide +kernel) (by decide +kernel), zmem 581 (by decide +kernel) (by decide +kernel), zmem 71 (by decide +kernel) (by decide +kernel), ⟨by decide +kernel, by decide +kernel⟩, by decide +kernel, by decide⟩
set_option maxRecDepth 20000 in
theorem zm_X6_undo : zMV yX6_undo cX6_undo 2 (some .int) 0 := ⟨rfl, zmem 650 (by decide +kernel) (by decide +kernel), zmem 648 (by decide +kernel) (by decide +kernel), zmem 649 (by decide +kernel) (by decide +kernel), zmem 71 (by decide +kernel) (by decide +kernel), ⟨by decide +kernel, by decide +kernel⟩, by decide +kernel, by decide⟩
set_option maxRecDepth 20000 in
theorem zm_X6_waiting : zMV yX6_waiting cX6_waiting 4 (some .int) 2 := ⟨rfl, zmem 679 (by decide +kernel) (by decide +kernel), zmem 677 (by decide +kernel) (by decide +kernel), zmem 678 (by decide +kernel) (by decide +kernel), zmem 71 (by decide +kernel) (by decide +kernel), ⟨by decide +kernel, by decide +kernel⟩, by decide +kernel, by decide⟩
set_option maxRecDepth 20000 in
theorem zm_X6_wouldCover : zMV yX6_wouldCover cX6_wouldCover 3 (some .int) 1 := ⟨rfl, zmem 730 (by decide +kernel) (by decide +kernel), zmem 728 (by decide +kernel) (by decide +kernel), zmem 729 (by decide +kernel) (by decide +kernel), zmem 71 (by decide +kernel) (by decide +kernel), ⟨by decide +kernel, by decide +kernel⟩, by decide +kernel, by decide⟩
set_option maxRecDepth 20000 in
theorem zm_X7_acted : zMV yX7_acted cX7_acted 4 (some .int) 1 := ⟨rfl, zmem 899 (by decide +kernel) (by decide +kernel), zmem 898 (by decide +kernel) (by decide +kernel), zmem 46 (by decide +kernel) (by decide +kernel), zmem 78 (by decide +kernel) (by decide +kernel), ⟨by decide +kernel, by decide +kernel⟩, by decide +kernel, by decide⟩
set_option maxRecDepth 20000 in
theorem zm_X7_addDate : zMV yX7_addDate cX7_addDate 7 (some .int) 5 := ⟨rfl, zmem 811 (by decide +kernel) (by decide +kernel), zmem 809 (by decide +kernel) (by decide +kernel), zmem 810 (by decide +kernel) (by decide +kernel), zmem 78 (by decide +kernel) (by decide +kernel), ⟨by decide +kernel, by decide +kernel⟩, by decide +kernel, by decide⟩
set_option maxRecDepth 20000 in
theorem zm_X7_aside : zMV yX7_aside cX7_aside 2 none 0 := ⟨rfl, zmem 837 (by decide +kernel) (by decide +kernel), zmem 836 (by decide +kernel) (by decide +kernel), zmem 32 (by decide +kernel) (by decide +kernel), zmem 78 (by decide +kernel) (by decide +kernel), ⟨by decide +kernel, by decide +kernel⟩, by decide +kernel, by decide⟩
set_option maxRecDepth 20000 in
theorem zm_X7_await : zMV yX7_await cX7_await 3 (some .int) 2 := ⟨rfl, zmem 979 (by decide +kernel) (by decide +kernel), zmem 977 (by decide +kernel) (by decide +kernel), zmem 978 (by decide +kernel) (by decide +kernel), zmem 78 (by decide +kernel) (by decide +kernel), ⟨by decide +kernel, by decide +kernel⟩, by decide +kernel, by decide⟩
set_option maxRecDepth 20000 in
theorem zm_X7_becomes : zMV yX7_becomes cX7_becomes 3 none 2 := ⟨rfl, zmem 919 (by decide +kernel) (by decide +kernel), zmem 918 (by decide +kernel) (by decide +kernel), zmem 50 (by decide +kernel) (by decide +kernel), zmem 78 (by decide +kernel) (by decide +kernel), ⟨by decide +kernel, by decide +kernel⟩, by decide +kernel, by decide⟩
set_option maxRecDepth 20000 in
theorem zm_X7_bringBack : zMV yX7_bringBack cX7_bringBack 2 none 0 := ⟨rfl, zmem 903 (by decide +kernel) (by decide +kernel), zmem 902 (by decide +kernel) (by decide +kernel), zmem 47 (by decide +kernel) (by decide +kernel), zmem 78 (by decide +kernel) (by decide +kernel), ⟨by decide +kernel, by decide +kernel⟩, by decide +kernel, by decide⟩
set_option maxRecDepth 20000 in
theorem zm_X7_buy : zMV yX7_buy cX7_buy 3 (some .int) 2 := ⟨rfl, zmem 833 (by decide +kernel) (by decide +kernel), zmem 831 (by decide +kernel) (by decide +kernel), zmem 832 (by decide +kernel) (by decide +kernel), zmem 78 (by decide +kernel) (by decide +kernel), ⟨by decide +kernel, by decide +kernel⟩, by decide +kernel, by decide⟩
set_option maxRecDepth 20000 in
theorem zm_X7_buyOffered : zMV yX7_buyOffered cX7_buyOffered 3 (some .int) 2 := ⟨rfl, zmem 907 (by decide +kernel) (by decide +kernel), zmem 905 (by decide +kernel) (by decide +kernel), zmem 906 (by decide +kernel) (by decide +kernel), zmem 78 (by decide +kernel) (by decide +kernel), ⟨by decide +kernel, by decide +kernel⟩, by decide +kernel, by decide⟩
set_option maxRecDepth 20000 in
theorem zm_X7_canExercise : zMV yX7_canExercise cX7_canExercise 3 (some .boolean) 1 := ⟨rfl, zmem 975 (by decide +kernel) (by decide +kernel), zmem 974 (by decide +kernel) (by decide +kernel), zmem 60 (by decide +kernel) (by decide +kernel), zmem 78 (by decide +kernel) (by decide +kernel), ⟨by decide +kernel, by decide +kernel⟩, by decide +kernel, by decide⟩
set_option maxRecDepth 20000 in
theorem zm_X7_canSell : zMV yX7_canSell cX7_canSell 4 (some .int) 1 := ⟨rfl, zmem 864 (by decide +kernel) (by decide +kernel), zmem 863 (by decide +kernel) (by decide +kernel), zmem 38 (by decide +kernel) (by decide +kernel), zmem 78 (by decide +kernel) (by decide +kernel), ⟨by decide +kernel, by decide +kernel⟩, by decide +kernel, by decide⟩
set_option maxRecDepth 20000 in
theorem zm_X7_cancel : zMV yX7_cancel cX7_cancel 2 (some .int) 1 := ⟨rfl, zmem 923 (by decide +kernel) (by decide +kernel), zmem 921 (by decide +kernel) (by decide +kernel), zmem 922 (by decide +kernel) (by decide +kernel), zmem 78 (by decide +kernel) (by decide +kernel), ⟨by decide +kernel, by decide +kernel⟩, by decide +kernel, by decide⟩
set_option maxRecDepth 20000 in
theorem zm_X7_clearText : zMV yX7_clearText cX7_clearText 2 (some .int) 0 := ⟨rfl, zmem 1011 (by decide +kernel) (by decide +kernel), zmem 1009 (by decide +kernel) (by decide +kernel), zmem 1010 (by decide +kernel) (by decide +kernel), zmem 78 (by decide +kernel) (by decide +kernel), ⟨by decide +kernel, by decide +kernel⟩, by decide +kernel, by decide⟩
set_option maxRecDepth 20000 in
theorem zm_X7_count : zMV yX7_count cX7_count 4 (some .int) 1 := ⟨rfl, zmem 1084 (by decide +kernel) (by decide +kernel), zmem 1082 (by decide +kernel) (by decide +kernel), zmem 1083 (by decide +kernel) (by decide +kernel), zmem 78 (by decide +kernel) (by decide +kernel), ⟨by decide +kernel, by decide +kernel⟩, by decide +kernel, by decide⟩
set_option maxRecDepth 20000 in
theorem zm_X7_covers : zMV yX7_covers cX7_covers 5 (some .int) 1 := ⟨rfl, zmem 1003 (by decide +kernel) (by decide +kernel), zmem 1002 (by decide +kernel) (by decide +kernel), zmem 64 (by decide +kernel) (by decide +kernel), zmem 78 (by decide +kernel) (by decide +kernel), ⟨by decide +kernel, by decide +kernel⟩, by decide +kernel, by decide⟩
set_option maxRecDepth 20000 in
theorem zm_X7_date : zMV yX7_date cX7_date 4 (some .int) 2 := ⟨rfl, zmem 1051 (by decide +kernel) (by decide +kernel), zmem 1049 (by decide +kernel) (by decide +kernel), zmem 1050 (by decide +kernel) (by decide +kernel), zmem 78 (by decide +kernel) (by decide +kernel), ⟨by decide +kernel, by decide +kernel⟩, by decide +kernel, by decide⟩
set_option maxRecDepth 20000 in
theorem zm_X7_dateAt : zMS yX7_dateAt cX7_dateAt 2 (some .int) 2 := ⟨rfl, zmem 821 (by decide +kernel) (by decide +kernel), zmem 820 (by decide +kernel) (by decide +kernel), zmem 78 (by decide +kernel) (by decide +kernel), ⟨by decide +kernel, by decide +kernel⟩, by decide +kernel, by decide⟩
set_option maxRecDepth 20000 in
theorem zm_X7_daysLeft : zMV yX7_daysLeft cX7_daysLeft 2 (some .int) 1 := ⟨rfl, zmem 856 (by decide +kernel) (by decide +kernel), zmem 855 (by decide +kernel) (by decide +kernel), zmem 36 (by decide +kernel) (by decide +kernel), zmem 78 (by decide +kernel) (by decide +kernel), ⟨by decide +kernel, by decide +kernel⟩, by decide +kernel, by decide⟩
set_option maxRecDepth 20000 in
theorem zm_X7_doBuy : zMV yX7_doBuy cX7_doBuy 3 (some .int) 2 := ⟨rfl, zmem 841 (by decide +kernel) (by decide +kernel), zmem 840 (by decide +kernel) (by decide +kernel), zmem 33 (by decide +kernel) (by decide +kernel), zmem 78 (by decide +kernel) (by decide +kernel), ⟨by decide +kernel, by decide +kernel⟩, by decide +kernel, by decide⟩
set_option maxRecDepth 20000 in
theorem zm_X7_doBuyOffered : zMV yX7_doBuyOffered cX7_doBuyOffered 6 (some .int) 2 := ⟨rfl, zmem 911 (by decide +kernel) (by decide +kernel), zmem 910 (by decide +kernel) (by decide +kernel), zmem 48 (by decide +kernel) (by decide +kernel), zmem 78 (by decide +kernel) (by decide +kernel), ⟨by decide +kernel, by decide +kernel⟩, by decide +kernel, by decide⟩
set_option maxRecDepth 20000 in
theorem zm_X7_doCancel : zMV yX7_doCancel cX7_doCancel 3 (some .int) 1 := ⟨rfl, zmem 927 (by decide +kernel) (by decide +kernel), zmem 926 (by decide +kernel) (by decide +kernel), zmem 51 (by decide +kernel) (by decide +kernel), zmem 78 (by decide +kernel) (by decide +kernel), ⟨by decide +kernel, by decide +kernel⟩, by decide +kernel, by decide⟩
set_option maxRecDepth 20000 in
theorem zm_X7_doExercise : zMV yX7_doExercise cX7_doExercise 2 (some .int) 1 := ⟨rfl, zmem 971 (by decide +kernel) (by decide +kernel), zmem 970 (by decide +kernel) (by decide +kernel), zmem 59 (by decide +kernel) (by decide +kernel), zmem 78 (by decide +kernel) (by decide +kernel), ⟨by decide +kernel, by decide +kernel⟩, by decide +kernel, by decide⟩
set_option maxRecDepth 20000 in
theorem zm_X7_doOffer : zMV yX7_doOffer cX7_doOffer 4 (some .int) 2 := ⟨rfl, zmem 959 (by decide +kernel) (by decide +kernel), zmem 958 (by decide +kernel) (by decide +kernel), zmem 58 (by decide +kernel) (by decide +kernel), zmem 78 (by decide +kernel) (by decide +kernel), ⟨by decide +kernel, by decide +kernel⟩, by decide +kernel, by decide⟩
set_option maxRecDepth 20000 in
theorem zm_X7_doOrder : zMV yX7_doOrder cX7_doOrder 1 (some .int) 0 := ⟨rfl, zmem 1035 (by decide +kernel) (by decide +kernel), zmem 1034 (by decide +kernel) (by decide +kernel), zmem 69 (by decide +kernel) (by decide +kernel), zmem 78 (by decide +kernel) (by decide +kernel), ⟨by decide +kernel, by decide +kernel⟩, by decide +kernel, by decide⟩
set_option maxRecDepth 20000 in
theorem zm_X7_dropFirst : zMV yX7_dropFirst cX7_dropFirst 4 none 2 := ⟨rfl, zmem 951 (by decide +kernel) (by decide +kernel), zmem 950 (by decide +kernel) (by decide +kernel), zmem 57 (by decide +kernel) (by decide +kernel), zmem 78 (by decide +kernel) (by decide +kernel), ⟨by decide +kernel, by decide +kernel⟩, by decide +kernel, by decide⟩
set_option maxRecDepth 20000 in
theorem zm_X7_event : zMV yX7_event cX7_event 3 (some .int) 2 := ⟨rfl, zmem 1080 (by decide +kernel) (by decide +kernel), zmem 1078 (by decide +kernel) (by decide +kernel), zmem 1079 (by decide +kernel) (by decide +kernel), zmem 78 (by decide +kernel) (by decide +kernel), ⟨by decide +kernel, by decide +kernel⟩, by decide +kernel, by decide⟩
set_option maxRecDepth 20000 in
theorem zm_X7_exercise : zMV yX7_exercise cX7_exercise 2 (some .int) 1 := ⟨rfl, zmem 967 (by decide +kernel) (by decide +kernel), zmem 965 (by decide +kernel) (by decide +kernel), zmem 966 (by decide +kernel) (by decide +kernel), zmem 78 (by decide +kernel) (by decide +kernel), ⟨by decide +kernel, by decide +kernel⟩, by decide +kernel, by decide⟩
set_option maxRecDepth 20000 in
theorem zm_X7_holder : zMV yX7_holder cX7_holder 7 (some .int) 2 := ⟨rfl, zmem 1063 (by decide +kernel) (by decide +kernel), zmem 1061 (by decide +kernel) (by decide +kernel), zmem 1062 (by decide +kernel) (by decide +kernel), zmem 78 (by decide +kernel) (by decide +kernel), ⟨by decide +kernel, by decide +kernel⟩, by decide +kernel, by decide⟩
set_option maxRecDepth 20000 in
theorem zm_X7_in : zMS yX7_in cX7_in 3 (some .boolean) 3 := ⟨rfl, zmem 814 (by decide +kernel) (by decide +kernel), zmem 813 (by decide +kernel) (by decide +kernel), zmem 78 (by decide +kernel) (by decide +kernel), ⟨by decide +kernel, by decide +kernel⟩, by decide +kernel, by decide⟩
set_option maxRecDepth 20000 in
theorem zm_X7_isDate : zMV yX7_isDate cX7_isDate 2 (some .boolean) 1 := ⟨rfl, zmem 848 (by decide +kernel) (by decide +kernel), zmem 847 (by decide +kernel) (by decide +kernel), zmem 34 (by decide +kernel) (by decide +kernel), zmem 78 (by decide +kernel) (by decide +kernel), ⟨by decide +kernel, by decide +kernel⟩, by decide +kernel, by decide⟩
set_option maxRecDepth 20000 in
theorem zm_X7_isFree : zMV yX7_isFree cX7_isFree 2 (some .boolean) 1 := ⟨rfl, zmem 935 (by decide +kernel) (by decide +kernel), zmem 934 (by decide +kernel) (by decide +kernel), zmem 53 (by decide +kernel) (by decide +kernel), zmem 78 (by decide +kernel) (by decide +kernel), ⟨by decide +kernel, by decide +kernel⟩, by decide +kernel, by decide⟩
set_option maxRecDepth 20000 in
theorem zm_X7_isGood : zMV yX7_isGood cX7_isGood 2 (some .boolean) 0 := ⟨rfl, zmem 1019 (by decide +kernel) (by decide +kernel), zmem 1018 (by decide +kernel) (by decide +kernel), zmem 65 (by decide +kernel) (by decide +kernel), zmem 78 (by decide +kernel) (by decide +kernel), ⟨by decide +kernel, by decide +kernel⟩, by decide +kernel, by decide⟩
set_option maxRecDepth 20000 in
theorem zm_X7_isHolder : zMS yX7_isHolder cX7_isHolder 1 (some .boolean) 1 := ⟨rfl, zmem 844 (by decide +kernel) (by decide +kernel), zmem 843 (by decide +kernel) (by decide +kernel), zmem 78 (by decide +kernel) (by decide +kernel), ⟨by decide +kernel, by decide +kernel⟩, by decide +kernel, by decide⟩
set_option maxRecDepth 20000 in
theorem zm_X7_isOpen : zMV yX7_isOpen cX7_isOpen 2 (some .boolean) 1 := ⟨rfl, zmem 852 (by decide +kernel) (by decide +kernel), zmem 851 (by decide +kernel) (by decide +kernel), zmem 35 (by decide +kernel) (by decide +kernel), zmem 78 (by decide +kernel) (by decide +kernel), ⟨by decide +kernel, by decide +kernel⟩, by decide +kernel, by decide⟩
set_option maxRecDepth 20000 in
theorem zm_X7_isRight : zMV yX7_isRight cX7_isRight 2 (some .boolean) 1 := ⟨rfl, zmem 931 (by decide +kernel) (by decide +kernel), zmem 930 (by decide +kernel) (by decide +kernel), zmem 52 (by decide +kernel) (by decide +kernel), zmem 78 (by decide +kernel) (by decide +kernel), ⟨by decide +kernel, by decide +kernel⟩, by decide +kernel, by decide⟩
set_option maxRecDepth 20000 in
theorem zm_X7_keep : zMV yX7_keep cX7_keep 2 (some .int) 0 := ⟨rfl, zmem 1043 (by decide +kernel) (by decide +kernel), zmem 1041 (by decide +kernel) (by decide +kernel), zmem 1042 (by decide +kernel) (by decide +kernel), zmem 78 (by decide +kernel) (by decide +kernel), ⟨by decide +kernel, by decide +kernel⟩, by decide +kernel, by decide⟩
set_option maxRecDepth 20000 in
theorem zm_X7_lapses : zMV yX7_lapses cX7_lapses 4 (some .int) 1 := ⟨rfl, zmem 999 (by decide +kernel) (by decide +kernel), zmem 998 (by decide +kernel) (by decide +kernel), zmem 63 (by decide +kernel) (by decide +kernel), zmem 78 (by decide +kernel) (by decide +kernel), ⟨by decide +kernel, by decide +kernel⟩, by decide +kernel, by decide⟩
set_option maxRecDepth 20000 in
theorem zm_X7_leave : zMV yX7_leave cX7_leave 4 (some .int) 2 := ⟨rfl, zmem 987 (by decide +kernel) (by decide +kernel), zmem 985 (by decide +kernel) (by decide +kernel), zmem 986 (by decide +kernel) (by decide +kernel), zmem 78 (by decide +kernel) (by decide +kernel), ⟨by decide +kernel, by decide +kernel⟩, by decide +kernel, by decide⟩
set_option maxRecDepth 20000 in
theorem zm_X7_listBuys : zMV yX7_listBuys cX7_listBuys 3 none 1 := ⟨rfl, zmem 947 (by decide +kernel) (by decide +kernel), zmem 946 (by decide +kernel) (by decide +kernel), zmem 56 (by decide +kernel) (by decide +kernel), zmem 78 (by decide +kernel) (by decide +kernel), ⟨by decide +kernel, by decide +kernel⟩, by decide +kernel, by decide⟩
set_option maxRecDepth 20000 in
theorem zm_X7_log : zMV yX7_log cX7_log 5 none 3 := ⟨rfl, zmem 895 (by decide +kernel) (by decide +kernel), zmem 894 (by decide +kernel) (by decide +kernel), zmem 45 (by decide +kernel) (by decide +kernel), zmem 78 (by decide +kernel) (by decide +kernel), ⟨by decide +kernel, by decide +kernel⟩, by decide +kernel, by decide⟩
set_option maxRecDepth 20000 in
theorem zm_X7_lowest : zMV yX7_lowest cX7_lowest 7 (some .int) 3 := ⟨rfl, zmem 915 (by decide +kernel) (by decide +kernel), zmem 914 (by decide +kernel) (by decide +kernel), zmem 49 (by decide +kernel) (by decide +kernel), zmem 78 (by decide +kernel) (by decide +kernel), ⟨by decide +kernel, by decide +kernel⟩, by decide +kernel, by decide⟩
set_option maxRecDepth 20000 in
theorem zm_X7_of : zMV yX7_of cX7_of 3 (some .int) 2 := ⟨rfl, zmem 876 (by decide +kernel) (by decide +kernel), zmem 875 (by decide +kernel) (by decide +kernel), zmem 41 (by decide +kernel) (by decide +kernel), zmem 78 (by decide +kernel) (by decide +kernel), ⟨by decide +kernel, by decide +kernel⟩, by decide +kernel, by decide⟩
set_option maxRecDepth 20000 in
theorem zm_X7_ofDate : zMV yX7_ofDate cX7_ofDate 3 (some .int) 2 := ⟨rfl, zmem 860 (by decide +kernel) (by decide +kernel), zmem 859 (by decide +kernel) (by decide +kernel), zmem 37 (by decide +kernel) (by decide +kernel), zmem 78 (by decide +kernel) (by decide +kernel), ⟨by decide +kernel, by decide +kernel⟩, by decide +kernel, by decide⟩
set_option maxRecDepth 20000 in
theorem zm_X7_offer : zMV yX7_offer cX7_offer 3 (some .int) 2 := ⟨rfl, zmem 955 (by decide +kernel) (by decide +kernel), zmem 953 (by decide +kernel) (by decide +kernel), zmem 954 (by decide +kernel) (by decide +kernel), zmem 78 (by decide +kernel) (by decide +kernel), ⟨by decide +kernel, by decide +kernel⟩, by decide +kernel, by decide⟩
set_option maxRecDepth 20000 in
theorem zm_X7_oneDay : zMV yX7_oneDay cX7_oneDay 3 (some .int) 0 := ⟨rfl, zmem 995 (by decide +kernel) (by decide +kernel), zmem 994 (by decide +kernel) (by decide +kernel), zmem 62 (by decide +kernel) (by decide +kernel), zmem 78 (by decide +kernel) (by decide +kernel), ⟨by decide +kernel, by decide +kernel⟩, by decide +kernel, by decide⟩
set_option maxRecDepth 20000 in
theorem zm_X7_out : zMV yX7_out cX7_out 2 (some .int) 1 := ⟨rfl, zmem 868 (by decide +kernel) (by decide +kernel), zmem 867 (by decide +kernel) (by decide +kernel), zmem 39 (by decide +kernel) (by decide +kernel), zmem 78 (by decide +kernel) (by decide +kernel), ⟨by decide +kernel, by decide +kernel⟩, by decide +kernel, by decide⟩
set_option maxRecDepth 20000 in
theorem zm_X7_pass : zMV yX7_pass cX7_pass 4 (some .int) 1 := ⟨rfl, zmem 991 (by decide +kernel) (by decide +kernel), zmem 989 (by decide +kernel) (by decide +kernel), zmem 990 (by decide +kernel) (by decide +kernel), zmem 78 (by decide +kernel) (by decide +kernel), ⟨by decide +kernel, by decide +kernel⟩, by decide +kernel, by decide⟩
set_option maxRecDepth 20000 in
theorem zm_X7_pays : zMV yX7_pays cX7_pays 3 none 2 := ⟨rfl, zmem 891 (by decide +kernel) (by decide +kernel), zmem 890 (by decide +kernel) (by decide +kernel), zmem 44 (by decide +kernel) (by decide +kernel), zmem 78 (by decide +kernel) (by decide +kernel), ⟨by decide +kernel, by decide +kernel⟩, by decide +kernel, by decide⟩
set_option maxRecDepth 20000 in
theorem zm_X7_perform : zMV yX7_perform cX7_perform 3 (some .int) 0 := ⟨rfl, zmem 1015 (by decide +kernel) (by decide +kernel), zmem 1013 (by decide +kernel) (by decide +kernel), zmem 1014 (by decide +kernel) (by decide +kernel), zmem 78 (by decide +kernel) (by decide +kernel), ⟨by decide +kernel, by decide +kernel⟩, by decide +kernel, by decide⟩
set_option maxRecDepth 20000 in
theorem zm_X7_placeOf : zMV yX7_placeOf cX7_placeOf 5 (some .int) 2 := ⟨rfl, zmem 983 (by decide +kernel) (by decide +kernel), zmem 982 (by decide +kernel) (by decide +kernel), zmem 61 (by decide +kernel) (by decide +kernel), zmem 78 (by decide +kernel) (by decide +kernel), ⟨by decide +kernel, by decide +kernel⟩, by decide +kernel, by decide⟩
set_option maxRecDepth 20000 in
theorem zm_X7_price : zMV yX7_price cX7_price 5 (some .int) 2 := ⟨rfl, zmem 887 (by decide +kernel) (by decide +kernel), zmem 886 (by decide +kernel) (by decide +kernel), zmem 43 (by decide +kernel) (by decide +kernel), zmem 78 (by decide +kernel) (by decide +kernel), ⟨by decide +kernel, by decide +kernel⟩, by decide +kernel, by decide⟩
set_option maxRecDepth 20000 in
theorem zm_X7_priceIn : zMV yX7_priceIn cX7_priceIn 4 (some .int) 2 := ⟨rfl, zmem 1072 (by decide +kernel) (by decide +kernel), zmem 1070 (by decide +kernel) (by decide +kernel), zmem 1071 (by decide +kernel) (by decide +kernel), zmem 78 (by decide +kernel) (by decide +kernel), ⟨by decide +kernel, by decide +kernel⟩, by decide +kernel, by decide⟩
set_option maxRecDepth 20000 in
theorem zm_X7_readNumber : zMV yX7_readNumber cX7_readNumber 3 (some .boolean) 1 := ⟨rfl, zmem 1031 (by decide +kernel) (by decide +kernel), zmem 1030 (by decide +kernel) (by decide +kernel), zmem 68 (by decide +kernel) (by decide +kernel), zmem 78 (by decide +kernel) (by decide +kernel), ⟨by decide +kernel, by decide +kernel⟩, by decide +kernel, by decide⟩
set_option maxRecDepth 20000 in
theorem zm_X7_readOrder : zMV yX7_readOrder cX7_readOrder 2 (some .boolean) 0 := ⟨rfl, zmem 1023 (by decide +kernel) (by decide +kernel), zmem 1022 (by decide +kernel) (by decide +kernel), zmem 66 (by decide +kernel) (by decide +kernel), zmem 78 (by decide +kernel) (by decide +kernel), ⟨by decide +kernel, by decide +kernel⟩, by decide +kernel, by decide⟩
set_option maxRecDepth 20000 in
theorem zm_X7_record : zMV yX7_record cX7_record 2 none 0 := ⟨rfl, zmem 818 (by decide +kernel) (by decide +kernel), zmem 817 (by decide +kernel) (by decide +kernel), zmem 31 (by decide +kernel) (by decide +kernel), zmem 78 (by decide +kernel) (by decide +kernel), ⟨by decide +kernel, by decide +kernel⟩, by decide +kernel, by decide⟩
set_option maxRecDepth 20000 in
theorem zm_X7_refund : zMV yX7_refund cX7_refund 3 (some .int) 1 := ⟨rfl, zmem 939 (by decide +kernel) (by decide +kernel), zmem 938 (by decide +kernel) (by decide +kernel), zmem 54 (by decide +kernel) (by decide +kernel), zmem 78 (by decide +kernel) (by decide +kernel), ⟨by decide +kernel, by decide +kernel⟩, by decide +kernel, by decide⟩
set_option maxRecDepth 20000 in
theorem zm_X7_restore : zMV yX7_restore cX7_restore 2 (some .int) 0 := ⟨rfl, zmem 1047 (by decide +kernel) (by decide +kernel), zmem 1045 (by decide +kernel) (by decide +kernel), zmem 1046 (by decide +kernel) (by decide +kernel), zmem 78 (by decide +kernel) (by decide +kernel), ⟨by decide +kernel, by decide +kernel⟩, by decide +kernel, by decide⟩
set_option maxRecDepth 20000 in
theorem zm_X7_right : zMV yX7_right cX7_right 3 (some .int) 2 := ⟨rfl, zmem 1059 (by decide +kernel) (by decide +kernel), zmem 1057 (by decide +kernel) (by decide +kernel), zmem 1058 (by decide +kernel) (by decide +kernel), zmem 78 (by decide +kernel) (by decide +kernel), ⟨by decide +kernel, by decide +kernel⟩, by decide +kernel, by decide⟩
set_option maxRecDepth 20000 in
theorem zm_X7_rightAt : zMS yX7_rightAt cX7_rightAt 2 (some .int) 2 := ⟨rfl, zmem 879 (by decide +kernel) (by decide +kernel), zmem 878 (by decide +kernel) (by decide +kernel), zmem 78 (by decide +kernel) (by decide +kernel), ⟨by decide +kernel, by decide +kernel⟩, by decide +kernel, by decide⟩
set_option maxRecDepth 20000 in
theorem zm_X7_rightsOf : zMV yX7_rightsOf cX7_rightsOf 6 (some .int) 3 := ⟨rfl, zmem 872 (by decide +kernel) (by decide +kernel), zmem 871 (by decide +kernel) (by decide +kernel), zmem 40 (by decide +kernel) (by decide +kernel), zmem 78 (by decide +kernel) (by decide +kernel), ⟨by decide +kernel, by decide +kernel⟩, by decide +kernel, by decide⟩
set_option maxRecDepth 20000 in
theorem zm_X7_sells : zMV yX7_sells cX7_sells 5 (some .int) 2 := ⟨rfl, zmem 883 (by decide +kernel) (by decide +kernel), zmem 882 (by decide +kernel) (by decide +kernel), zmem 42 (by decide +kernel) (by decide +kernel), zmem 78 (by decide +kernel) (by decide +kernel), ⟨by decide +kernel, by decide +kernel⟩, by decide +kernel, by decide⟩
set_option maxRecDepth 20000 in
theorem zm_X7_set : zMV yX7_set cX7_set 4 (some .int) 2 := ⟨rfl, zmem 829 (by decide +kernel) (by decide +kernel), zmem 827 (by decide +kernel) (by decide +kernel), zmem 828 (by decide +kernel) (by decide +kernel), zmem 78 (by decide +kernel) (by decide +kernel), ⟨by decide +kernel, by decide +kernel⟩, by decide +kernel, by decide⟩
set_option maxRecDepth 20000 in
theorem zm_X7_setStage : zMV yX7_setStage cX7_setStage 8 (some .int) 3 := ⟨rfl, zmem 825 (by decide +kernel) (by decide +kernel), zmem 823 (by decide +kernel) (by decide +kernel), zmem 824 (by decide +kernel) (by decide +kernel), zmem 78 (by decide +kernel) (by decide +kernel), ⟨by decide +kernel, by decide +kernel⟩, by decide +kernel, by decide⟩
set_option maxRecDepth 20000 in
theorem zm_X7_sign : zMV yX7_sign cX7_sign 3 (some .boolean) 1 := ⟨rfl, zmem 1027 (by decide +kernel) (by decide +kernel), zmem 1026 (by decide +kernel) (by decide +kernel), zmem 67 (by decide +kernel) (by decide +kernel), zmem 78 (by decide +kernel) (by decide +kernel), ⟨by decide +kernel, by decide +kernel⟩, by decide +kernel, by decide⟩
set_option maxRecDepth 20000 in
theorem zm_X7_stage : zMV yX7_stage cX7_stage 3 (some .int) 2 := ⟨rfl, zmem 1068 (by decide +kernel) (by decide +kernel), zmem 1066 (by decide +kernel) (by decide +kernel), zmem 1067 (by decide +kernel) (by decide +kernel), zmem 78 (by decide +kernel) (by decide +kernel), ⟨by decide +kernel, by decide +kernel⟩, by decide +kernel, by decide⟩
set_option maxRecDepth 20000 in
theorem zm_X7_stageOf : zMV yX7_stageOf cX7_stageOf 3 (some .int) 1 := ⟨rfl, zmem 943 (by decide +kernel) (by decide +kernel), zmem 942 (by decide +kernel) (by decide +kernel), zmem 55 (by decide +kernel) (by decide +kernel), zmem 78 (by decide +kernel) (by decide +kernel), ⟨by decide +kernel, by decide +kernel⟩, by decide +kernel, by decide⟩
set_option maxRecDepth 20000 in
theorem zm_X7_takeBack : zMV yX7_takeBack cX7_takeBack 3 (some .int) 1 := ⟨rfl, zmem 963 (by decide +kernel) (by decide +kernel), zmem 961 (by decide +kernel) (by decide +kernel), zmem 962 (by decide +kernel) (by decide +kernel), zmem 78 (by decide +kernel) (by decide +kernel), ⟨by decide +kernel, by decide +kernel⟩, by decide +kernel, by decide⟩
set_option maxRecDepth 20000 in
theorem zm_X7_type : zMV yX7_type cX7_type 2 (some .int) 1 := ⟨rfl, zmem 1007 (by decide +kernel) (by decide +kernel), zmem 1005 (by decide +kernel) (by decide +kernel), zmem 1006 (by decide +kernel) (by decide +kernel), zmem 78 (by decide +kernel) (by decide +kernel), ⟨by decide +kernel, by decide +kernel⟩, by decide +kernel, by decide⟩
set_option maxRecDepth 20000 in
theorem zm_X7_undo : zMV yX7_undo cX7_undo 2 (some .int) 0 := ⟨rfl, zmem 1039 (by decide +kernel) (by decide +kernel), zmem 1037 (by decide +kernel) (by decide +kernel), zmem 1038 (by decide +kernel) (by decide +kernel), zmem 78 (by decide +kernel) (by decide +kernel), ⟨by decide +kernel, by decide +kernel⟩, by decide +kernel, by decide⟩
set_option maxRecDepth 20000 in
theorem zm_X7_waiting : zMV yX7_waiting cX7_waiting 3 (some .int) 2 := ⟨rfl, zmem 1055 (by decide +kernel) (by decide +kernel), zmem 1053 (by decide +kernel) (by decide +kernel), zmem 1054 (by decide +kernel) (by decide +kernel), zmem 78 (by decide +kernel) (by decide +kernel), ⟨by decide +kernel, by decide +kernel⟩, by decide +kernel, by decide⟩
set_option maxRecDepth 20000 in
theorem zm_X7_wouldCover : zMV yX7_wouldCover cX7_wouldCover 3 (some .int) 1 := ⟨rfl, zmem 1076 (by decide +kernel) (by decide +kernel), zmem 1074 (by decide +kernel) (by decide +kernel), zmem 1075 (by decide +kernel) (by decide +kernel), zmem 78 (by decide +kernel) (by decide +kernel), ⟨by decide +kernel, by decide +kernel⟩, by decide +kernel, by decide⟩
set_option maxRecDepth 20000 in
theorem zl_L_13 : Cond.methodLink RL 13 yX6_addDate ∈ zU := zmem 317 (by decide +kernel) (by decide +kernel)
set_option maxRecDepth 20000 in
theorem zl_L_17 : Cond.methodLink RL 17 yX7_addDate ∈ zU := zmem 808 (by decide +kernel) (by decide +kernel)
set_option maxRecDepth 20000 in
theorem zl_L_18 : Cond.methodLink RL 18 yX6_setStage ∈ zU := zmem 356 (by decide +kernel) (by decide +kernel)
set_option maxRecDepth 20000 in
theorem zl_L_22 : Cond.methodLink RL 22 yX7_setStage ∈ zU := zmem 822 (by decide +kernel) (by decide +kernel)
set_option maxRecDepth 20000 in
theorem zl_L_23 : Cond.methodLink RL 23 yX6_set ∈ zU := zmem 372 (by decide +kernel) (by decide +kernel)
set_option maxRecDepth 20000 in
theorem zl_L_27 : Cond.methodLink RL 27 yX7_set ∈ zU := zmem 826 (by decide +kernel) (by decide +kernel)
set_option maxRecDepth 20000 in
theorem zl_L_28 : Cond.methodLink RL 28 yX6_buy ∈ zU := zmem 384 (by decide +kernel) (by decide +kernel)
set_option maxRecDepth 20000 in
theorem zl_L_31 : Cond.methodLink RL 31 yX7_buy ∈ zU := zmem 830 (by decide +kernel) (by decide +kernel)
set_option maxRecDepth 20000 in
theorem zl_L_32 : Cond.methodLink RL 32 yX6_buyOffered ∈ zU := zmem 443 (by decide +kernel) (by decide +kernel)
set_option maxRecDepth 20000 in
theorem zl_L_35 : Cond.methodLink RL 35 yX7_buyOffered ∈ zU := zmem 904 (by decide +kernel) (by decide +kernel)
set_option maxRecDepth 20000 in
theorem zl_L_36 : Cond.methodLink RL 36 yX6_cancel ∈ zU := zmem 455 (by decide +kernel) (by decide +kernel)
set_option maxRecDepth 20000 in
theorem zl_L_40 : Cond.methodLink RL 40 yX7_cancel ∈ zU := zmem 920 (by decide +kernel) (by decide +kernel)
set_option maxRecDepth 20000 in
theorem zl_L_41 : Cond.methodLink RL 41 yX6_offer ∈ zU := zmem 491 (by decide +kernel) (by decide +kernel)
set_option maxRecDepth 20000 in
theorem zl_L_44 : Cond.methodLink RL 44 yX7_offer ∈ zU := zmem 952 (by decide +kernel) (by decide +kernel)
set_option maxRecDepth 20000 in
theorem zl_L_45 : Cond.methodLink RL 45 yX6_takeBack ∈ zU := zmem 499 (by decide +kernel) (by decide +kernel)
set_option maxRecDepth 20000 in
theorem zl_L_48 : Cond.methodLink RL 48 yX7_takeBack ∈ zU := zmem 960 (by decide +kernel) (by decide +kernel)
set_option maxRecDepth 20000 in
theorem zl_L_49 : Cond.methodLink RL 49 yX6_exercise ∈ zU := zmem 507 (by decide +kernel) (by decide +kernel)
set_option maxRecDepth 20000 in
theorem zl_L_52 : Cond.methodLink RL 52 yX7_exercise ∈ zU := zmem 964 (by decide +kernel) (by decide +kernel)
set_option maxRecDepth 20000 in
theorem zl_L_53 : Cond.methodLink RL 53 yX6_await ∈ zU := zmem 523 (by decide +kernel) (by decide +kernel)
set_option maxRecDepth 20000 in
theorem zl_L_56 : Cond.methodLink RL 56 yX7_await ∈ zU := zmem 976 (by decide +kernel) (by decide +kernel)
set_option maxRecDepth 20000 in
theorem zl_L_57 : Cond.methodLink RL 57 yX6_leave ∈ zU := zmem 539 (by decide +kernel) (by decide +kernel)
set_option maxRecDepth 20000 in
theorem zl_L_60 : Cond.methodLink RL 60 yX7_leave ∈ zU := zmem 984 (by decide +kernel) (by decide +kernel)
set_option maxRecDepth 20000 in
theorem zl_L_61 : Cond.methodLink RL 61 yX6_pass ∈ zU := zmem 547 (by decide +kernel) (by decide +kernel)
set_option maxRecDepth 20000 in
theorem zl_L_64 : Cond.methodLink RL 64 yX7_pass ∈ zU := zmem 988 (by decide +kernel) (by decide +kernel)
set_option maxRecDepth 20000 in
theorem zl_L_65 : Cond.methodLink RL 65 yX6_type ∈ zU := zmem 579 (by decide +kernel) (by decide +kernel)
set_option maxRecDepth 20000 in
theorem zl_L_69 : Cond.methodLink RL 69 yX7_type ∈ zU := zmem 1004 (by decide +kernel) (by decide +kernel)
set_option maxRecDepth 20000 in
theorem zl_L_70 : Cond.methodLink RL 70 yX6_clearText ∈ zU := zmem 587 (by decide +kernel) (by decide +kernel)
set_option maxRecDepth 20000 in
theorem zl_L_74 : Cond.methodLink RL 74 yX7_clearText ∈ zU := zmem 1008 (by decide +kernel) (by decide +kernel)
set_option maxRecDepth 20000 in
theorem zl_L_75 : Cond.methodLink RL 75 yX6_perform ∈ zU := zmem 595 (by decide +kernel) (by decide +kernel)
set_option maxRecDepth 20000 in
theorem zl_L_78 : Cond.methodLink RL 78 yX7_perform ∈ zU := zmem 1012 (by decide +kernel) (by decide +kernel)
set_option maxRecDepth 20000 in
theorem zl_L_79 : Cond.methodLink RL 79 yX6_undo ∈ zU := zmem 647 (by decide +kernel) (by decide +kernel)
set_option maxRecDepth 20000 in
theorem zl_L_82 : Cond.methodLink RL 82 yX7_undo ∈ zU := zmem 1036 (by decide +kernel) (by decide +kernel)
set_option maxRecDepth 20000 in
theorem zl_L_83 : Cond.methodLink RL 83 yX6_keep ∈ zU := zmem 655 (by decide +kernel) (by decide +kernel)
set_option maxRecDepth 20000 in
theorem zl_L_86 : Cond.methodLink RL 86 yX7_keep ∈ zU := zmem 1040 (by decide +kernel) (by decide +kernel)
set_option maxRecDepth 20000 in
theorem zl_L_87 : Cond.methodLink RL 87 yX6_restore ∈ zU := zmem 659 (by decide +kernel) (by decide +kernel)
set_option maxRecDepth 20000 in
theorem zl_L_90 : Cond.methodLink RL 90 yX7_restore ∈ zU := zmem 1044 (by decide +kernel) (by decide +kernel)
set_option maxRecDepth 20000 in
theorem zl_L_91 : Cond.methodLink RL 91 yX6_date ∈ zU := zmem 663 (by decide +kernel) (by decide +kernel)
set_option maxRecDepth 20000 in
theorem zl_L_94 : Cond.methodLink RL 94 yX7_date ∈ zU := zmem 1048 (by decide +kernel) (by decide +kernel)
set_option maxRecDepth 20000 in
theorem zl_L_95 : Cond.methodLink RL 95 yX6_waiting ∈ zU := zmem 676 (by decide +kernel) (by decide +kernel)
set_option maxRecDepth 20000 in
theorem zl_L_98 : Cond.methodLink RL 98 yX7_waiting ∈ zU := zmem 1052 (by decide +kernel) (by decide +kernel)
set_option maxRecDepth 20000 in
theorem zl_L_99 : Cond.methodLink RL 99 yX6_right ∈ zU := zmem 681 (by decide +kernel) (by decide +kernel)
set_option maxRecDepth 20000 in
theorem zl_L_102 : Cond.methodLink RL 102 yX7_right ∈ zU := zmem 1056 (by decide +kernel) (by decide +kernel)
set_option maxRecDepth 20000 in
theorem zl_L_103 : Cond.methodLink RL 103 yX6_holder ∈ zU := zmem 694 (by decide +kernel) (by decide +kernel)
set_option maxRecDepth 20000 in
theorem zl_L_106 : Cond.methodLink RL 106 yX7_holder ∈ zU := zmem 1060 (by decide +kernel) (by decide +kernel)
set_option maxRecDepth 20000 in
theorem zl_L_107 : Cond.methodLink RL 107 yX6_stage ∈ zU := zmem 712 (by decide +kernel) (by decide +kernel)
set_option maxRecDepth 20000 in
theorem zl_L_110 : Cond.methodLink RL 110 yX7_stage ∈ zU := zmem 1065 (by decide +kernel) (by decide +kernel)
set_option maxRecDepth 20000 in
theorem zl_L_111 : Cond.methodLink RL 111 yX6_priceIn ∈ zU := zmem 720 (by decide +kernel) (by decide +kernel)
set_option maxRecDepth 20000 in
theorem zl_L_114 : Cond.methodLink RL 114 yX7_priceIn ∈ zU := zmem 1069 (by decide +kernel) (by decide +kernel)
set_option maxRecDepth 20000 in
theorem zl_L_115 : Cond.methodLink RL 115 yX6_wouldCover ∈ zU := zmem 727 (by decide +kernel) (by decide +kernel)
set_option maxRecDepth 20000 in
theorem zl_L_118 : Cond.methodLink RL 118 yX7_wouldCover ∈ zU := zmem 1073 (by decide +kernel) (by decide +kernel)
set_option maxRecDepth 20000 in
theorem zl_L_119 : Cond.methodLink RL 119 yX6_event ∈ zU := zmem 732 (by decide +kernel) (by decide +kernel)
set_option maxRecDepth 20000 in
theorem zl_L_122 : Cond.methodLink RL 122 yX7_event ∈ zU := zmem 1077 (by decide +kernel) (by decide +kernel)
set_option maxRecDepth 20000 in
theorem zl_L_123 : Cond.methodLink RL 123 yX6_count ∈ zU := zmem 744 (by decide +kernel) (by decide +kernel)
set_option maxRecDepth 20000 in
theorem zl_L_126 : Cond.methodLink RL 126 yX7_count ∈ zU := zmem 1081 (by decide +kernel) (by decide +kernel)
set_option maxRecDepth 20000 in
theorem zl_X2_22 : Cond.methodLink RX2 22 yX5_copyFrom ∈ zU := zmem 325 (by decide +kernel) (by decide +kernel)
set_option maxRecDepth 20000 in
theorem zl_X2_30 : Cond.methodLink RX2 30 Lib.Math.min.name ∈ zU := zmem 353 (by decide +kernel) (by decide +kernel)
set_option maxRecDepth 20000 in
theorem zl_X3_19 : Cond.methodLink RX3 19 yX3_goToStart ∈ zU := zmem 603 (by decide +kernel) (by decide +kernel)
set_option maxRecDepth 20000 in
theorem zl_X3_22 : Cond.methodLink RX3 22 yX3_readOrder ∈ zU := zmem 607 (by decide +kernel) (by decide +kernel)
set_option maxRecDepth 20000 in
theorem zl_X3_29 : Cond.methodLink RX3 29 yX3_skip ∈ zU := zmem 615 (by decide +kernel) (by decide +kernel)
set_option maxRecDepth 20000 in
theorem zl_X3_33 : Cond.methodLink RX3 33 yX3_here ∈ zU := zmem 611 (by decide +kernel) (by decide +kernel)
set_option maxRecDepth 20000 in
theorem zl_X3_40 : Cond.methodLink RX3 40 yX3_readHolderAndDate ∈ zU := zmem 619 (by decide +kernel) (by decide +kernel)
set_option maxRecDepth 20000 in
theorem zl_X3_43 : Cond.methodLink RX3 43 yX3_readRight ∈ zU := zmem 631 (by decide +kernel) (by decide +kernel)
set_option maxRecDepth 20000 in
theorem zl_X3_46 : Cond.methodLink RX3 46 yX3_readPrice ∈ zU := zmem 635 (by decide +kernel) (by decide +kernel)
set_option maxRecDepth 20000 in
theorem zl_X3_49 : Cond.methodLink RX3 49 yX3_isDigitHere ∈ zU := zmem 623 (by decide +kernel) (by decide +kernel)
set_option maxRecDepth 20000 in
theorem zl_X3_52 : Cond.methodLink RX3 52 yX3_takeDigit ∈ zU := zmem 627 (by decide +kernel) (by decide +kernel)
set_option maxRecDepth 20000 in
theorem zl_X5_72 : Cond.methodLink RX5 72 yX0_copyFrom ∈ zU := zmem 332 (by decide +kernel) (by decide +kernel)
set_option maxRecDepth 20000 in
theorem zl_X5_79 : Cond.methodLink RX5 79 yX4_copyFrom ∈ zU := zmem 337 (by decide +kernel) (by decide +kernel)
set_option maxRecDepth 20000 in
theorem zl_X5_88 : Cond.methodLink RX5 88 yX1_copyFrom ∈ zU := zmem 341 (by decide +kernel) (by decide +kernel)
set_option maxRecDepth 20000 in
theorem zl_X5_110 : Cond.methodLink RX5 110 yX5_isStage ∈ zU := zmem 364 (by decide +kernel) (by decide +kernel)
set_option maxRecDepth 20000 in
theorem zl_X5_114 : Cond.methodLink RX5 114 yX5_fitsStage ∈ zU := zmem 368 (by decide +kernel) (by decide +kernel)
set_option maxRecDepth 20000 in
theorem zl_X5_124 : Cond.methodLink RX5 124 yX5_dateRow ∈ zU := zmem 392 (by decide +kernel) (by decide +kernel)
set_option maxRecDepth 20000 in
theorem zl_X5_131 : Cond.methodLink RX5 131 yX5_isOpen ∈ zU := zmem 399 (by decide +kernel) (by decide +kernel)
set_option maxRecDepth 20000 in
theorem zl_X5_135 : Cond.methodLink RX5 135 yX5_sell ∈ zU := zmem 403 (by decide +kernel) (by decide +kernel)
set_option maxRecDepth 20000 in
theorem zl_X5_139 : Cond.methodLink RX5 139 yX5_cheapestOffered ∈ zU := zmem 451 (by decide +kernel) (by decide +kernel)
set_option maxRecDepth 20000 in
theorem zl_X5_149 : Cond.methodLink RX5 149 yX5_give ∈ zU := zmem 435 (by decide +kernel) (by decide +kernel)
set_option maxRecDepth 20000 in
theorem zl_X5_156 : Cond.methodLink RX5 156 yX4_turnTo ∈ zU := zmem 431 (by decide +kernel) (by decide +kernel)
set_option maxRecDepth 20000 in
theorem zl_X5_159 : Cond.methodLink RX5 159 yX5_log ∈ zU := zmem 439 (by decide +kernel) (by decide +kernel)
set_option maxRecDepth 20000 in
theorem zl_X5_164 : Cond.methodLink RX5 164 yX5_rightRow ∈ zU := zmem 463 (by decide +kernel) (by decide +kernel)
set_option maxRecDepth 20000 in
theorem zl_X5_168 : Cond.methodLink RX5 168 yX5_refund ∈ zU := zmem 467 (by decide +kernel) (by decide +kernel)
set_option maxRecDepth 20000 in
theorem zl_X5_175 : Cond.methodLink RX5 175 yX5_letListBuy ∈ zU := zmem 479 (by decide +kernel) (by decide +kernel)
set_option maxRecDepth 20000 in
theorem zl_X5_178 : Cond.methodLink RX5 178 yX4_isHeldOrOffered ∈ zU := zmem 471 (by decide +kernel) (by decide +kernel)
set_option maxRecDepth 20000 in
theorem zl_X5_185 : Cond.methodLink RX5 185 yX5_canBeExercised ∈ zU := zmem 515 (by decide +kernel) (by decide +kernel)
set_option maxRecDepth 20000 in
theorem zl_X5_189 : Cond.methodLink RX5 189 yX5_rightsIn ∈ zU := zmem 519 (by decide +kernel) (by decide +kernel)
set_option maxRecDepth 20000 in
theorem zl_X5_193 : Cond.methodLink RX5 193 yX0_placeOf ∈ zU := zmem 531 (by decide +kernel) (by decide +kernel)
set_option maxRecDepth 20000 in
theorem zl_X5_197 : Cond.methodLink RX5 197 yX0_appendToList ∈ zU := zmem 535 (by decide +kernel) (by decide +kernel)
set_option maxRecDepth 20000 in
theorem zl_X5_200 : Cond.methodLink RX5 200 yX0_removeFromList ∈ zU := zmem 487 (by decide +kernel) (by decide +kernel)
set_option maxRecDepth 20000 in
theorem zl_X5_203 : Cond.methodLink RX5 203 yX5_passOneDay ∈ zU := zmem 555 (by decide +kernel) (by decide +kernel)
set_option maxRecDepth 20000 in
theorem zl_X5_207 : Cond.methodLink RX5 207 yX5_daysLeft ∈ zU := zmem 411 (by decide +kernel) (by decide +kernel)
set_option maxRecDepth 20000 in
theorem zl_X5_211 : Cond.methodLink RX5 211 yX5_endDate ∈ zU := zmem 559 (by decide +kernel) (by decide +kernel)
set_option maxRecDepth 20000 in
theorem zl_X5_214 : Cond.methodLink RX5 214 yX5_coverRightsOf ∈ zU := zmem 563 (by decide +kernel) (by decide +kernel)
set_option maxRecDepth 20000 in
theorem zl_X5_220 : Cond.methodLink RX5 220 yX5_rightsOut ∈ zU := zmem 415 (by decide +kernel) (by decide +kernel)
set_option maxRecDepth 20000 in
theorem zl_X5_223 : Cond.methodLink RX5 223 yX5_nextToCover ∈ zU := zmem 567 (by decide +kernel) (by decide +kernel)
set_option maxRecDepth 20000 in
theorem zl_X5_226 : Cond.methodLink RX5 226 yX5_coverOne ∈ zU := zmem 575 (by decide +kernel) (by decide +kernel)
set_option maxRecDepth 20000 in
theorem zl_X5_229 : Cond.methodLink RX5 229 yX5_cheapestHeld ∈ zU := zmem 571 (by decide +kernel) (by decide +kernel)
set_option maxRecDepth 20000 in
theorem zl_X5_232 : Cond.methodLink RX5 232 yX0_waitingAt ∈ zU := zmem 483 (by decide +kernel) (by decide +kernel)
set_option maxRecDepth 20000 in
theorem zl_X5_235 : Cond.methodLink RX5 235 yX5_sellable ∈ zU := zmem 407 (by decide +kernel) (by decide +kernel)
set_option maxRecDepth 20000 in
theorem zl_X5_238 : Cond.methodLink RX5 238 yX5_priceNow ∈ zU := zmem 423 (by decide +kernel) (by decide +kernel)
set_option maxRecDepth 20000 in
theorem zl_X5_244 : Cond.methodLink RX5 244 Lib.Math.min.name ∈ zU := zmem 419 (by decide +kernel) (by decide +kernel)
set_option maxRecDepth 20000 in
theorem zl_X5_250 : Cond.methodLink RX5 250 Lib.Math.max.name ∈ zU := zmem 420 (by decide +kernel) (by decide +kernel)
set_option maxRecDepth 20000 in
theorem zl_X5_253 : Cond.methodLink RX5 253 yX0_priceFor ∈ zU := zmem 427 (by decide +kernel) (by decide +kernel)
set_option maxRecDepth 20000 in
theorem zl_X5_266 : Cond.methodLink RX5 266 yX5_stageOf ∈ zU := zmem 475 (by decide +kernel) (by decide +kernel)
set_option maxRecDepth 20000 in
theorem zl_X5_269 : Cond.methodLink RX5 269 yX5_lowestAsking ∈ zU := zmem 672 (by decide +kernel) (by decide +kernel)
set_option maxRecDepth 20000 in
theorem zl_X5_272 : Cond.methodLink RX5 272 yX5_tellExercisable ∈ zU := zmem 690 (by decide +kernel) (by decide +kernel)
set_option maxRecDepth 20000 in
theorem zl_X5_276 : Cond.methodLink RX5 276 yX5_rightsOfHolder ∈ zU := zmem 704 (by decide +kernel) (by decide +kernel)
set_option maxRecDepth 20000 in
theorem zl_X5_279 : Cond.methodLink RX5 279 yX5_listsWith ∈ zU := zmem 708 (by decide +kernel) (by decide +kernel)
set_option maxRecDepth 20000 in
theorem zl_X5_282 : Cond.methodLink RX5 282 yX5_rightsInAll ∈ zU := zmem 752 (by decide +kernel) (by decide +kernel)
set_option maxRecDepth 20000 in
theorem zl_X6_33 : Cond.methodLink RX6 33 yX2_prepare ∈ zU := zmem 321 (by decide +kernel) (by decide +kernel)
set_option maxRecDepth 20000 in
theorem zl_X6_37 : Cond.methodLink RX6 37 yX5_openDate ∈ zU := zmem 345 (by decide +kernel) (by decide +kernel)
set_option maxRecDepth 20000 in
theorem zl_X6_41 : Cond.methodLink RX6 41 yX2_settle ∈ zU := zmem 349 (by decide +kernel) (by decide +kernel)
set_option maxRecDepth 20000 in
theorem zl_X6_45 : Cond.methodLink RX6 45 yX5_changeStage ∈ zU := zmem 360 (by decide +kernel) (by decide +kernel)
set_option maxRecDepth 20000 in
theorem zl_X6_49 : Cond.methodLink RX6 49 yX5_changeNumber ∈ zU := zmem 376 (by decide +kernel) (by decide +kernel)
set_option maxRecDepth 20000 in
theorem zl_X6_53 : Cond.methodLink RX6 53 yX5_sellTo ∈ zU := zmem 388 (by decide +kernel) (by decide +kernel)
set_option maxRecDepth 20000 in
theorem zl_X6_56 : Cond.methodLink RX6 56 yX5_resellTo ∈ zU := zmem 447 (by decide +kernel) (by decide +kernel)
set_option maxRecDepth 20000 in
theorem zl_X6_59 : Cond.methodLink RX6 59 yX5_cancelRight ∈ zU := zmem 459 (by decide +kernel) (by decide +kernel)
set_option maxRecDepth 20000 in
theorem zl_X6_62 : Cond.methodLink RX6 62 yX5_offerRight ∈ zU := zmem 495 (by decide +kernel) (by decide +kernel)
set_option maxRecDepth 20000 in
theorem zl_X6_65 : Cond.methodLink RX6 65 yX5_withdrawOffer ∈ zU := zmem 503 (by decide +kernel) (by decide +kernel)
set_option maxRecDepth 20000 in
theorem zl_X6_68 : Cond.methodLink RX6 68 yX5_exerciseRight ∈ zU := zmem 511 (by decide +kernel) (by decide +kernel)
set_option maxRecDepth 20000 in
theorem zl_X6_71 : Cond.methodLink RX6 71 yX5_joinList ∈ zU := zmem 527 (by decide +kernel) (by decide +kernel)
set_option maxRecDepth 20000 in
theorem zl_X6_74 : Cond.methodLink RX6 74 yX5_quitList ∈ zU := zmem 543 (by decide +kernel) (by decide +kernel)
set_option maxRecDepth 20000 in
theorem zl_X6_77 : Cond.methodLink RX6 77 yX5_passDays ∈ zU := zmem 551 (by decide +kernel) (by decide +kernel)
set_option maxRecDepth 20000 in
theorem zl_X6_80 : Cond.methodLink RX6 80 yX3_append ∈ zU := zmem 583 (by decide +kernel) (by decide +kernel)
set_option maxRecDepth 20000 in
theorem zl_X6_84 : Cond.methodLink RX6 84 yX3_empty ∈ zU := zmem 591 (by decide +kernel) (by decide +kernel)
set_option maxRecDepth 20000 in
theorem zl_X6_88 : Cond.methodLink RX6 88 yX3_countOrders ∈ zU := zmem 599 (by decide +kernel) (by decide +kernel)
set_option maxRecDepth 20000 in
theorem zl_X6_91 : Cond.methodLink RX6 91 yX3_goToStart ∈ zU := zmem 639 (by decide +kernel) (by decide +kernel)
set_option maxRecDepth 20000 in
theorem zl_X6_94 : Cond.methodLink RX6 94 yX6_performNext ∈ zU := zmem 640 (by decide +kernel) (by decide +kernel)
set_option maxRecDepth 20000 in
theorem zl_X6_100 : Cond.methodLink RX6 100 yX5_copyFrom ∈ zU := zmem 646 (by decide +kernel) (by decide +kernel)
set_option maxRecDepth 20000 in
theorem zl_X6_103 : Cond.methodLink RX6 103 yX2_takeLatest ∈ zU := zmem 651 (by decide +kernel) (by decide +kernel)
set_option maxRecDepth 20000 in
theorem zl_X6_118 : Cond.methodLink RX6 118 yX5_dateRow ∈ zU := zmem 667 (by decide +kernel) (by decide +kernel)
set_option maxRecDepth 20000 in
theorem zl_X6_122 : Cond.methodLink RX6 122 yX5_tellOfDate ∈ zU := zmem 668 (by decide +kernel) (by decide +kernel)
set_option maxRecDepth 20000 in
theorem zl_X6_126 : Cond.methodLink RX6 126 yX0_waitingAt ∈ zU := zmem 680 (by decide +kernel) (by decide +kernel)
set_option maxRecDepth 20000 in
theorem zl_X6_131 : Cond.methodLink RX6 131 yX5_rightRow ∈ zU := zmem 685 (by decide +kernel) (by decide +kernel)
set_option maxRecDepth 20000 in
theorem zl_X6_135 : Cond.methodLink RX6 135 yX5_tellOfRight ∈ zU := zmem 686 (by decide +kernel) (by decide +kernel)
set_option maxRecDepth 20000 in
theorem zl_X6_139 : Cond.methodLink RX6 139 yX6_isHolder ∈ zU := zmem 698 (by decide +kernel) (by decide +kernel)
set_option maxRecDepth 20000 in
theorem zl_X6_143 : Cond.methodLink RX6 143 yX5_tellOfHolder ∈ zU := zmem 699 (by decide +kernel) (by decide +kernel)
set_option maxRecDepth 20000 in
theorem zl_X6_146 : Cond.methodLink RX6 146 yX5_tellOfStage ∈ zU := zmem 716 (by decide +kernel) (by decide +kernel)
set_option maxRecDepth 20000 in
theorem zl_X6_149 : Cond.methodLink RX6 149 yX5_daysLeft ∈ zU := zmem 724 (by decide +kernel) (by decide +kernel)
set_option maxRecDepth 20000 in
theorem zl_X6_153 : Cond.methodLink RX6 153 yX5_rightsOut ∈ zU := zmem 725 (by decide +kernel) (by decide +kernel)
set_option maxRecDepth 20000 in
theorem zl_X6_156 : Cond.methodLink RX6 156 yX0_priceFor ∈ zU := zmem 726 (by decide +kernel) (by decide +kernel)
set_option maxRecDepth 20000 in
theorem zl_X6_163 : Cond.methodLink RX6 163 yX5_coverRightsOf ∈ zU := zmem 731 (by decide +kernel) (by decide +kernel)
set_option maxRecDepth 20000 in
theorem zl_X6_166 : Cond.methodLink RX6 166 yX5_eventRow ∈ zU := zmem 736 (by decide +kernel) (by decide +kernel)
set_option maxRecDepth 20000 in
theorem zl_X6_170 : Cond.methodLink RX6 170 yX1_tell ∈ zU := zmem 740 (by decide +kernel) (by decide +kernel)
set_option maxRecDepth 20000 in
theorem zl_X6_178 : Cond.methodLink RX6 178 yX5_tellCount ∈ zU := zmem 748 (by decide +kernel) (by decide +kernel)
set_option maxRecDepth 20000 in
theorem zl_X6_181 : Cond.methodLink RX6 181 yX3_readOrder ∈ zU := zmem 644 (by decide +kernel) (by decide +kernel)
set_option maxRecDepth 20000 in
theorem zl_X6_185 : Cond.methodLink RX6 185 yX3_skip ∈ zU := zmem 645 (by decide +kernel) (by decide +kernel)
set_option maxRecDepth 20000 in
theorem zl_X7_35 : Cond.methodLink RX7 35 yX7_in ∈ zU := zmem 812 (by decide +kernel) (by decide +kernel)
set_option maxRecDepth 20000 in
theorem zl_X7_39 : Cond.methodLink RX7 39 yX7_dateAt ∈ zU := zmem 819 (by decide +kernel) (by decide +kernel)
set_option maxRecDepth 20000 in
theorem zl_X7_43 : Cond.methodLink RX7 43 yX7_rightAt ∈ zU := zmem 877 (by decide +kernel) (by decide +kernel)
set_option maxRecDepth 20000 in
theorem zl_X7_46 : Cond.methodLink RX7 46 yX7_ofDate ∈ zU := zmem 857 (by decide +kernel) (by decide +kernel)
set_option maxRecDepth 20000 in
theorem zl_X7_49 : Cond.methodLink RX7 49 yX7_daysLeft ∈ zU := zmem 853 (by decide +kernel) (by decide +kernel)
set_option maxRecDepth 20000 in
theorem zl_X7_53 : Cond.methodLink RX7 53 yX7_of ∈ zU := zmem 873 (by decide +kernel) (by decide +kernel)
set_option maxRecDepth 20000 in
theorem zl_X7_56 : Cond.methodLink RX7 56 yX7_rightsOf ∈ zU := zmem 869 (by decide +kernel) (by decide +kernel)
set_option maxRecDepth 20000 in
theorem zl_X7_60 : Cond.methodLink RX7 60 yX7_out ∈ zU := zmem 865 (by decide +kernel) (by decide +kernel)
set_option maxRecDepth 20000 in
theorem zl_X7_63 : Cond.methodLink RX7 63 yX7_isOpen ∈ zU := zmem 849 (by decide +kernel) (by decide +kernel)
set_option maxRecDepth 20000 in
theorem zl_X7_67 : Cond.methodLink RX7 67 yX7_price ∈ zU := zmem 884 (by decide +kernel) (by decide +kernel)
set_option maxRecDepth 20000 in
theorem zl_X7_70 : Cond.methodLink RX7 70 yX7_pays ∈ zU := zmem 888 (by decide +kernel) (by decide +kernel)
set_option maxRecDepth 20000 in
theorem zl_X7_74 : Cond.methodLink RX7 74 yX7_log ∈ zU := zmem 892 (by decide +kernel) (by decide +kernel)
set_option maxRecDepth 20000 in
theorem zl_X7_78 : Cond.methodLink RX7 78 yX7_canSell ∈ zU := zmem 861 (by decide +kernel) (by decide +kernel)
set_option maxRecDepth 20000 in
theorem zl_X7_81 : Cond.methodLink RX7 81 yX7_dropFirst ∈ zU := zmem 948 (by decide +kernel) (by decide +kernel)
set_option maxRecDepth 20000 in
theorem zl_X7_84 : Cond.methodLink RX7 84 yX7_sells ∈ zU := zmem 880 (by decide +kernel) (by decide +kernel)
set_option maxRecDepth 20000 in
theorem zl_X7_87 : Cond.methodLink RX7 87 yX7_stageOf ∈ zU := zmem 940 (by decide +kernel) (by decide +kernel)
set_option maxRecDepth 20000 in
theorem zl_X7_90 : Cond.methodLink RX7 90 yX7_isHolder ∈ zU := zmem 842 (by decide +kernel) (by decide +kernel)
set_option maxRecDepth 20000 in
theorem zl_X7_93 : Cond.methodLink RX7 93 yX7_isDate ∈ zU := zmem 845 (by decide +kernel) (by decide +kernel)
set_option maxRecDepth 20000 in
theorem zl_X7_96 : Cond.methodLink RX7 96 yX7_lowest ∈ zU := zmem 912 (by decide +kernel) (by decide +kernel)
set_option maxRecDepth 20000 in
theorem zl_X7_99 : Cond.methodLink RX7 99 yX7_becomes ∈ zU := zmem 916 (by decide +kernel) (by decide +kernel)
set_option maxRecDepth 20000 in
theorem zl_X7_102 : Cond.methodLink RX7 102 yX7_isRight ∈ zU := zmem 928 (by decide +kernel) (by decide +kernel)
set_option maxRecDepth 20000 in
theorem zl_X7_105 : Cond.methodLink RX7 105 yX7_isFree ∈ zU := zmem 932 (by decide +kernel) (by decide +kernel)
set_option maxRecDepth 20000 in
theorem zl_X7_108 : Cond.methodLink RX7 108 yX7_refund ∈ zU := zmem 936 (by decide +kernel) (by decide +kernel)
set_option maxRecDepth 20000 in
theorem zl_X7_111 : Cond.methodLink RX7 111 yX7_listBuys ∈ zU := zmem 944 (by decide +kernel) (by decide +kernel)
set_option maxRecDepth 20000 in
theorem zl_X7_115 : Cond.methodLink RX7 115 yX7_canExercise ∈ zU := zmem 972 (by decide +kernel) (by decide +kernel)
set_option maxRecDepth 20000 in
theorem zl_X7_118 : Cond.methodLink RX7 118 yX7_lapses ∈ zU := zmem 996 (by decide +kernel) (by decide +kernel)
set_option maxRecDepth 20000 in
theorem zl_X7_121 : Cond.methodLink RX7 121 yX7_covers ∈ zU := zmem 1000 (by decide +kernel) (by decide +kernel)
set_option maxRecDepth 20000 in
theorem zl_X7_124 : Cond.methodLink RX7 124 yX7_record ∈ zU := zmem 815 (by decide +kernel) (by decide +kernel)
set_option maxRecDepth 20000 in
theorem zl_X7_127 : Cond.methodLink RX7 127 yX7_bringBack ∈ zU := zmem 900 (by decide +kernel) (by decide +kernel)
set_option maxRecDepth 20000 in
theorem zl_X7_130 : Cond.methodLink RX7 130 yX7_aside ∈ zU := zmem 834 (by decide +kernel) (by decide +kernel)
set_option maxRecDepth 20000 in
theorem zl_X7_133 : Cond.methodLink RX7 133 yX7_doBuy ∈ zU := zmem 838 (by decide +kernel) (by decide +kernel)
set_option maxRecDepth 20000 in
theorem zl_X7_136 : Cond.methodLink RX7 136 yX7_acted ∈ zU := zmem 896 (by decide +kernel) (by decide +kernel)
set_option maxRecDepth 20000 in
theorem zl_X7_139 : Cond.methodLink RX7 139 yX7_doBuyOffered ∈ zU := zmem 908 (by decide +kernel) (by decide +kernel)
set_option maxRecDepth 20000 in
theorem zl_X7_142 : Cond.methodLink RX7 142 yX7_doCancel ∈ zU := zmem 924 (by decide +kernel) (by decide +kernel)
set_option maxRecDepth 20000 in
theorem zl_X7_145 : Cond.methodLink RX7 145 yX7_doOffer ∈ zU := zmem 956 (by decide +kernel) (by decide +kernel)
set_option maxRecDepth 20000 in
theorem zl_X7_148 : Cond.methodLink RX7 148 yX7_doExercise ∈ zU := zmem 968 (by decide +kernel) (by decide +kernel)
set_option maxRecDepth 20000 in
theorem zl_X7_151 : Cond.methodLink RX7 151 yX7_placeOf ∈ zU := zmem 980 (by decide +kernel) (by decide +kernel)
set_option maxRecDepth 20000 in
theorem zl_X7_154 : Cond.methodLink RX7 154 yX7_oneDay ∈ zU := zmem 992 (by decide +kernel) (by decide +kernel)
set_option maxRecDepth 20000 in
theorem zl_X7_170 : Cond.methodLink RX7 170 yX7_sign ∈ zU := zmem 1024 (by decide +kernel) (by decide +kernel)
set_option maxRecDepth 20000 in
theorem zl_X7_173 : Cond.methodLink RX7 173 yX7_readNumber ∈ zU := zmem 1028 (by decide +kernel) (by decide +kernel)
set_option maxRecDepth 20000 in
theorem zl_X7_182 : Cond.methodLink RX7 182 yX7_readOrder ∈ zU := zmem 1020 (by decide +kernel) (by decide +kernel)
set_option maxRecDepth 20000 in
theorem zl_X7_186 : Cond.methodLink RX7 186 yX7_isGood ∈ zU := zmem 1016 (by decide +kernel) (by decide +kernel)
set_option maxRecDepth 20000 in
theorem zl_X7_189 : Cond.methodLink RX7 189 yX7_doOrder ∈ zU := zmem 1032 (by decide +kernel) (by decide +kernel)
set_option maxRecDepth 20000 in
theorem zmath_min : Cond.static Lib.Math.min.name ∈ zU ∧ Cond.code Lib.Math.min.name Lib.Math.min.code 2 (some .int) ∈ zU := ⟨zmem 354 (by decide +kernel) (by decide +kernel), zmem 355 (by decide +kernel) (by decide +kernel)⟩
set_option maxRecDepth 20000 in
theorem zmath_max : Cond.static Lib.Math.max.name ∈ zU ∧ Cond.code Lib.Math.max.name Lib.Math.max.code 2 (some .int) ∈ zU := ⟨zmem 421 (by decide +kernel) (by decide +kernel), zmem 422 (by decide +kernel) (by decide +kernel)⟩
set_option maxRecDepth 20000 in
theorem zmath_ini : Cond.initialized "java/lang/Math" ∈ zU := zmem 79 (by decide +kernel) (by decide +kernel)
/-- the words of nest mates -/
def zN : List Cond := [Cond.fieldLinkNest RX5 9 "RightsDesk" "FIRST_NUMBERS" "[I" "RightsDesk", Cond.fieldLinkNest RX5 23 "RightsDesk" "FIRST_STAGE_DAYS" "[I" "RightsDesk", Cond.fieldLinkNest RX5 29 "RightsDesk" "FIRST_STAGE_FEES" "[I" "RightsDesk", Cond.fieldLinkNest RX5 118 "RightsDesk" "LEAST_NUMBERS" "[I" "RightsDesk", Cond.fieldLinkNest RX5 121 "RightsDesk" "MOST_NUMBERS" "[I" "RightsDesk", Cond.methodLinkNest RX0 34 yX6_copyAll "RightsDesk", Cond.methodLinkNest RX5 60 yX1_init "RightsDesk", Cond.methodLinkNest RX5 65 yX6_copyAll "RightsDesk", Cond.methodLinkNest RX5 128 yX6_isHolder "RightsDesk", Cond.methodLinkNest RX6 28 yX3_init "RightsDesk"]
theorem zf_X5_9 : Cond.fieldLinkNest RX5 9 "RightsDesk" "FIRST_NUMBERS" "[I" "RightsDesk" ∈ zN := List.mem_of_getElem? (i := 0) rfl
theorem zf_X5_23 : Cond.fieldLinkNest RX5 23 "RightsDesk" "FIRST_STAGE_DAYS" "[I" "RightsDesk" ∈ zN := List.mem_of_getElem? (i := 1) rfl
theorem zf_X5_29 : Cond.fieldLinkNest RX5 29 "RightsDesk" "FIRST_STAGE_FEES" "[I" "RightsDesk" ∈ zN := List.mem_of_getElem? (i := 2) rfl
theorem zf_X5_118 : Cond.fieldLinkNest RX5 118 "RightsDesk" "LEAST_NUMBERS" "[I" "RightsDesk" ∈ zN := List.mem_of_getElem? (i := 3) rfl
theorem zf_X5_121 : Cond.fieldLinkNest RX5 121 "RightsDesk" "MOST_NUMBERS" "[I" "RightsDesk" ∈ zN := List.mem_of_getElem? (i := 4) rfl
theorem zl_X0_34 : Cond.methodLinkNest RX0 34 yX6_copyAll "RightsDesk" ∈ zN := List.mem_of_getElem? (i := 5) rfl
theorem zl_X5_60 : Cond.methodLinkNest RX5 60 yX1_init "RightsDesk" ∈ zN := List.mem_of_getElem? (i := 6) rfl
theorem zl_X5_65 : Cond.methodLinkNest RX5 65 yX6_copyAll "RightsDesk" ∈ zN := List.mem_of_getElem? (i := 7) rfl
theorem zl_X5_128 : Cond.methodLinkNest RX5 128 yX6_isHolder "RightsDesk" ∈ zN := List.mem_of_getElem? (i := 8) rfl
theorem zl_X6_28 : Cond.methodLinkNest RX6 28 yX3_init "RightsDesk" ∈ zN := List.mem_of_getElem? (i := 9) rfl
set_option maxRecDepth 20000 in
theorem zN_tbl : ∀ w ∈ zN, w ∈ lw_tbl := by
  intro w hw
  simp only [zN, List.mem_cons, List.not_mem_nil, or_false] at hw
  rcases hw with rfl | rfl | rfl | rfl | rfl | rfl | rfl | rfl | rfl | rfl
  · exact List.mem_of_getElem? (i := 94) (by decide +kernel)
  · exact List.mem_of_getElem? (i := 103) (by decide +kernel)
  · exact List.mem_of_getElem? (i := 105) (by decide +kernel)
  · exact List.mem_of_getElem? (i := 380) (by decide +kernel)
  · exact List.mem_of_getElem? (i := 382) (by decide +kernel)
  · exact List.mem_of_getElem? (i := 336) (by decide +kernel)
  · exact List.mem_of_getElem? (i := 190) (by decide +kernel)
  · exact List.mem_of_getElem? (i := 329) (by decide +kernel)
  · exact List.mem_of_getElem? (i := 396) (by decide +kernel)
  · exact List.mem_of_getElem? (i := 273) (by decide +kernel)
def zNest (U : State) : Prop := ∀ w ∈ zN, va_Nw w U
theorem zNest.warm {s U : State} (hW : s.WarmedH U.vm) (h : zNest s) : zNest U := by
  intro w hw
  have h1 := h w hw
  simp only [zN, List.mem_cons, List.not_mem_nil, or_false] at hw
  rcases hw with rfl | rfl | rfl | rfl | rfl | rfl | rfl | rfl | rfl | rfl
  · exact va_Nw.warmF hW h1
  · exact va_Nw.warmF hW h1
  · exact va_Nw.warmF hW h1
  · exact va_Nw.warmF hW h1
  · exact va_Nw.warmF hW h1
  · exact va_Nw.warmM hW h1
  · exact va_Nw.warmM hW h1
  · exact va_Nw.warmM hW h1
  · exact va_Nw.warmM hW h1
  · exact va_Nw.warmM hW h1
theorem zNest.same {u U : State} (h : u.vm = U.vm) (hz : zNest u) : zNest U := by
  intro w hw
  have h1 := hz w hw
  simp only [zN, List.mem_cons, List.not_mem_nil, or_false] at hw
  rcases hw with rfl | rfl | rfl | rfl | rfl | rfl | rfl | rfl | rfl | rfl <;> exact va_Nw.same rfl h h1
