/-! what the throws stand on -/
theorem bad_72 : ∀ w ∈ (vx_atS RX7 72 "java/lang/IllegalArgumentException" ["java/lang/RuntimeException", "java/lang/Exception"]).filter (fun w => !goodWord w), w ∈ Cond.castable "java/lang/IllegalArgumentException" "java/lang/IllegalArgumentException" :: zY3.map (fun x => Cond.declares x) := by decide +kernel
theorem got_72 : ∀ w ∈ Cond.classLink RX7 68 "java/lang/IllegalArgumentException" :: Cond.initialized "java/lang/IllegalArgumentException" :: vx_atS RX7 72 "java/lang/IllegalArgumentException" ["java/lang/RuntimeException", "java/lang/Exception"], vx_ot w = true := by decide +kernel
theorem bad_214 : ∀ w ∈ (vx_atS RX7 214 "java/lang/IllegalStateException" ["java/lang/RuntimeException", "java/lang/Exception"]).filter (fun w => !goodWord w), w ∈ Cond.castable "java/lang/IllegalStateException" "java/lang/IllegalStateException" :: zY3.map (fun x => Cond.declares x) := by decide +kernel
theorem got_214 : ∀ w ∈ Cond.classLink RX7 210 "java/lang/IllegalStateException" :: Cond.initialized "java/lang/IllegalStateException" :: vx_atS RX7 214 "java/lang/IllegalStateException" ["java/lang/RuntimeException", "java/lang/Exception"], vx_ot w = true := by decide +kernel
theorem bad_256 : ∀ w ∈ (vx_atS RX7 256 "java/lang/IndexOutOfBoundsException" ["java/lang/RuntimeException", "java/lang/Exception"]).filter (fun w => !goodWord w), w ∈ Cond.castable "java/lang/IndexOutOfBoundsException" "java/lang/IndexOutOfBoundsException" :: zY3.map (fun x => Cond.declares x) := by decide +kernel
theorem got_256 : ∀ w ∈ Cond.classLink RX7 252 "java/lang/IndexOutOfBoundsException" :: Cond.initialized "java/lang/IndexOutOfBoundsException" :: vx_atS RX7 256 "java/lang/IndexOutOfBoundsException" ["java/lang/RuntimeException", "java/lang/Exception"], vx_ot w = true := by decide +kernel
theorem Cond_str_70 : Cond.stringRef RX7 70 "machines out of range" ∈ tables_1 := by decide +kernel
theorem Cond_str_134 : Cond.stringRef RX7 134 "what out of range" ∈ tables_1 := by decide +kernel
theorem Cond_str_178 : Cond.stringRef RX7 178 "seed or rows out of range" ∈ tables_1 := by decide +kernel
theorem Cond_str_234 : Cond.stringRef RX7 234 "no saved state" ∈ tables_1 := by decide +kernel
theorem Cond_str_254 : Cond.stringRef RX7 254 "no such task or machine" ∈ tables_1 := by decide +kernel
theorem Cond_str_257 : Cond.stringRef RX7 257 "argument out of range" ∈ tables_1 := by decide +kernel
theorem Cond_str_259 : Cond.stringRef RX7 259 "not possible in this state" ∈ tables_1 := by decide +kernel
theorem Cond_str_264 : Cond.stringRef RX7 264 "no such task" ∈ tables_1 := by decide +kernel
theorem Cond_str_266 : Cond.stringRef RX7 266 "contradiction" ∈ tables_1 := by decide +kernel
