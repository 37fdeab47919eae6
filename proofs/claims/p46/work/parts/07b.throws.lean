theorem xf_0 : Bundle.fit "java/lang/IllegalStateException" = true := by decide +kernel
theorem xn_0 : ∀ n ∈ ["java/lang/RuntimeException", "java/lang/Exception"], Bundle.fit n = true := by decide +kernel
theorem xf_1 : Bundle.fit "java/lang/IllegalArgumentException" = true := by decide +kernel
theorem xn_1 : ∀ n ∈ ["java/lang/RuntimeException", "java/lang/Exception"], Bundle.fit n = true := by decide +kernel
theorem xf_2 : Bundle.fit "java/lang/IndexOutOfBoundsException" = true := by decide +kernel
theorem xn_2 : ∀ n ∈ ["java/lang/RuntimeException", "java/lang/Exception"], Bundle.fit n = true := by decide +kernel
theorem xf_3 : Bundle.fit "java/lang/ArithmeticException" = true := by decide +kernel
theorem xn_3 : ∀ n ∈ ["java/lang/RuntimeException", "java/lang/Exception"], Bundle.fit n = true := by decide +kernel
theorem xf_4 : Bundle.fit "java/lang/UnsupportedOperationException" = true := by decide +kernel
theorem xn_4 : ∀ n ∈ ["java/lang/RuntimeException", "java/lang/Exception"], Bundle.fit n = true := by decide +kernel
theorem xf_5 : Bundle.fit "java/util/NoSuchElementException" = true := by decide +kernel
theorem xy_5 : Bundle.fit "java/lang/RuntimeException" = true := by decide +kernel
theorem xn_5 : ∀ n ∈ ["java/lang/Exception"], Bundle.fit n = true := by decide +kernel
theorem ns_0 : decode prog_34_method_4_code 0 = .ok (.aload_n 0, 1) := by decide +kernel
theorem ns_1 : decode prog_34_method_4_code 1 = .ok (.aload_n 1, 1) := by decide +kernel
theorem ns_2 : decode prog_34_method_4_code 2 = .ok (.invokespecial 13, 3) := by decide +kernel
theorem ns_5 : decode prog_34_method_4_code 5 = .ok (.return_, 1) := by decide +kernel
theorem xa_RX4_146 : (vx_atS RX4 146 "java/lang/IllegalArgumentException" ["java/lang/RuntimeException", "java/lang/Exception"]).all (fun w => decide (w ∈ lwA) || decide (w ∈ lwN)) = true := by decide +kernel
theorem xg_RX4_142_146 : (Cond.classLink RX4 142 "java/lang/IllegalArgumentException" :: Cond.initialized "java/lang/IllegalArgumentException" :: vx_atS RX4 146 "java/lang/IllegalArgumentException" ["java/lang/RuntimeException", "java/lang/Exception"]).all vx_ot = true := by decide +kernel
theorem xa_RX4_157 : (nsS RX4 157 "java/util/NoSuchElementException" "java/lang/RuntimeException" 13 prog_34_method_4_code ["java/lang/Exception"]).all (fun w => decide (w ∈ lwA) || decide (w ∈ lwN)) = true := by decide +kernel
theorem xg_RX4_153_157 : (Cond.classLink RX4 153 "java/util/NoSuchElementException" :: Cond.initialized "java/util/NoSuchElementException" :: nsS RX4 157 "java/util/NoSuchElementException" "java/lang/RuntimeException" 13 prog_34_method_4_code ["java/lang/Exception"]).all vx_ot = true := by decide +kernel
theorem xa_RX4_324 : (vx_atS RX4 324 "java/lang/IndexOutOfBoundsException" ["java/lang/RuntimeException", "java/lang/Exception"]).all (fun w => decide (w ∈ lwA) || decide (w ∈ lwN)) = true := by decide +kernel
theorem xg_RX4_320_324 : (Cond.classLink RX4 320 "java/lang/IndexOutOfBoundsException" :: Cond.initialized "java/lang/IndexOutOfBoundsException" :: vx_atS RX4 324 "java/lang/IndexOutOfBoundsException" ["java/lang/RuntimeException", "java/lang/Exception"]).all vx_ot = true := by decide +kernel
theorem xa_RX4_329 : (vx_atS RX4 329 "java/lang/IllegalStateException" ["java/lang/RuntimeException", "java/lang/Exception"]).all (fun w => decide (w ∈ lwA) || decide (w ∈ lwN)) = true := by decide +kernel
theorem xg_RX4_325_329 : (Cond.classLink RX4 325 "java/lang/IllegalStateException" :: Cond.initialized "java/lang/IllegalStateException" :: vx_atS RX4 329 "java/lang/IllegalStateException" ["java/lang/RuntimeException", "java/lang/Exception"]).all vx_ot = true := by decide +kernel
theorem xa_RX4_348 : (vx_atS RX4 348 "java/lang/ArithmeticException" ["java/lang/RuntimeException", "java/lang/Exception"]).all (fun w => decide (w ∈ lwA) || decide (w ∈ lwN)) = true := by decide +kernel
theorem xg_RX4_344_348 : (Cond.classLink RX4 344 "java/lang/ArithmeticException" :: Cond.initialized "java/lang/ArithmeticException" :: vx_atS RX4 348 "java/lang/ArithmeticException" ["java/lang/RuntimeException", "java/lang/Exception"]).all vx_ot = true := by decide +kernel
theorem xa_RX4_376 : (vx_atS RX4 376 "java/lang/UnsupportedOperationException" ["java/lang/RuntimeException", "java/lang/Exception"]).all (fun w => decide (w ∈ lwA) || decide (w ∈ lwN)) = true := by decide +kernel
theorem xg_RX4_372_376 : (Cond.classLink RX4 372 "java/lang/UnsupportedOperationException" :: Cond.initialized "java/lang/UnsupportedOperationException" :: vx_atS RX4 376 "java/lang/UnsupportedOperationException" ["java/lang/RuntimeException", "java/lang/Exception"]).all vx_ot = true := by decide +kernel
