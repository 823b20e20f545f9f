/-! desk.field and law.field: thrown and caught -/
def cf_N : String := "java/util/NoSuchElementException"
def cf_L : List Cond := (cx_own RX10 208 cf_N 13 prog_27_method_4_code "java/lang/RuntimeException" ["java/lang/Exception"]).filter vx_no
def cf_dec : List Cond := [.declares (Bundle.initS "java/lang/RuntimeException"), .declares (Bundle.initS "java/lang/Exception"), .declares (Bundle.initS Bundle.tN), .castable cf_N cf_N]
set_option maxRecDepth 100000 in
set_option maxHeartbeats 4000000 in
theorem cf_good : ∀ w ∈ cf_L.filter goodWord, w ∈ lw_tbl := by decide +kernel
set_option maxRecDepth 100000 in
theorem cf_ot : ∀ w ∈ Cond.classLink RX10 204 cf_N :: Cond.initialized cf_N :: cf_L, vx_ot w = true := by decide +kernel
set_option maxRecDepth 100000 in
theorem cf_bad : ∀ w ∈ cf_L.filter (fun w => !goodWord w), w ∈ cf_dec := by decide +kernel
theorem cf_d : ∀ w ∈ cf_dec, w ∈ lw_tbl := by decide +kernel
