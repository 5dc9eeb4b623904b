/-! the methods' words -/
set_option maxRecDepth 100000 in
set_option maxHeartbeats 4000000 in
theorem zmw_14 : (List.range' 14 14).all zmw = true := by decide +kernel
