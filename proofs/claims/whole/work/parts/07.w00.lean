/-! the methods' words -/
set_option maxRecDepth 100000 in
set_option maxHeartbeats 4000000 in
theorem zmw_0 : (List.range' 0 14).all zmw = true := by decide +kernel
