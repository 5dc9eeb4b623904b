/-! the methods' words -/
set_option maxRecDepth 100000 in
set_option maxHeartbeats 4000000 in
theorem zmw_42 : (List.range' 42 14).all zmw = true := by decide +kernel
