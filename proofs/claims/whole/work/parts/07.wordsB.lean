/-! the methods' words -/
set_option maxRecDepth 100000 in
set_option maxHeartbeats 4000000 in
theorem zmw_56 : (List.range' 56 28).all zmw = true := by decide +kernel
set_option maxRecDepth 100000 in
set_option maxHeartbeats 4000000 in
theorem zmw_84 : (List.range' 84 28).all zmw = true := by decide +kernel
