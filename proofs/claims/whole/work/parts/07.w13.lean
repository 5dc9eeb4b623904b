/-! the methods' words -/
set_option maxRecDepth 100000 in
set_option maxHeartbeats 4000000 in
theorem zmw_182 : (List.range' 182 11).all zmw = true := by decide +kernel
