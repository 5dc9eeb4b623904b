/-! the law's own blocks, checked -/
set_option maxRecDepth 100000 in
set_option maxHeartbeats 4000000 in
theorem zckL_0 : ((zb193.drop 0).take 8).all (fun b => zchkB 193 b.1 b.2) = true := by decide +kernel
set_option maxRecDepth 100000 in
set_option maxHeartbeats 4000000 in
theorem zckL_8 : ((zb193.drop 8).take 8).all (fun b => zchkB 193 b.1 b.2) = true := by decide +kernel
set_option maxRecDepth 100000 in
set_option maxHeartbeats 4000000 in
theorem zckL_16 : ((zb193.drop 16).take 8).all (fun b => zchkB 193 b.1 b.2) = true := by decide +kernel
set_option maxRecDepth 100000 in
set_option maxHeartbeats 4000000 in
theorem zckL_24 : ((zb193.drop 24).take 8).all (fun b => zchkB 193 b.1 b.2) = true := by decide +kernel
set_option maxRecDepth 100000 in
set_option maxHeartbeats 4000000 in
theorem zckL_32 : ((zb193.drop 32).take 8).all (fun b => zchkB 193 b.1 b.2) = true := by decide +kernel
set_option maxRecDepth 100000 in
set_option maxHeartbeats 4000000 in
theorem zckL_40 : ((zb193.drop 40).take 1).all (fun b => zchkB 193 b.1 b.2) = true := by decide +kernel
