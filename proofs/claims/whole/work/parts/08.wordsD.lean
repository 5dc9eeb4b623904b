/-! other words; the cells -/
def zmth (k : Nat) : MethodName := if k = 10 then Lib.Math.abs.name else if k = 11 then Lib.Math.min.name else Lib.MathLoose.min_long.x
set_option maxRecDepth 100000 in
set_option maxHeartbeats 4000000 in
theorem zML_c : zML.all (fun q => zat (.methodLink (zcN q.1) q.2.1 (zmth q.2.2.1)) q.2.2.2) = true := by decide +kernel
set_option maxRecDepth 100000 in
set_option maxHeartbeats 4000000 in
theorem zMa_c : zat (.static Lib.Math.abs.name) (zMa.getD 0 (0, 0, 0)).1 = true ∧ zat (.code Lib.Math.abs.name Lib.Math.abs.code 1 (some .int)) (zMa.getD 0 (0, 0, 0)).2.1 = true ∧ zat (.initialized "java/lang/Math") (zMa.getD 0 (0, 0, 0)).2.2 = true ∧ zat (.static Lib.Math.min.name) (zMa.getD 1 (0, 0, 0)).1 = true ∧ zat (.code Lib.Math.min.name Lib.Math.min.code 2 (some .int)) (zMa.getD 1 (0, 0, 0)).2.1 = true ∧ zat (.static Lib.MathLoose.min_long.x) (zMa.getD 2 (0, 0, 0)).1 = true ∧ zat (.code Lib.MathLoose.min_long.x Lib.MathLoose.min_long.code 4 (some .long)) (zMa.getD 2 (0, 0, 0)).2.1 = true := by decide +kernel
set_option maxRecDepth 100000 in
set_option maxHeartbeats 4000000 in
theorem zvw_c : vwCl.all (fun c => (u_ws c.1 c.2.1 c.2.2).all (fun w => decide (w ∈ lw_tbl) && goodWord w)) = true := by decide +kernel
def znw : List Cond := zNL.map (fun q => .methodLinkNest (zcN q.1) q.2.1 (zmN q.2.2) "FusionRules")
set_option maxRecDepth 100000 in
set_option maxHeartbeats 4000000 in
theorem znw_c : ∀ w ∈ znw, w ∈ lw_tbl := by decide +kernel
set_option maxRecDepth 100000 in
set_option maxHeartbeats 4000000 in
theorem zsy_c : ∀ w ∈ [Cond.native arraycopyName, Cond.static arraycopyName, Cond.initialized "java/lang/System"], w ∈ zwG := by decide +kernel
/-- the fields of an object's cell: as many as its class has, numbers where they are written -/
def zcok (c : Nat × Int × List Int) : Bool := if c.1 = 3 then decide (0 ≤ c.2.1 ∧ c.2.1 < 7) && (decide (c.2.2.length = (zcl c.2.1.toNat).2.2) && (List.range c.2.2.length).all (fun k => if c.2.2.getD k 0 = -1 then decide (((zcl c.2.1.toNat).2.1 k).2.2 = ("I", false)) else if c.2.2.getD k 0 = -2 then decide (((zcl c.2.1.toNat).2.1 k).2.2 = ("Z", false)) else decide (0 ≤ c.2.2.getD k 0))) else decide (c.1 < 3 ∧ 0 ≤ c.2.1 ∧ c.2.1 < 1000)
theorem zcok_c : zSH.all zcok = true := by decide +kernel
theorem zSH_len : zSH.length = 58 := rfl
