/-! the words of the tables, by their places -/
def zcl (ci : Nat) : vw_C := vwCl.getD ci ("", fun _ => ("", "", "", false), 0)
def zat (w : Cond) (p : Nat) : Bool := decide (lw_tbl[p]? = some w) && goodWord w
theorem zat_in {w : Cond} {p : Nat} (h : zat w p = true) : w ∈ zwG := by
  unfold zat at h
  rw [Bool.and_eq_true, decide_eq_true_eq] at h
  exact List.mem_filter.mpr ⟨List.mem_of_getElem? h.1, h.2⟩
theorem zwG_tbl {w : Cond} (h : w ∈ zwG) : w ∈ lw_tbl := (List.mem_filter.mp h).1
theorem zwG_good {w : Cond} (h : w ∈ zwG) : (w.onTables && w.keeps) = true ∨ ∃ ty, w = .arrayClass ty := good_of_word (List.mem_filter.mp h).2
def zfw (o i ci k : Nat) : Cond := .fieldLink (zcN o) i ((zcl ci).2.1 k).1 ((zcl ci).2.1 k).2.1 ((zcl ci).2.1 k).2.2.1
set_option maxRecDepth 100000 in
set_option maxHeartbeats 4000000 in
theorem zFL_c : zFL.all (fun q => zat (zfw q.1 q.2.1 q.2.2.1 q.2.2.2.1) q.2.2.2.2 && (decide (q.2.2.1 < 7) && decide (q.2.2.2.1 < 32))) = true := by decide +kernel
set_option maxRecDepth 100000 in
set_option maxHeartbeats 4000000 in
theorem zCL_c : zCL.all (fun q => zat (.methodLink (zcN q.1) q.2.1 (zmN q.2.2.1)) q.2.2.2) = true := by decide +kernel
set_option maxRecDepth 100000 in
set_option maxHeartbeats 4000000 in
theorem zKI_c : zKI.all (fun q => zat (.constant (zcN q.1) q.2.1 (Int32.ofInt q.2.2.1)) q.2.2.2) = true := by decide +kernel
set_option maxRecDepth 100000 in
set_option maxHeartbeats 4000000 in
theorem zKL_c : zKL.all (fun q => zat (.constantLong (zcN q.1) q.2.1 (Int64.ofInt q.2.2.1)) q.2.2.2) = true := by decide +kernel
set_option maxRecDepth 100000 in
set_option maxHeartbeats 4000000 in
theorem zCP_c : zCP.all (fun q => zat (.methodLink (zcN q.1) q.2.1 arraycopyName) q.2.2) = true := by decide +kernel
def zret (k : Nat) (r : Option FieldType) : Bool := match k, r with
  | 0, none => true
  | 1, some .int => true
  | 2, some .long => true
  | 3, some (.object _) => true
  | 4, some .boolean => true
  | _, _ => false
def zmw (z : Nat) : Bool := let q := zMW.getD z (0, 0, 0, 0)
  zat (.code (zmN z) (zmC z) (zmL z) (zmR z)) q.1 && ((if zmS z = 1 then zat (.static (zmN z)) q.2.1 else zat (.instanceMethod (zmN z)) q.2.1 && zat (.selects (zmN z).cls (zmN z) (zmN z)) q.2.2.1) && (zat (.initialized (zmN z).cls) q.2.2.2 && (decide ((zmN z).cls = zcN (zmO z)) && (decide ((parseMethodDescriptor (zmN z).desc).map (fun d => d.parameters.length) = some (zmA z + zmS z - 1)) && (decide ((zmN z).cls ≠ "java/lang/invoke/MethodHandle" ∧ (zmN z).cls ≠ "java/lang/invoke/VarHandle") && (plainName (zmN z).cls && (zret (zmK z) (zmR z) && (decide (zmL z ≤ 60) && (decide (zmO z < 7 ∨ zmS z = 1) && decide (0 < zmA z ∨ zmS z = 1))))))))))
set_option maxRecDepth 100000 in
set_option maxHeartbeats 4000000 in
theorem zmw_0 : (List.range' 0 28).all zmw = true := by decide +kernel
set_option maxRecDepth 100000 in
set_option maxHeartbeats 4000000 in
theorem zmw_28 : (List.range' 28 28).all zmw = true := by decide +kernel
set_option maxRecDepth 100000 in
set_option maxHeartbeats 4000000 in
theorem zmw_56 : (List.range' 56 28).all zmw = true := by decide +kernel
set_option maxRecDepth 100000 in
set_option maxHeartbeats 4000000 in
theorem zmw_84 : (List.range' 84 28).all zmw = true := by decide +kernel
set_option maxRecDepth 100000 in
set_option maxHeartbeats 4000000 in
theorem zmw_112 : (List.range' 112 28).all zmw = true := by decide +kernel
set_option maxRecDepth 100000 in
set_option maxHeartbeats 4000000 in
theorem zmw_140 : (List.range' 140 28).all zmw = true := by decide +kernel
set_option maxRecDepth 100000 in
set_option maxHeartbeats 4000000 in
theorem zmw_168 : (List.range' 168 25).all zmw = true := by decide +kernel
def zmth (k : Nat) : MethodName := if k = 10 then Lib.Math.abs.name else if k = 11 then Lib.Math.min.name else Lib.MathLoose.min_long.x
set_option maxRecDepth 100000 in
set_option maxHeartbeats 4000000 in
theorem zML_c : zML.all (fun q => zat (.methodLink (zcN q.1) q.2.1 (zmth q.2.2.1)) q.2.2.2) = true := by decide +kernel
set_option maxRecDepth 100000 in
set_option maxHeartbeats 4000000 in
theorem zMa_c : zat (.static Lib.Math.abs.name) (zMa.getD 0 (0, 0, 0)).1 = true ∧ zat (.code Lib.Math.abs.name Lib.Math.abs.code 1 (some .int)) (zMa.getD 0 (0, 0, 0)).2.1 = true ∧ zat (.initialized "java/lang/Math") (zMa.getD 0 (0, 0, 0)).2.2 = true ∧ zat (.static Lib.Math.min.name) (zMa.getD 1 (0, 0, 0)).1 = true ∧ zat (.code Lib.Math.min.name Lib.Math.min.code 2 (some .int)) (zMa.getD 1 (0, 0, 0)).2.1 = true ∧ zat (.static Lib.MathLoose.min_long.x) (zMa.getD 2 (0, 0, 0)).1 = true ∧ zat (.code Lib.MathLoose.min_long.x Lib.MathLoose.min_long.code 4 (some .long)) (zMa.getD 2 (0, 0, 0)).2.1 = true := by decide +kernel
set_option maxRecDepth 100000 in
set_option maxHeartbeats 4000000 in
theorem zvw_c : vwCl.all (fun c => (u_ws c.1 c.2.1 c.2.2).all (fun w => decide (w ∈ lw_tbl) && goodWord w)) = true := by decide +kernel
def znw : List Cond := zNL.map (fun q => .methodLinkNest (zcN q.1) q.2.1 (zmN q.2.2) "FusionRules")
set_option maxRecDepth 100000 in
set_option maxHeartbeats 4000000 in
theorem znw_c : ∀ w ∈ znw, w ∈ lw_tbl := by decide +kernel
set_option maxRecDepth 100000 in
set_option maxHeartbeats 4000000 in
theorem zsy_c : ∀ w ∈ [Cond.native arraycopyName, Cond.static arraycopyName, Cond.initialized "java/lang/System"], w ∈ zwG := by decide +kernel
/-- the fields of an object's cell: as many as its class has, numbers where they are written -/
def zcok (c : Nat × Int × List Int) : Bool := if c.1 = 3 then decide (0 ≤ c.2.1 ∧ c.2.1 < 7) && (decide (c.2.2.length = (zcl c.2.1.toNat).2.2) && (List.range c.2.2.length).all (fun k => if c.2.2.getD k 0 = -1 then decide (((zcl c.2.1.toNat).2.1 k).2.2 = ("I", false)) else if c.2.2.getD k 0 = -2 then decide (((zcl c.2.1.toNat).2.1 k).2.2 = ("Z", false)) else decide (0 ≤ c.2.2.getD k 0))) else decide (c.1 < 3 ∧ 0 ≤ c.2.1 ∧ c.2.1 < 1000)
theorem zcok_c : zSH.all zcok = true := by decide +kernel
theorem zSH_len : zSH.length = 58 := rfl
