/-! the words of the tables, by their places -/
def zcl (ci : Nat) : vw_C := vwCl.getD ci ("", fun _ => ("", "", "", false), 0)
def zat (w : Cond) (p : Nat) : Bool := decide (lw_tbl[p]? = some w) && goodWord w
theorem zat_in {w : Cond} {p : Nat} (h : zat w p = true) : w ∈ zwG := by
  unfold zat at h
  rw [Bool.and_eq_true, decide_eq_true_eq] at h
  exact List.mem_filter.mpr ⟨List.mem_of_getElem? h.1, h.2⟩
theorem zwG_tbl {w : Cond} (h : w ∈ zwG) : w ∈ lw_tbl := (List.mem_filter.mp h).1
theorem zwG_good {w : Cond} (h : w ∈ zwG) : (w.onTables && w.keeps) = true ∨ ∃ ty, w = .arrayClass ty := good_of_word (List.mem_filter.mp h).2
def zfw (o i ci k : Nat) : Cond := .fieldLink (zcN o) i ((zcl ci).2.1 k).1 ((zcl ci).2.1 k).2.1 ((zcl ci).2.1 k).2.2.1
set_option maxRecDepth 100000 in
set_option maxHeartbeats 4000000 in
theorem zFL_c : zFL.all (fun q => zat (zfw q.1 q.2.1 q.2.2.1 q.2.2.2.1) q.2.2.2.2 && (decide (q.2.2.1 < 7) && decide (q.2.2.2.1 < 32))) = true := by decide +kernel
set_option maxRecDepth 100000 in
set_option maxHeartbeats 4000000 in
theorem zCL_c : zCL.all (fun q => zat (.methodLink (zcN q.1) q.2.1 (zmN q.2.2.1)) q.2.2.2) = true := by decide +kernel
set_option maxRecDepth 100000 in
set_option maxHeartbeats 4000000 in
theorem zKI_c : zKI.all (fun q => zat (.constant (zcN q.1) q.2.1 (Int32.ofInt q.2.2.1)) q.2.2.2) = true := by decide +kernel
set_option maxRecDepth 100000 in
set_option maxHeartbeats 4000000 in
theorem zKL_c : zKL.all (fun q => zat (.constantLong (zcN q.1) q.2.1 (Int64.ofInt q.2.2.1)) q.2.2.2) = true := by decide +kernel
set_option maxRecDepth 100000 in
set_option maxHeartbeats 4000000 in
theorem zCP_c : zCP.all (fun q => zat (.methodLink (zcN q.1) q.2.1 arraycopyName) q.2.2) = true := by decide +kernel
def zret (k : Nat) (r : Option FieldType) : Bool := match k, r with
  | 0, none => true
  | 1, some .int => true
  | 2, some .long => true
  | 3, some (.object _) => true
  | 4, some .boolean => true
  | _, _ => false
def zmw (z : Nat) : Bool := let q := zMW.getD z (0, 0, 0, 0)
  zat (.code (zmN z) (zmC z) (zmL z) (zmR z)) q.1 && ((if zmS z = 1 then zat (.static (zmN z)) q.2.1 else zat (.instanceMethod (zmN z)) q.2.1 && zat (.selects (zmN z).cls (zmN z) (zmN z)) q.2.2.1) && (zat (.initialized (zmN z).cls) q.2.2.2 && (decide ((zmN z).cls = zcN (zmO z)) && (decide ((parseMethodDescriptor (zmN z).desc).map (fun d => d.parameters.length) = some (zmA z + zmS z - 1)) && (decide ((zmN z).cls ≠ "java/lang/invoke/MethodHandle" ∧ (zmN z).cls ≠ "java/lang/invoke/VarHandle") && (plainName (zmN z).cls && (zret (zmK z) (zmR z) && (decide (zmL z ≤ 60) && (decide (zmO z < 7 ∨ zmS z = 1) && decide (0 < zmA z ∨ zmS z = 1))))))))))
