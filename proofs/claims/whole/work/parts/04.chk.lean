/-! what is checked of the data, by program -/
def zwG : List Cond := lw_tbl.filter goodWord
def zmN (z : Nat) : MethodName := zmn.getD z ⟨"", "", ""⟩
def zmC (z : Nat) : ByteArray := zmc.getD z ⟨#[]⟩
def zmO (z : Nat) : Nat := (zmi.getD z (0, 0, 0, 0, 0)).1
def zmL (z : Nat) : Nat := (zmi.getD z (0, 0, 0, 0, 0)).2.1
def zmA (z : Nat) : Nat := (zmi.getD z (0, 0, 0, 0, 0)).2.2.1
def zmS (z : Nat) : Nat := (zmi.getD z (0, 0, 0, 0, 0)).2.2.2.1
def zmK (z : Nat) : Nat := (zmi.getD z (0, 0, 0, 0, 0)).2.2.2.2
def zmR (z : Nat) : Option FieldType := zmr.getD z none
def zcN (k : Nat) : String := zcn.getD k ""
def zW (z : Nat) : List Cond := Cond.code (zmN z) (zmC z) (zmL z) (zmR z) :: zwG
/-- the length of an instruction that isn't a switch -/
def zlen : Instr → Nat
  | .goto _ | .ifCond _ _ | .if_icmp _ _ | .iinc _ _ | .sipush _ | .ldc2_w _ | .getfield _ | .putfield _ | .invokevirtual _ | .invokestatic _ => 3
  | .iload _ | .lload _ | .aload _ | .istore _ | .astore _ | .lstore _ | .bipush _ | .ldc _ => 2
  | _ => 1
def zsw : Instr → Bool
  | .tableswitch _ _ _ _ | .lookupswitch _ _ => true
  | _ => false
def zin (c : Int) : Bool := decide (-2147483648 ≤ c) && decide (c < 2147483648)
def zjmp (pc : Nat) (o : Int) (ex : Nat) : Bool := decide ((pc : Int) + o = (ex : Int))
def ztab (pc : Nat) (lo : Int) : List Int → List (Int × Nat) → Bool
  | [], [] => true
  | o :: os, (v, t) :: tb => decide (v = lo) && zjmp pc o t && ztab pc (lo + 1) os tb
  | _, _ => false
def zlkp (pc : Nat) : List (Int × Int) → List (Int × Nat) → Bool
  | [], [] => true
  | (k, o) :: os, (v, t) :: tb => decide (v = k) && zjmp pc o t && zlkp pc os tb
  | _, _ => false
def zchkO (z : Nat) (op : Instr) (ex : Nat) (tb : List (Int × Nat)) (pc : Nat) : Bool := match op with
  | .goto o => zjmp pc o ex
  | .ifCond _ o => zjmp pc o ex
  | .if_icmp _ o => zjmp pc o ex
  | .iconst c => zin c
  | .bipush c => zin c && decide ((Int8.ofInt c).toInt32 = Int32.ofInt c)
  | .sipush c => zin c && decide ((Int16.ofInt c).toInt32 = Int32.ofInt c)
  | .ldc i => match tb with
    | [(v, _)] => zin v && zKI.any (fun q => q.1 == zmO z && (q.2.1 == i && q.2.2.1 == v))
    | _ => false
  | .ldc2_w i => match tb with
    | [(v, _)] => decide (-9223372036854775808 ≤ v) && decide (v < 9223372036854775808) && zKL.any (fun q => q.1 == zmO z && (q.2.1 == i && q.2.2.1 == v))
    | _ => false
  | .getfield i => zFL.any (fun q => q.1 == zmO z && (q.2.1 == i && (32 * q.2.2.1 + q.2.2.2.1 == ex)))
  | .putfield i => zFL.any (fun q => q.1 == zmO z && (q.2.1 == i && (32 * q.2.2.1 + q.2.2.2.1 == ex)))
  | .invokevirtual i => zCL.any (fun q => q.1 == zmO z && (q.2.1 == i && q.2.2.1 == ex)) && (decide (tb = [(((zmK ex : Nat) : Int), zmA ex), (((zmO ex : Nat) : Int), 0)]) && (zmS ex == 0 && decide (ex < 193)))
  | .invokestatic i => if tb = [(9, 5)] then zCP.any (fun q => q.1 == zmO z && q.2.1 == i) else if tb = [(10, 1)] then zML.any (fun q => q.1 == zmO z && (q.2.1 == i && q.2.2.1 == 10)) else if tb = [(11, 2)] then zML.any (fun q => q.1 == zmO z && (q.2.1 == i && q.2.2.1 == 11)) else if tb = [(12, 2)] then zML.any (fun q => q.1 == zmO z && (q.2.1 == i && q.2.2.1 == 12)) else (zCL.any (fun q => q.1 == zmO z && (q.2.1 == i && q.2.2.1 == ex)) || zNL.any (fun q => q.1 == zmO z && (q.2.1 == i && q.2.2 == ex))) && (decide (tb = [(((zmK ex : Nat) : Int), zmA ex)]) && (zmS ex == 1 && decide (ex < 193)))
  | .ireturn => ex == zmK z && (ex == 1 || ex == 4)
  | .lreturn => zmK z == 2
  | .areturn => zmK z == 3
  | .return_ => zmK z == 0
  | .tableswitch d lo hi offs => zjmp pc d ex && (ztab pc lo offs.toList tb && decide (hi = lo + (offs.size : Int) - 1))
  | .lookupswitch d ps => zjmp pc d ex && (zlkp pc ps.toList tb && (ps.toList.zip (ps.toList.drop 1)).all (fun (a, next) => a.1 < next.1))
  | .nop => false
  | _ => true
def zchkB (z : Nat) : Nat → List zI → Bool
  | _, [] => true
  | pc, i :: is => match decide (i.1 = .nop) with
    | true => i.2.1 == pc
    | false => match decode (zmC z) pc with
      | .ok (op, len) => decide (op = i.1) && ((zsw op || zlen op == len) && (zchkO z i.1 i.2.1 i.2.2 pc && zchkB z (pc + len) is))
      | .error _ => false
def zchkM (z : Nat) : Bool := (zbs.getD z []).all (fun b => zchkB z b.1 b.2)
set_option maxRecDepth 100000 in
set_option maxHeartbeats 4000000 in
theorem zck_0 : (List.range' 0 14).all zchkM = true := by decide +kernel
set_option maxRecDepth 100000 in
set_option maxHeartbeats 4000000 in
theorem zck_14 : (List.range' 14 14).all zchkM = true := by decide +kernel
set_option maxRecDepth 100000 in
set_option maxHeartbeats 4000000 in
theorem zck_28 : (List.range' 28 14).all zchkM = true := by decide +kernel
set_option maxRecDepth 100000 in
set_option maxHeartbeats 4000000 in
theorem zck_42 : (List.range' 42 14).all zchkM = true := by decide +kernel
set_option maxRecDepth 100000 in
set_option maxHeartbeats 4000000 in
theorem zck_56 : (List.range' 56 14).all zchkM = true := by decide +kernel
set_option maxRecDepth 100000 in
set_option maxHeartbeats 4000000 in
theorem zck_70 : (List.range' 70 14).all zchkM = true := by decide +kernel
set_option maxRecDepth 100000 in
set_option maxHeartbeats 4000000 in
theorem zck_84 : (List.range' 84 14).all zchkM = true := by decide +kernel
set_option maxRecDepth 100000 in
set_option maxHeartbeats 4000000 in
theorem zck_98 : (List.range' 98 14).all zchkM = true := by decide +kernel
set_option maxRecDepth 100000 in
set_option maxHeartbeats 4000000 in
theorem zck_112 : (List.range' 112 14).all zchkM = true := by decide +kernel
set_option maxRecDepth 100000 in
set_option maxHeartbeats 4000000 in
theorem zck_126 : (List.range' 126 14).all zchkM = true := by decide +kernel
set_option maxRecDepth 100000 in
set_option maxHeartbeats 4000000 in
theorem zck_140 : (List.range' 140 14).all zchkM = true := by decide +kernel
set_option maxRecDepth 100000 in
set_option maxHeartbeats 4000000 in
theorem zck_154 : (List.range' 154 14).all zchkM = true := by decide +kernel
set_option maxRecDepth 100000 in
set_option maxHeartbeats 4000000 in
theorem zck_168 : (List.range' 168 14).all zchkM = true := by decide +kernel
set_option maxRecDepth 100000 in
set_option maxHeartbeats 4000000 in
theorem zck_182 : (List.range' 182 11).all zchkM = true := by decide +kernel
