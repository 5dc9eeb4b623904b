/-! the machine: blocks of instructions over a memory of whole numbers -/
def zw (z : Int) : Int := (z + 2147483648) % 4294967296 - 2147483648
def zx (z : Int) : Int := (z + 9223372036854775808) % 18446744073709551616 - 9223372036854775808
def zb (z : Int) : Int := (z + 128) % 256 - 128
def zu (μ : zM) (a i v : Int) : zM := fun b j => if b = a ∧ j = i then v else μ b j
def zcp (μ : zM) (a b sp dp n : Int) : zM := fun c i => if c = b ∧ dp ≤ i ∧ i < dp + n then μ a (sp + (i - dp)) else μ c i
def zS (a : Int) : Nat × Int × List Int := if a = 99 then (4, 0, []) else if 0 ≤ a then zSH.getD a.toNat (9, 0, []) else (9, 0, [])
def zT (a : Int) : Nat := (zS a).1
def zN (a : Int) : Int := (zS a).2.1
def zG (ex : Nat) (a : Int) : Int := if (zS a).1 = 3 ∧ (zS a).2.1 = ((ex / 32 : Nat) : Int) then (zS a).2.2.getD (ex % 32) (-9) else -9
def zand (a b : Int) : Int := (Int32.ofInt a &&& Int32.ofInt b).toInt
def zor (a b : Int) : Int := (Int32.ofInt a ||| Int32.ofInt b).toInt
def zxor (a b : Int) : Int := (Int32.ofInt a ^^^ Int32.ofInt b).toInt
def zshl (a b : Int) : Int := (Int32.ofInt a <<< (Int32.ofInt b &&& 31)).toInt
def zshr (a b : Int) : Int := (Int32.ofInt a >>> (Int32.ofInt b &&& 31)).toInt
def zushr (a b : Int) : Int := ((Int32.ofInt a).toUInt32 >>> ((Int32.ofInt b).toUInt32 &&& Int32.toUInt32 31)).toInt32.toInt
def zlshl (a b : Int) : Int := (Int64.ofInt a <<< ((Int32.ofInt b).toInt64 &&& 63)).toInt
def zland (a b : Int) : Int := (Int64.ofInt a &&& Int64.ofInt b).toInt
def zlor (a b : Int) : Int := (Int64.ofInt a ||| Int64.ofInt b).toInt
def zcmp (a b : Int) : Int := if a < b then -1 else if a = b then 0 else 1
def zLd (t n : Nat) (lv : List zV) (k : zV → Prop) : Prop := (lv.getD n (9, 0)).1 = t ∧ k (lv.getD n (9, 0))
def zSt (t n : Nat) (lv st : List zV) (k : List zV → List zV → Prop) : Prop := match st with
  | (t', x) :: r => t' = t ∧ n < lv.length ∧ (lv.getD (n - 1) (9, 0)).1 ≠ 1 ∧ k (lv.set n (t, x)) r
  | _ => False
def zSt2 (n : Nat) (lv st : List zV) (k : List zV → List zV → Prop) : Prop := match st with
  | (t', x) :: r => t' = 1 ∧ n + 1 < lv.length ∧ (lv.getD (n - 1) (9, 0)).1 ≠ 1 ∧ k ((lv.set n (1, x)).set (n + 1) (9, 0)) r
  | _ => False
def zU (t : Nat) (st : List zV) (k : Int → List zV → Prop) : Prop := match st with
  | (t1, a) :: r => t1 = t ∧ k a r
  | _ => False
def zD (t1 t2 : Nat) (st : List zV) (k : Int → Int → List zV → Prop) : Prop := match st with
  | (s1, b) :: (s2, a) :: r => s1 = t1 ∧ s2 = t2 ∧ k a b r
  | _ => False
def zY (t1 : Nat) (st : List zV) (k : Int → Int → Int → List zV → Prop) : Prop := match st with
  | (s1, v) :: (s2, j) :: (s3, a) :: r => s1 = t1 ∧ s2 = 0 ∧ s3 = 2 ∧ k a j v r
  | _ => False
def zif (c : Prop) (p q : Prop) : Prop := (c → p) ∧ (¬ c → q)
def zSw (tb : List (Int × Nat)) (x : Int) (dflt : Nat) (k : Nat → Prop) : Prop := match tb with
  | [] => k dflt
  | (v, t) :: r => (x = v → k t) ∧ (¬ x = v → zSw r x dflt k)
def zP (k r : Int) (st : List zV) : List zV := if k = 0 then st else if k = 2 then (1, r) :: st else if k = 3 then (2, r) :: st else (0, r) :: st
def zcw : List zV → Nat
  | [] => 0
  | v :: r => (if v.1 = 1 then 2 else 1) + zcw r
def zCall (C : Nat → List zV → zM → (Int → zM → Prop) → Prop) (ex : Nat) (tb : List (Int × Nat)) (st : List zV) (μ : zM) (k : List zV → zM → Prop) : Prop := match tb with
  | [(q, n)] => n ≤ st.length ∧ zcw (st.drop n) ≤ 8 ∧ C ex (st.take n).reverse μ (fun r μ' => k (zP q r (st.drop n)) μ')
  | _ => False
/-- a call on an object: its class is the method's -/
def zVirt (C : Nat → List zV → zM → (Int → zM → Prop) → Prop) (ex : Nat) (tb : List (Int × Nat)) (st : List zV) (μ : zM) (k : List zV → zM → Prop) : Prop := match tb with
  | [(q, n), (ci, _)] => ((st.getD (n - 1) (9, 0)).1 = 2 ∧ zT (st.getD (n - 1) (9, 0)).2 = 3 ∧ zN (st.getD (n - 1) (9, 0)).2 = ci) ∧ 0 < n ∧ zCall C ex [(q, n)] st μ k
  | _ => False
def zCopy (st : List zV) (μ : zM) (k : List zV → zM → Prop) : Prop := match st with
  | (t1, n) :: (t2, dp) :: (t3, b) :: (t4, sp) :: (t5, a) :: r => (t1 = 0 ∧ t2 = 0 ∧ t3 = 2 ∧ t4 = 0 ∧ t5 = 2) ∧ zT a = zT b ∧ (zT a = 0 ∨ zT a = 2) ∧ 0 ≤ sp ∧ 0 ≤ dp ∧ 0 ≤ n ∧ sp + n ≤ zN a ∧ dp + n ≤ zN b ∧ r.length ≤ 4 ∧ k r (zcp μ a b sp dp n)
  | _ => False
def zGet (g a : Int) (ex : Nat) (μ : zM) (k : zV → Prop) : Prop := if 0 ≤ g then k (2, g) else ¬ g = -9 ∧ k (0, μ a ((ex % 32 : Nat) : Int))
def zPut (g a : Int) (ex : Nat) (v : Int) (μ : zM) (k : zM → Prop) : Prop := (g = -1 ∨ (g = -2 ∧ (v = 0 ∨ v = 1))) ∧ k (zu μ a ((ex % 32 : Nat) : Int) v)
def zAld (t : Nat) (a j : Int) (μ : zM) (k : Int → Prop) : Prop := if zT a = t then 0 ≤ j ∧ j < zN a ∧ k (μ a j) else t = 0 ∧ zT a = 4 ∧ 0 ≤ j ∧ j < μ 98 0 ∧ k (μ a j)
def zAst (t : Nat) (a j v : Int) (μ : zM) (k : zM → Prop) : Prop := zT a = t ∧ 0 ≤ j ∧ j < zN a ∧ k (zu μ a j v)
def zO (C : Nat → List zV → zM → (Int → zM → Prop) → Prop) (Q : Int → zM → Prop) (S : Nat → List zV → List zV → zM → Prop) (op : Instr) (ex : Nat) (tb : List (Int × Nat)) (lv st : List zV) (μ : zM) (K : List zV → List zV → zM → Prop) : Prop := match op with
  | .nop => S ex lv st μ
  | .goto _ => S ex lv st μ
  | .iload_n n => zLd 0 n.val lv (fun v => K lv (v :: st) μ)
  | .iload n => zLd 0 n lv (fun v => K lv (v :: st) μ)
  | .lload_n n => zLd 1 n.val lv (fun v => K lv (v :: st) μ)
  | .lload n => zLd 1 n lv (fun v => K lv (v :: st) μ)
  | .aload_n n => zLd 2 n.val lv (fun v => K lv (v :: st) μ)
  | .aload n => zLd 2 n lv (fun v => K lv (v :: st) μ)
  | .istore_n n => zSt 0 n.val lv st (fun lv st => K lv st μ)
  | .istore n => zSt 0 n lv st (fun lv st => K lv st μ)
  | .astore_n n => zSt 2 n.val lv st (fun lv st => K lv st μ)
  | .astore n => zSt 2 n lv st (fun lv st => K lv st μ)
  | .lstore n => zSt2 n lv st (fun lv st => K lv st μ)
  | .iinc n c => zLd 0 n lv (fun v => n < lv.length ∧ (lv.getD (n - 1) (9, 0)).1 ≠ 1 ∧ K (lv.set n (0, zw (v.2 + c))) st μ)
  | .iconst c => K lv ((0, c) :: st) μ
  | .bipush c => K lv ((0, c) :: st) μ
  | .sipush c => K lv ((0, c) :: st) μ
  | .lconst c => K lv ((1, (c.val : Int)) :: st) μ
  | .ldc _ => match tb with
    | [(v, _)] => K lv ((0, v) :: st) μ
    | _ => False
  | .ldc2_w _ => match tb with
    | [(v, _)] => K lv ((1, v) :: st) μ
    | _ => False
  | .iadd => zD 0 0 st (fun a b r => K lv ((0, zw (a + b)) :: r) μ)
  | .isub => zD 0 0 st (fun a b r => K lv ((0, zw (a - b)) :: r) μ)
  | .imul => zD 0 0 st (fun a b r => K lv ((0, zw (a * b)) :: r) μ)
  | .idiv => zD 0 0 st (fun a b r => ¬ b = 0 ∧ K lv ((0, zw (a.tdiv b)) :: r) μ)
  | .irem => zD 0 0 st (fun a b r => ¬ b = 0 ∧ K lv ((0, a.tmod b) :: r) μ)
  | .ineg => zU 0 st (fun a r => K lv ((0, zw (-a)) :: r) μ)
  | .iand => zD 0 0 st (fun a b r => K lv ((0, zand a b) :: r) μ)
  | .ior => zD 0 0 st (fun a b r => K lv ((0, zor a b) :: r) μ)
  | .ixor => zD 0 0 st (fun a b r => K lv ((0, zxor a b) :: r) μ)
  | .ishl => zD 0 0 st (fun a b r => K lv ((0, zshl a b) :: r) μ)
  | .ishr => zD 0 0 st (fun a b r => K lv ((0, zshr a b) :: r) μ)
  | .iushr => zD 0 0 st (fun a b r => K lv ((0, zushr a b) :: r) μ)
  | .ladd => zD 1 1 st (fun a b r => K lv ((1, zx (a + b)) :: r) μ)
  | .lmul => zD 1 1 st (fun a b r => K lv ((1, zx (a * b)) :: r) μ)
  | .land => zD 1 1 st (fun a b r => K lv ((1, zland a b) :: r) μ)
  | .lor => zD 1 1 st (fun a b r => K lv ((1, zlor a b) :: r) μ)
  | .lshl => zD 0 1 st (fun a b r => K lv ((1, zlshl a b) :: r) μ)
  | .lcmp => zD 1 1 st (fun a b r => K lv ((0, zcmp a b) :: r) μ)
  | .i2l => zU 0 st (fun a r => K lv ((1, a) :: r) μ)
  | .l2i => zU 1 st (fun a r => K lv ((0, zw a) :: r) μ)
  | .i2b => zU 0 st (fun a r => K lv ((0, zb a) :: r) μ)
  | .dup => match st with
    | (t, a) :: r => (t = 0 ∨ t = 2) ∧ K lv ((t, a) :: (t, a) :: r) μ
    | _ => False
  | .dup2 => match st with
    | (t, a) :: (t', b) :: r => (t = 0 ∨ t = 2) ∧ (t' = 0 ∨ t' = 2) ∧ K lv ((t, a) :: (t', b) :: (t, a) :: (t', b) :: r) μ
    | _ => False
  | .ifCond c _ => zU 0 st (fun a r => match c with
    | .eq => zif (a = 0) (S ex lv r μ) (K lv r μ)
    | .ne => zif (a = 0) (K lv r μ) (S ex lv r μ)
    | .lt => zif (a < 0) (S ex lv r μ) (K lv r μ)
    | .ge => zif (a < 0) (K lv r μ) (S ex lv r μ)
    | .gt => zif (0 < a) (S ex lv r μ) (K lv r μ)
    | .le => zif (0 < a) (K lv r μ) (S ex lv r μ))
  | .if_icmp c _ => zD 0 0 st (fun a b r => match c with
    | .eq => zif (a = b) (S ex lv r μ) (K lv r μ)
    | .ne => zif (a = b) (K lv r μ) (S ex lv r μ)
    | .lt => zif (a < b) (S ex lv r μ) (K lv r μ)
    | .ge => zif (a < b) (K lv r μ) (S ex lv r μ)
    | .gt => zif (b < a) (S ex lv r μ) (K lv r μ)
    | .le => zif (b < a) (K lv r μ) (S ex lv r μ))
  | .getfield _ => zU 2 st (fun a r => zGet (zG ex a) a ex μ (fun v => K lv (v :: r) μ))
  | .putfield _ => zD 0 2 st (fun a v r => zPut (zG ex a) a ex v μ (fun μ => K lv r μ))
  | .iaload => zD 0 2 st (fun a j r => zAld 0 a j μ (fun v => K lv ((0, v) :: r) μ))
  | .baload => zD 0 2 st (fun a j r => zAld 1 a j μ (fun v => K lv ((0, v) :: r) μ))
  | .laload => zD 0 2 st (fun a j r => zAld 2 a j μ (fun v => K lv ((1, v) :: r) μ))
  | .iastore => zY 0 st (fun a j v r => zAst 0 a j v μ (fun μ => K lv r μ))
  | .bastore => zY 0 st (fun a j v r => zAst 1 a j (zb v) μ (fun μ => K lv r μ))
  | .lastore => zY 1 st (fun a j v r => zAst 2 a j v μ (fun μ => K lv r μ))
  | .arraylength => zU 2 st (fun a r => if zT a < 3 then K lv ((0, zN a) :: r) μ else zT a = 4 ∧ K lv ((0, μ 98 0) :: r) μ)
  | .invokevirtual _ => zVirt C ex tb st μ (fun st μ => K lv st μ)
  | .invokestatic _ => zif (tb = [(9, 5)]) (zCopy st μ (fun st μ => K lv st μ)) (zif (tb = [(10, 1)]) (zU 0 st (fun a r => r.length ≤ 4 ∧ K lv ((0, if 0 ≤ a then a else zw (0 - a)) :: r) μ)) (zif (tb = [(11, 2)]) (zD 0 0 st (fun a b r => r.length ≤ 4 ∧ K lv ((0, if b < a then b else a) :: r) μ)) (zif (tb = [(12, 2)]) (zD 1 1 st (fun a b r => r.length ≤ 4 ∧ K lv ((1, if b < a then b else a) :: r) μ)) (zCall C ex tb st μ (fun st μ => K lv st μ)))))
  | .ireturn => zU 0 st (fun v r => r = [] ∧ (ex = 4 → v = 0 ∨ v = 1) ∧ Q v μ)
  | .lreturn => zU 1 st (fun v r => r = [] ∧ Q v μ)
  | .areturn => zU 2 st (fun v r => r = [] ∧ Q v μ)
  | .return_ => st = [] ∧ Q 0 μ
  | .tableswitch _ _ _ _ => zU 0 st (fun a r => zSw tb a ex (fun t => S t lv r μ))
  | .lookupswitch _ _ => zU 0 st (fun a r => zSw tb a ex (fun t => S t lv r μ))
  | _ => False
def zB (C : Nat → List zV → zM → (Int → zM → Prop) → Prop) (Q : Int → zM → Prop) (S : Nat → List zV → List zV → zM → Prop) : List zI → List zV → List zV → zM → Prop
  | [], _, _, _ => False
  | i :: is, lv, st, μ => zO C Q S i.1 i.2.1 i.2.2 lv st μ (fun lv st μ => zB C Q S is lv st μ)
def zLf (F : (Nat → List zV → List zV → zM → Prop) → Nat → List zV → List zV → zM → Prop) (L : Nat) (lv st : List zV) (μ : zM) : Prop := ∀ S : Nat → List zV → List zV → zM → Prop, (∀ L lv st μ, F S L lv st μ → S L lv st μ) → S L lv st μ
def zlay : List zV → List zV
  | [] => []
  | v :: r => if v.1 = 1 then v :: (9, 0) :: zlay r else v :: zlay r
def zent (z : Nat) (as : List zV) : List zV := zlay as ++ List.replicate (zmL z - (zlay as).length) (9, 0)
def zR : Nat → Nat → (Int → zM → Prop) → Nat → List zV → List zV → zM → Prop
  | 0, z, Q => zLf (fun S L lv st μ => zB (fun _ _ _ _ => False) Q S (zblk z L) lv st μ)
  | d + 1, z, Q => zLf (fun S L lv st μ => zB (fun z' as μ P => (zlay as).length ≤ zmL z' ∧ zR d z' P 0 (zent z' as) [] μ) Q S (zblk z L) lv st μ)
def zC : Nat → Nat → List zV → zM → (Int → zM → Prop) → Prop
  | 0, _, _, _, _ => False
  | d + 1, z, as, μ, P => (zlay as).length ≤ zmL z ∧ zR d z P 0 (zent z as) [] μ
theorem zR_eq (d z : Nat) (Q : Int → zM → Prop) : zR d z Q = zLf (fun S L lv st μ => zB (zC d) Q S (zblk z L) lv st μ) := by
  cases d with
  | zero =>
    have h : zC 0 = fun _ _ _ _ => False := by funext a b c e; rfl
    rw [h]; rfl
  | succ d => rfl
