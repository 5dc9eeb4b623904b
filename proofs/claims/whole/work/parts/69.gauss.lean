/-! square tables undone, column by column -/
def prw (W : Int → Int → Int) (c : Int) : Nat → Int → Int
  | 0, p => p
  | f + 1, p => if W p c = 0 then prw W c f (p + 1) else p
theorem prw_b {W : Int → Int → Int} {c : Int} : ∀ (f : Nat) (p : Int), p ≤ prw W c f p ∧ prw W c f p ≤ p + f ∧ (prw W c f p < p + f → ¬ W (prw W c f p) c = 0)
  | 0, p => by unfold prw; omega
  | f + 1, p => by
    have ih := prw_b (W := W) (c := c) f (p + 1)
    unfold prw
    by_cases h : W p c = 0
    · rw [if_pos h]
      refine ⟨by omega, by omega, fun q => ih.2.2 (by omega)⟩
    · rw [if_neg h]
      exact ⟨by omega, by omega, fun _ => h⟩
def elT (W : Int → Int → Int) (c : Int) (A : Int → Int → Int) (r i m : Int) : Int := if i < r ∧ ¬ i = c then (A i m + (31 - W i c) * A c m) % 31 else A i m
theorem elT_bd {n c r : Int} {W A : Int → Int → Int} (h : mBd n A) : mBd n (elT W c A r) := fun i m hi hm => by
  unfold elT
  by_cases a : i < r ∧ ¬ i = c
  · rw [if_pos a]; omega
  · rw [if_neg a]; exact h i m hi hm
theorem elT_s {W : Int → Int → Int} {c : Int} {A : Int → Int → Int} {r : Int} (hr : ¬ r = c) : adR (elT W c A r) r c (31 - W r c) = elT W c A (r + 1) := by
  funext i m
  unfold adR elT
  by_cases a : i = r
  · rw [if_pos a, if_neg (by omega), if_neg (by omega), a, if_pos ⟨by omega, hr⟩]
  · rw [if_neg a]
    by_cases b : i < r ∧ ¬ i = c
    · rw [if_pos b, if_pos ⟨by omega, b.2⟩]
    · rw [if_neg b, if_neg (by omega)]
theorem elT_c {W : Int → Int → Int} {c : Int} {A : Int → Int → Int} : elT W c A (c + 1) = elT W c A c := by
  funext i m
  unfold elT
  by_cases b : i < c ∧ ¬ i = c
  · rw [if_pos b, if_pos (by omega)]
  · rw [if_neg b, if_neg (by omega)]
theorem elT_0 {W : Int → Int → Int} {c n r : Int} {A : Int → Int → Int} (hA : mBd n A) (hc : zrg n c) (h0 : W r c = 0) {i m : Int} (hi : zrg n i) (hm : zrg n m) : elT W c A (r + 1) i m = elT W c A r i m := by
  unfold elT
  by_cases b : i < r ∧ ¬ i = c
  · rw [if_pos b, if_pos (by omega)]
  · rw [if_neg b]
    by_cases a : i < r + 1 ∧ ¬ i = c
    · have e : i = r := by omega
      rw [if_pos a, e, h0]
      rw [e] at hi
      have b1 := hA r m hi hm
      have b2 := hA c m hc hm
      omega
    · rw [if_neg a]
theorem adR_sc {A : Int → Int → Int} {c t : Int} : adR A c c (t - 1) = scR A c t := by
  funext i m
  unfold adR scR
  by_cases a : i = c
  · rw [if_pos a, if_pos a, Int.sub_mul, Int.one_mul, Int.mul_comm t]
    congr 1
    omega
  · rw [if_neg a, if_neg a]
def gjt (c p : Int) (W : Int → Int → Int) : Int := inv31 (swp W p c c c)
def gjs (n c : Int) (S : (Int → Int → Int) × (Int → Int → Int)) : Option ((Int → Int → Int) × (Int → Int → Int)) :=
  let p := prw S.1 c (n - c).toNat c
  if p = n then none else
    let t := gjt c p S.1
    let W2 := scR (swp S.1 p c) c t
    let I2 := scR (swp S.2 p c) c t
    some (elT W2 c W2 n, elT W2 c I2 n)
def gjl (n : Int) : Nat → Int → (Int → Int → Int) × (Int → Int → Int) → Option ((Int → Int → Int) × (Int → Int → Int))
  | 0, _, S => some S
  | k + 1, c, S => match gjs n c S with
    | none => none
    | some S' => gjl n k (c + 1) S'
def idM (i m : Int) : Int := if i = m then 1 else 0
theorem mTb_cg {c o n : Int} {A B : Int → Int → Int} {μ : zM} (h : mTb c o n A μ) (e : ∀ i m, zrg n i → zrg n m → A i m = B i m) : mTb c o n B μ := fun i m hi hm => by rw [h i m hi hm, e i m hi hm]
theorem swp_c {W : Int → Int → Int} {p c : Int} : swp W p c c c = W p c := by
  unfold swp
  by_cases a : c = p
  · rw [if_pos a, ← a]
  · rw [if_neg a, if_pos rfl]
theorem K_rowWithNumber {d : Nat} {n c : Int} {W : Int → Int → Int} {μ : zM} {P : Int → zM → Prop} (hn : 1 ≤ n ∧ n ≤ 5) (hc : zrg n c) (hW : mTb 27 0 n W μ) : zC (d + 1) 40 [(2, 24), (0, c), (0, n)] μ P ↔ P (prw W c (n - c).toNat c) μ := by
  refine zC_is ?_
  generalize hR : prw W c (n - c).toNat c = R
  generalize hQ : (fun (r : Int) (u : zM) => r = R ∧ u = μ) = Q
  have c0 := hc.1
  have c1 := hc.2
  have hl : ∀ p (s : Unit), 0 ≤ p → p ≤ n → prw W c (n - p).toNat p = R → zR d 40 Q 2 [(2, 24), (0, c), (0, n), (0, p)] [] μ := by
    refine zloop (n := n) (Inv := fun p (_ : Unit) => prw W c (n - p).toNat p = R) (R := fun p _ => zR d 40 Q 2 [(2, 24), (0, c), (0, n), (0, p)] [] μ) ?_ ?_
    · rintro p _ p0 p1 hp ih
      have e1 : zw (zw (p * 5) + c) = 5 * p + c := by simp (disch := omega) only [zw_e]; omega
      have eW : μ 27 (5 * p + c) = W p c := by have := hW p c ⟨p0, p1⟩ hc; rw [Int.zero_add] at this; exact this
      rw [show (n - p).toNat = (n - (p + 1)).toNat + 1 by omega] at hp
      unfold prw at hp
      rw [u40_2]
      simp only [k40_2, e40, k40_0, u40_26, k40_26, zO_nop, zO_goto, zO_iload_n0, zO_iload_n1, zO_iload_n2, zO_iload_n3, zO_iload, zO_lload_n0, zO_lload_n1, zO_lload_n2, zO_lload_n3, zO_lload, zO_aload_n0, zO_aload_n1, zO_aload_n2, zO_aload_n3, zO_aload, zO_istore_n0, zO_istore_n1, zO_istore_n2, zO_istore_n3, zO_istore, zO_astore_n0, zO_astore_n1, zO_astore_n2, zO_astore_n3, zO_astore, zO_lstore, zO_iinc, zO_iconst, zO_bipush, zO_sipush, zO_lconst0, zO_lconst1, zO_ldc, zO_ldc2_w, zO_iadd, zO_isub, zO_imul, zO_idiv, zO_irem, zO_ineg, zO_iand, zO_ior, zO_ixor, zO_ishl, zO_ishr, zO_iushr, zO_ladd, zO_lmul, zO_land, zO_lor, zO_lshl, zO_lcmp, zO_i2l, zO_l2i, zO_i2b, zO_dup0, zO_dup2, zO_dup200, zO_dup202, zO_dup220, zO_dup222, zO_ifCond_eq, zO_ifCond_ne, zO_ifCond_lt, zO_ifCond_ge, zO_ifCond_gt, zO_ifCond_le, zO_if_icmp_eq, zO_if_icmp_ne, zO_if_icmp_lt, zO_if_icmp_ge, zO_if_icmp_gt, zO_if_icmp_le, zO_getfield, zO_putfield, zO_iaload, zO_baload, zO_laload, zO_iastore, zO_bastore, zO_lastore, zO_arraylength, zO_invokevirtual, zO_lreturn, zO_areturn, zO_return_, zO_tableswitch, zO_lookupswitch, zO_is0, zO_is1, zO_is2, zO_is3, zO_is4, zO_is9, zO_is10, zO_is11, zO_is12, zO_ir1, zO_ir4, zB_c, zLd_0, zLd_s, zSt_c, zSt2_c, zU_c, zD_c, zY_c, zSw_n, zSw_c, zCall_c, zVirt_c, zP_0, zP_1, zP_2, zP_3, zP_4, zGet_n, zGet_z, zPut_n, zPut_z, zcw_n, zcw_0, zcw_1, zcw_2, List.length_cons, List.length_nil, List.take_succ_cons, List.take_zero, List.drop_succ_cons, List.drop_zero, List.reverse_cons, List.reverse_nil, List.nil_append, List.cons_append, List.append_nil, List.set_cons_zero, List.set_cons_succ, List.getD_cons_zero, List.getD_cons_succ, true_and, and_true, ne_eq, not_false_eq_true, not_true_eq_false, zif, Nat.reduceAdd, Nat.reduceLeDiff, Nat.reduceLT, Nat.reduceSub, Nat.reduceEqDiff, Nat.zero_le, Nat.lt_add_one, Nat.reduceMod, false_implies, true_implies, implies_true, forall_const, Int.reduceLE, Int.reduceLT, Int.reduceEq, Int.reduceNeg, ite10_0, ite10_1, zem, zem2, Classical.not_not, and_self, or_true, true_or, or_false, false_or, zT_24, zN_24, zGf_128_24, zGf_129_24, zGf_130_24, zGf_131_24, zAl_27, zAs_27, e1, eW]
      rw [zw_e (z := p + 1) (by omega) (by omega)]
      refine ⟨fun _ => ⟨by omega, by omega, fun e => ?_, fun e => ?_⟩, fun e => absurd p1 e⟩
      · rw [if_pos e] at hp; exact ih () hp
      · rw [if_neg e] at hp; rw [← hQ]; exact ⟨hp, rfl⟩
    · rintro _ hp
      rw [show (n - n).toNat = 0 by omega] at hp
      have hp2 : n = R := hp
      rw [u40_2]
      simp only [k40_2, e40, k40_0, u40_26, k40_26, zO_nop, zO_goto, zO_iload_n0, zO_iload_n1, zO_iload_n2, zO_iload_n3, zO_iload, zO_lload_n0, zO_lload_n1, zO_lload_n2, zO_lload_n3, zO_lload, zO_aload_n0, zO_aload_n1, zO_aload_n2, zO_aload_n3, zO_aload, zO_istore_n0, zO_istore_n1, zO_istore_n2, zO_istore_n3, zO_istore, zO_astore_n0, zO_astore_n1, zO_astore_n2, zO_astore_n3, zO_astore, zO_lstore, zO_iinc, zO_iconst, zO_bipush, zO_sipush, zO_lconst0, zO_lconst1, zO_ldc, zO_ldc2_w, zO_iadd, zO_isub, zO_imul, zO_idiv, zO_irem, zO_ineg, zO_iand, zO_ior, zO_ixor, zO_ishl, zO_ishr, zO_iushr, zO_ladd, zO_lmul, zO_land, zO_lor, zO_lshl, zO_lcmp, zO_i2l, zO_l2i, zO_i2b, zO_dup0, zO_dup2, zO_dup200, zO_dup202, zO_dup220, zO_dup222, zO_ifCond_eq, zO_ifCond_ne, zO_ifCond_lt, zO_ifCond_ge, zO_ifCond_gt, zO_ifCond_le, zO_if_icmp_eq, zO_if_icmp_ne, zO_if_icmp_lt, zO_if_icmp_ge, zO_if_icmp_gt, zO_if_icmp_le, zO_getfield, zO_putfield, zO_iaload, zO_baload, zO_laload, zO_iastore, zO_bastore, zO_lastore, zO_arraylength, zO_invokevirtual, zO_lreturn, zO_areturn, zO_return_, zO_tableswitch, zO_lookupswitch, zO_is0, zO_is1, zO_is2, zO_is3, zO_is4, zO_is9, zO_is10, zO_is11, zO_is12, zO_ir1, zO_ir4, zB_c, zLd_0, zLd_s, zSt_c, zSt2_c, zU_c, zD_c, zY_c, zSw_n, zSw_c, zCall_c, zVirt_c, zP_0, zP_1, zP_2, zP_3, zP_4, zGet_n, zGet_z, zPut_n, zPut_z, zcw_n, zcw_0, zcw_1, zcw_2, List.length_cons, List.length_nil, List.take_succ_cons, List.take_zero, List.drop_succ_cons, List.drop_zero, List.reverse_cons, List.reverse_nil, List.nil_append, List.cons_append, List.append_nil, List.set_cons_zero, List.set_cons_succ, List.getD_cons_zero, List.getD_cons_succ, true_and, and_true, ne_eq, not_false_eq_true, not_true_eq_false, zif, Nat.reduceAdd, Nat.reduceLeDiff, Nat.reduceLT, Nat.reduceSub, Nat.reduceEqDiff, Nat.zero_le, Nat.lt_add_one, Nat.reduceMod, false_implies, true_implies, implies_true, forall_const, Int.reduceLE, Int.reduceLT, Int.reduceEq, Int.reduceNeg, ite10_0, ite10_1, zem, zem2, Classical.not_not, and_self, or_true, true_or, or_false, false_or]
      refine ⟨fun e => absurd e (by omega), fun _ => ?_⟩
      rw [← hQ]
      exact ⟨hp2, rfl⟩
  simp only [e40, k40_0, zO_nop, zO_goto, zO_iload_n0, zO_iload_n1, zO_iload_n2, zO_iload_n3, zO_iload, zO_lload_n0, zO_lload_n1, zO_lload_n2, zO_lload_n3, zO_lload, zO_aload_n0, zO_aload_n1, zO_aload_n2, zO_aload_n3, zO_aload, zO_istore_n0, zO_istore_n1, zO_istore_n2, zO_istore_n3, zO_istore, zO_astore_n0, zO_astore_n1, zO_astore_n2, zO_astore_n3, zO_astore, zO_lstore, zO_iinc, zO_iconst, zO_bipush, zO_sipush, zO_lconst0, zO_lconst1, zO_ldc, zO_ldc2_w, zO_iadd, zO_isub, zO_imul, zO_idiv, zO_irem, zO_ineg, zO_iand, zO_ior, zO_ixor, zO_ishl, zO_ishr, zO_iushr, zO_ladd, zO_lmul, zO_land, zO_lor, zO_lshl, zO_lcmp, zO_i2l, zO_l2i, zO_i2b, zO_dup0, zO_dup2, zO_dup200, zO_dup202, zO_dup220, zO_dup222, zO_ifCond_eq, zO_ifCond_ne, zO_ifCond_lt, zO_ifCond_ge, zO_ifCond_gt, zO_ifCond_le, zO_if_icmp_eq, zO_if_icmp_ne, zO_if_icmp_lt, zO_if_icmp_ge, zO_if_icmp_gt, zO_if_icmp_le, zO_getfield, zO_putfield, zO_iaload, zO_baload, zO_laload, zO_iastore, zO_bastore, zO_lastore, zO_arraylength, zO_invokevirtual, zO_lreturn, zO_areturn, zO_return_, zO_tableswitch, zO_lookupswitch, zO_is0, zO_is1, zO_is2, zO_is3, zO_is4, zO_is9, zO_is10, zO_is11, zO_is12, zO_ir1, zO_ir4, zB_c, zLd_0, zLd_s, zSt_c, zSt2_c, zU_c, zD_c, zY_c, zSw_n, zSw_c, zCall_c, zVirt_c, zP_0, zP_1, zP_2, zP_3, zP_4, zGet_n, zGet_z, zPut_n, zPut_z, zcw_n, zcw_0, zcw_1, zcw_2, List.length_cons, List.length_nil, List.take_succ_cons, List.take_zero, List.drop_succ_cons, List.drop_zero, List.reverse_cons, List.reverse_nil, List.nil_append, List.cons_append, List.append_nil, List.set_cons_zero, List.set_cons_succ, List.getD_cons_zero, List.getD_cons_succ, true_and, and_true, ne_eq, not_false_eq_true, not_true_eq_false, zif, Nat.reduceAdd, Nat.reduceLeDiff, Nat.reduceLT, Nat.reduceSub, Nat.reduceEqDiff, Nat.zero_le, Nat.lt_add_one, Nat.reduceMod, false_implies, true_implies, implies_true, forall_const, Int.reduceLE, Int.reduceLT, Int.reduceEq, Int.reduceNeg, ite10_0, ite10_1, zem, zem2, Classical.not_not, and_self, or_true, true_or, or_false, false_or]
  exact hl c () (by omega) (by omega) hR
theorem K_clearColumn {d : Nat} {n c : Int} {W I : Int → Int → Int} {μ : zM} (hn : 1 ≤ n ∧ n ≤ 5) (hc : zrg n c) (hW : mTb 27 0 n W μ) (hI : mTb 25 0 n I μ) (hWb : mBd n W) (hIb : mBd n I) (hne : ¬ W c c = 0) : zC (d + 2) 42 [(2, 24), (0, c), (0, n)] μ (fun x u => x = 0 ∧ zfr [(25, -1), (27, -1)] μ u ∧ mTb 27 0 n (elT (scR W c (inv31 (W c c))) c (scR W c (inv31 (W c c))) n) u ∧ mTb 25 0 n (elT (scR W c (inv31 (W c c))) c (scR I c (inv31 (W c c))) n) u) := by
  have c0 := hc.1
  have c1 := hc.2
  have wcb := hWb c c hc hc
  obtain ⟨t, ht⟩ : ∃ t, t = inv31 (W c c) := ⟨_, rfl⟩
  have htb := (inv_1 (x := W c c) (by omega)).2
  rw [← ht] at htb ⊢
  have sWb : mBd n (scR W c t) := scR_bd hWb
  have sIb : mBd n (scR I c t) := scR_bd hIb
  generalize hQ : (fun (x : Int) (u : zM) => x = 0 ∧ zfr [(25, -1), (27, -1)] μ u ∧ mTb 27 0 n (elT (scR W c t) c (scR W c t) n) u ∧ mTb 25 0 n (elT (scR W c t) c (scR I c t) n) u) = Q
  have hl : ∀ r w, 0 ≤ r → r ≤ n → (zfr [(25, -1), (27, -1)] μ w ∧ mTb 27 0 n (elT (scR W c t) c (scR W c t) r) w ∧ mTb 25 0 n (elT (scR W c t) c (scR I c t) r) w) → zR (d + 1) 42 Q 26 [(2, 24), (0, c), (0, n), (0, t), (0, r)] [] w := by
    refine zloop (n := n) (Inv := fun r w => zfr [(25, -1), (27, -1)] μ w ∧ mTb 27 0 n (elT (scR W c t) c (scR W c t) r) w ∧ mTb 25 0 n (elT (scR W c t) c (scR I c t) r) w) ?_ ?_
    · rintro r w r0 r1 ⟨f, g1, g2⟩ ih
      have hr : zrg n r := ⟨r0, r1⟩
      have e1 : zw (zw (r * 5) + c) = 5 * r + c := by simp (disch := omega) only [zw_e]; omega
      have eW : w 27 (5 * r + c) = scR W c t r c := by
        have := g1 r c hr hc
        rw [Int.zero_add] at this
        rw [this]
        unfold elT
        rw [if_neg (by omega)]
      have wb := sWb r c hr hc
      have e2 : zw (31 - scR W c t r c) = 31 - scR W c t r c := zw_e (by omega) (by omega)
      have e3 : zw (r + 1) = r + 1 := zw_e (by omega) (by omega)
      rw [u42_26]
      simp only [k42_26, e42, k42_0, u42_59, k42_59, u42_65, k42_65, zO_nop, zO_goto, zO_iload_n0, zO_iload_n1, zO_iload_n2, zO_iload_n3, zO_iload, zO_lload_n0, zO_lload_n1, zO_lload_n2, zO_lload_n3, zO_lload, zO_aload_n0, zO_aload_n1, zO_aload_n2, zO_aload_n3, zO_aload, zO_istore_n0, zO_istore_n1, zO_istore_n2, zO_istore_n3, zO_istore, zO_astore_n0, zO_astore_n1, zO_astore_n2, zO_astore_n3, zO_astore, zO_lstore, zO_iinc, zO_iconst, zO_bipush, zO_sipush, zO_lconst0, zO_lconst1, zO_ldc, zO_ldc2_w, zO_iadd, zO_isub, zO_imul, zO_idiv, zO_irem, zO_ineg, zO_iand, zO_ior, zO_ixor, zO_ishl, zO_ishr, zO_iushr, zO_ladd, zO_lmul, zO_land, zO_lor, zO_lshl, zO_lcmp, zO_i2l, zO_l2i, zO_i2b, zO_dup0, zO_dup2, zO_dup200, zO_dup202, zO_dup220, zO_dup222, zO_ifCond_eq, zO_ifCond_ne, zO_ifCond_lt, zO_ifCond_ge, zO_ifCond_gt, zO_ifCond_le, zO_if_icmp_eq, zO_if_icmp_ne, zO_if_icmp_lt, zO_if_icmp_ge, zO_if_icmp_gt, zO_if_icmp_le, zO_getfield, zO_putfield, zO_iaload, zO_baload, zO_laload, zO_iastore, zO_bastore, zO_lastore, zO_arraylength, zO_invokevirtual, zO_lreturn, zO_areturn, zO_return_, zO_tableswitch, zO_lookupswitch, zO_is0, zO_is1, zO_is2, zO_is3, zO_is4, zO_is9, zO_is10, zO_is11, zO_is12, zO_ir1, zO_ir4, zB_c, zLd_0, zLd_s, zSt_c, zSt2_c, zU_c, zD_c, zY_c, zSw_n, zSw_c, zCall_c, zVirt_c, zP_0, zP_1, zP_2, zP_3, zP_4, zGet_n, zGet_z, zPut_n, zPut_z, zcw_n, zcw_0, zcw_1, zcw_2, List.length_cons, List.length_nil, List.take_succ_cons, List.take_zero, List.drop_succ_cons, List.drop_zero, List.reverse_cons, List.reverse_nil, List.nil_append, List.cons_append, List.append_nil, List.set_cons_zero, List.set_cons_succ, List.getD_cons_zero, List.getD_cons_succ, true_and, and_true, ne_eq, not_false_eq_true, not_true_eq_false, zif, Nat.reduceAdd, Nat.reduceLeDiff, Nat.reduceLT, Nat.reduceSub, Nat.reduceEqDiff, Nat.zero_le, Nat.lt_add_one, Nat.reduceMod, false_implies, true_implies, implies_true, forall_const, Int.reduceLE, Int.reduceLT, Int.reduceEq, Int.reduceNeg, ite10_0, ite10_1, zem, zem2, Classical.not_not, and_self, or_true, true_or, or_false, false_or, zT_24, zN_24, zGf_128_24, zGf_129_24, zGf_130_24, zGf_131_24, zAl_27, zAs_27, e1, eW, e2, e3]
      refine ⟨fun _ => ⟨fun e => ?_, fun e => ⟨by omega, by omega, ?_⟩⟩, fun e => absurd r1 e⟩
      · refine ih w ⟨f, ?_, ?_⟩
        · rw [e, elT_c]; rw [e] at g1; exact g1
        · rw [e, elT_c]; rw [e] at g2; exact g2
      · refine zuse (K_addRow (d := d) hn hr hc (t := 31 - scR W c t r c) (by omega) g1 g2 (elT_bd sWb) (elT_bd sIb)) ?_
        rintro x u ⟨rfl, f2, h1, h2⟩
        rw [elT_s e] at h1 h2
        exact ih u ⟨zfr_tr f f2, h1, h2⟩
    · rintro w ⟨f, g1, g2⟩
      rw [u42_26]
      simp only [k42_26, e42, k42_0, u42_59, k42_59, u42_65, k42_65, zO_nop, zO_goto, zO_iload_n0, zO_iload_n1, zO_iload_n2, zO_iload_n3, zO_iload, zO_lload_n0, zO_lload_n1, zO_lload_n2, zO_lload_n3, zO_lload, zO_aload_n0, zO_aload_n1, zO_aload_n2, zO_aload_n3, zO_aload, zO_istore_n0, zO_istore_n1, zO_istore_n2, zO_istore_n3, zO_istore, zO_astore_n0, zO_astore_n1, zO_astore_n2, zO_astore_n3, zO_astore, zO_lstore, zO_iinc, zO_iconst, zO_bipush, zO_sipush, zO_lconst0, zO_lconst1, zO_ldc, zO_ldc2_w, zO_iadd, zO_isub, zO_imul, zO_idiv, zO_irem, zO_ineg, zO_iand, zO_ior, zO_ixor, zO_ishl, zO_ishr, zO_iushr, zO_ladd, zO_lmul, zO_land, zO_lor, zO_lshl, zO_lcmp, zO_i2l, zO_l2i, zO_i2b, zO_dup0, zO_dup2, zO_dup200, zO_dup202, zO_dup220, zO_dup222, zO_ifCond_eq, zO_ifCond_ne, zO_ifCond_lt, zO_ifCond_ge, zO_ifCond_gt, zO_ifCond_le, zO_if_icmp_eq, zO_if_icmp_ne, zO_if_icmp_lt, zO_if_icmp_ge, zO_if_icmp_gt, zO_if_icmp_le, zO_getfield, zO_putfield, zO_iaload, zO_baload, zO_laload, zO_iastore, zO_bastore, zO_lastore, zO_arraylength, zO_invokevirtual, zO_lreturn, zO_areturn, zO_return_, zO_tableswitch, zO_lookupswitch, zO_is0, zO_is1, zO_is2, zO_is3, zO_is4, zO_is9, zO_is10, zO_is11, zO_is12, zO_ir1, zO_ir4, zB_c, zLd_0, zLd_s, zSt_c, zSt2_c, zU_c, zD_c, zY_c, zSw_n, zSw_c, zCall_c, zVirt_c, zP_0, zP_1, zP_2, zP_3, zP_4, zGet_n, zGet_z, zPut_n, zPut_z, zcw_n, zcw_0, zcw_1, zcw_2, List.length_cons, List.length_nil, List.take_succ_cons, List.take_zero, List.drop_succ_cons, List.drop_zero, List.reverse_cons, List.reverse_nil, List.nil_append, List.cons_append, List.append_nil, List.set_cons_zero, List.set_cons_succ, List.getD_cons_zero, List.getD_cons_succ, true_and, and_true, ne_eq, not_false_eq_true, not_true_eq_false, zif, Nat.reduceAdd, Nat.reduceLeDiff, Nat.reduceLT, Nat.reduceSub, Nat.reduceEqDiff, Nat.zero_le, Nat.lt_add_one, Nat.reduceMod, false_implies, true_implies, implies_true, forall_const, Int.reduceLE, Int.reduceLT, Int.reduceEq, Int.reduceNeg, ite10_0, ite10_1, zem, zem2, Classical.not_not, and_self, or_true, true_or, or_false, false_or]
      refine ⟨fun e => absurd e (by omega), fun _ => ?_⟩
      rw [← hQ]
      exact ⟨rfl, f, g1, g2⟩
  have e1 : zw (zw (c * 5) + c) = 5 * c + c := by simp (disch := omega) only [zw_e]; omega
  have eW : μ 27 (5 * c + c) = W c c := by have := hW c c hc hc; rw [Int.zero_add] at this; exact this
  have e2 : zw (t - 1) = t - 1 := zw_e (by omega) (by omega)
  simp only [e42, k42_0, zO_nop, zO_goto, zO_iload_n0, zO_iload_n1, zO_iload_n2, zO_iload_n3, zO_iload, zO_lload_n0, zO_lload_n1, zO_lload_n2, zO_lload_n3, zO_lload, zO_aload_n0, zO_aload_n1, zO_aload_n2, zO_aload_n3, zO_aload, zO_istore_n0, zO_istore_n1, zO_istore_n2, zO_istore_n3, zO_istore, zO_astore_n0, zO_astore_n1, zO_astore_n2, zO_astore_n3, zO_astore, zO_lstore, zO_iinc, zO_iconst, zO_bipush, zO_sipush, zO_lconst0, zO_lconst1, zO_ldc, zO_ldc2_w, zO_iadd, zO_isub, zO_imul, zO_idiv, zO_irem, zO_ineg, zO_iand, zO_ior, zO_ixor, zO_ishl, zO_ishr, zO_iushr, zO_ladd, zO_lmul, zO_land, zO_lor, zO_lshl, zO_lcmp, zO_i2l, zO_l2i, zO_i2b, zO_dup0, zO_dup2, zO_dup200, zO_dup202, zO_dup220, zO_dup222, zO_ifCond_eq, zO_ifCond_ne, zO_ifCond_lt, zO_ifCond_ge, zO_ifCond_gt, zO_ifCond_le, zO_if_icmp_eq, zO_if_icmp_ne, zO_if_icmp_lt, zO_if_icmp_ge, zO_if_icmp_gt, zO_if_icmp_le, zO_getfield, zO_putfield, zO_iaload, zO_baload, zO_laload, zO_iastore, zO_bastore, zO_lastore, zO_arraylength, zO_invokevirtual, zO_lreturn, zO_areturn, zO_return_, zO_tableswitch, zO_lookupswitch, zO_is0, zO_is1, zO_is2, zO_is3, zO_is4, zO_is9, zO_is10, zO_is11, zO_is12, zO_ir1, zO_ir4, zB_c, zLd_0, zLd_s, zSt_c, zSt2_c, zU_c, zD_c, zY_c, zSw_n, zSw_c, zCall_c, zVirt_c, zP_0, zP_1, zP_2, zP_3, zP_4, zGet_n, zGet_z, zPut_n, zPut_z, zcw_n, zcw_0, zcw_1, zcw_2, List.length_cons, List.length_nil, List.take_succ_cons, List.take_zero, List.drop_succ_cons, List.drop_zero, List.reverse_cons, List.reverse_nil, List.nil_append, List.cons_append, List.append_nil, List.set_cons_zero, List.set_cons_succ, List.getD_cons_zero, List.getD_cons_succ, true_and, and_true, ne_eq, not_false_eq_true, not_true_eq_false, zif, Nat.reduceAdd, Nat.reduceLeDiff, Nat.reduceLT, Nat.reduceSub, Nat.reduceEqDiff, Nat.zero_le, Nat.lt_add_one, Nat.reduceMod, false_implies, true_implies, implies_true, forall_const, Int.reduceLE, Int.reduceLT, Int.reduceEq, Int.reduceNeg, ite10_0, ite10_1, zem, zem2, Classical.not_not, and_self, or_true, true_or, or_false, false_or, zT_24, zN_24, zGf_128_24, zGf_129_24, zGf_130_24, zGf_131_24, zAl_27, zAs_27, e1, eW, K_inverseOf (d := d) (show 0 ≤ W c c ∧ W c c ≤ 30 by omega), ← ht, e2]
  refine ⟨by omega, by omega, ?_⟩
  refine zuse (K_addRow (d := d) hn hc hc (t := t - 1) (by omega) hW hI hWb hIb) ?_
  rintro x u ⟨rfl, f, h1, h2⟩
  rw [adR_sc] at h1 h2
  refine hl 0 u (by omega) (by omega) ⟨f, mTb_cg h1 (fun i m hi hm => ?_), mTb_cg h2 (fun i m hi hm => ?_)⟩
  · unfold elT; rw [if_neg (by have := hi.1; omega)]
  · unfold elT; rw [if_neg (by have := hi.1; omega)]
