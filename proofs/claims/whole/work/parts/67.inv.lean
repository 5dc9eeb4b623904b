/-! numbers MODULO 31, turned round; rows swapped -/
def inv31 (x : Int) : Int := x ^ 29 % 31
theorem iv1 : ∀ x : Fin 31, (x.val : Int) = 0 ∨ ((x.val : Int) * inv31 (x.val : Int) % 31 = 1 ∧ 1 ≤ inv31 (x.val : Int) ∧ inv31 (x.val : Int) ≤ 30) := by decide +kernel
theorem iv2 : ∀ x y : Fin 31, (x.val : Int) * (y.val : Int) % 31 = 1 → (y.val : Int) = inv31 (x.val : Int) := by decide +kernel
theorem f31 {x : Int} (h : 0 ≤ x ∧ x ≤ 30) : ∃ a : Fin 31, x = (a.val : Int) := ⟨⟨x.toNat, by omega⟩, by show x = ((x.toNat : Nat) : Int); omega⟩
theorem inv_1 {x : Int} (h : 1 ≤ x ∧ x ≤ 30) : x * inv31 x % 31 = 1 ∧ 1 ≤ inv31 x ∧ inv31 x ≤ 30 := by
  obtain ⟨a, rfl⟩ := f31 (x := x) (by omega)
  rcases iv1 a with q | q
  · omega
  · exact q
theorem inv_u {x y : Int} (h : 0 ≤ x ∧ x ≤ 30) (hy : 0 ≤ y ∧ y ≤ 30) (e : x * y % 31 = 1) : y = inv31 x := by
  obtain ⟨a, rfl⟩ := f31 h
  obtain ⟨b, rfl⟩ := f31 hy
  exact iv2 a b e
theorem K_inverseOf {d : Nat} {x : Int} {μ : zM} {P : Int → zM → Prop} (h : 0 ≤ x ∧ x ≤ 30) : zC (d + 1) 107 [(0, x)] μ P ↔ P (inv31 x) μ := by
  refine zC_is ?_
  generalize hQ : (fun (r : Int) (u : zM) => r = inv31 x ∧ u = μ) = Q
  have hl : ∀ c (s : Unit), 0 ≤ c → c ≤ 31 → (1 ≤ c ∧ ∀ c', 1 ≤ c' → c' < c → ¬ x * c' % 31 = 1) → zR d 107 Q 2 [(0, x), (0, c)] [] μ := by
    refine zloop (n := 31) (Inv := fun c (_ : Unit) => 1 ≤ c ∧ ∀ c', 1 ≤ c' → c' < c → ¬ x * c' % 31 = 1) (R := fun c _ => zR d 107 Q 2 [(0, x), (0, c)] [] μ) ?_ ?_
    · rintro c _ c0 c1 ⟨c2, g⟩ ih
      have p := zmul_bd h (show 0 ≤ c ∧ c ≤ 30 by omega)
      have e2 : (zw (x * c)).tmod 31 = x * c % 31 := by rw [zw_e (by omega) (by omega), Int.tmod_eq_emod_of_nonneg p.1]
      rw [u107_2]
      simp only [k107_2, e107, k107_0, u107_20, k107_20, u107_26, k107_26, zO_nop, zO_goto, zO_iload_n0, zO_iload_n1, zO_iload_n2, zO_iload_n3, zO_iload, zO_lload_n0, zO_lload_n1, zO_lload_n2, zO_lload_n3, zO_lload, zO_aload_n0, zO_aload_n1, zO_aload_n2, zO_aload_n3, zO_aload, zO_istore_n0, zO_istore_n1, zO_istore_n2, zO_istore_n3, zO_istore, zO_astore_n0, zO_astore_n1, zO_astore_n2, zO_astore_n3, zO_astore, zO_lstore, zO_iinc, zO_iconst, zO_bipush, zO_sipush, zO_lconst0, zO_lconst1, zO_ldc, zO_ldc2_w, zO_iadd, zO_isub, zO_imul, zO_idiv, zO_irem, zO_ineg, zO_iand, zO_ior, zO_ixor, zO_ishl, zO_ishr, zO_iushr, zO_ladd, zO_lmul, zO_land, zO_lor, zO_lshl, zO_lcmp, zO_i2l, zO_l2i, zO_i2b, zO_dup0, zO_dup2, zO_dup200, zO_dup202, zO_dup220, zO_dup222, zO_ifCond_eq, zO_ifCond_ne, zO_ifCond_lt, zO_ifCond_ge, zO_ifCond_gt, zO_ifCond_le, zO_if_icmp_eq, zO_if_icmp_ne, zO_if_icmp_lt, zO_if_icmp_ge, zO_if_icmp_gt, zO_if_icmp_le, zO_getfield, zO_putfield, zO_iaload, zO_baload, zO_laload, zO_iastore, zO_bastore, zO_lastore, zO_arraylength, zO_invokevirtual, zO_lreturn, zO_areturn, zO_return_, zO_tableswitch, zO_lookupswitch, zO_is0, zO_is1, zO_is2, zO_is3, zO_is4, zO_is9, zO_is10, zO_is11, zO_is12, zO_ir1, zO_ir4, zB_c, zLd_0, zLd_s, zSt_c, zSt2_c, zU_c, zD_c, zY_c, zSw_n, zSw_c, zCall_c, zVirt_c, zP_0, zP_1, zP_2, zP_3, zP_4, zGet_n, zGet_z, zPut_n, zPut_z, zcw_n, zcw_0, zcw_1, zcw_2, List.length_cons, List.length_nil, List.take_succ_cons, List.take_zero, List.drop_succ_cons, List.drop_zero, List.reverse_cons, List.reverse_nil, List.nil_append, List.cons_append, List.append_nil, List.set_cons_zero, List.set_cons_succ, List.getD_cons_zero, List.getD_cons_succ, true_and, and_true, ne_eq, not_false_eq_true, not_true_eq_false, zif, Nat.reduceAdd, Nat.reduceLeDiff, Nat.reduceLT, Nat.reduceSub, Nat.reduceEqDiff, Nat.zero_le, Nat.lt_add_one, Nat.reduceMod, false_implies, true_implies, implies_true, forall_const, Int.reduceLE, Int.reduceLT, Int.reduceEq, Int.reduceNeg, ite10_0, ite10_1, zem, zem2, Classical.not_not, and_self, or_true, true_or, or_false, false_or, e2]
      rw [zw_e (z := c + 1) (by omega) (by omega)]
      refine ⟨fun _ => ⟨fun e => ?_, fun e => ih () ⟨by omega, fun c' a b => ?_⟩⟩, fun e => absurd c1 e⟩
      · rw [← hQ]; exact ⟨inv_u h (by omega) e, rfl⟩
      · by_cases q : c' = c
        · rw [q]; exact e
        · exact g c' a (by omega)
    · rintro _ ⟨c2, g⟩
      rw [u107_2]
      simp only [k107_2, e107, k107_0, u107_20, k107_20, u107_26, k107_26, zO_nop, zO_goto, zO_iload_n0, zO_iload_n1, zO_iload_n2, zO_iload_n3, zO_iload, zO_lload_n0, zO_lload_n1, zO_lload_n2, zO_lload_n3, zO_lload, zO_aload_n0, zO_aload_n1, zO_aload_n2, zO_aload_n3, zO_aload, zO_istore_n0, zO_istore_n1, zO_istore_n2, zO_istore_n3, zO_istore, zO_astore_n0, zO_astore_n1, zO_astore_n2, zO_astore_n3, zO_astore, zO_lstore, zO_iinc, zO_iconst, zO_bipush, zO_sipush, zO_lconst0, zO_lconst1, zO_ldc, zO_ldc2_w, zO_iadd, zO_isub, zO_imul, zO_idiv, zO_irem, zO_ineg, zO_iand, zO_ior, zO_ixor, zO_ishl, zO_ishr, zO_iushr, zO_ladd, zO_lmul, zO_land, zO_lor, zO_lshl, zO_lcmp, zO_i2l, zO_l2i, zO_i2b, zO_dup0, zO_dup2, zO_dup200, zO_dup202, zO_dup220, zO_dup222, zO_ifCond_eq, zO_ifCond_ne, zO_ifCond_lt, zO_ifCond_ge, zO_ifCond_gt, zO_ifCond_le, zO_if_icmp_eq, zO_if_icmp_ne, zO_if_icmp_lt, zO_if_icmp_ge, zO_if_icmp_gt, zO_if_icmp_le, zO_getfield, zO_putfield, zO_iaload, zO_baload, zO_laload, zO_iastore, zO_bastore, zO_lastore, zO_arraylength, zO_invokevirtual, zO_lreturn, zO_areturn, zO_return_, zO_tableswitch, zO_lookupswitch, zO_is0, zO_is1, zO_is2, zO_is3, zO_is4, zO_is9, zO_is10, zO_is11, zO_is12, zO_ir1, zO_ir4, zB_c, zLd_0, zLd_s, zSt_c, zSt2_c, zU_c, zD_c, zY_c, zSw_n, zSw_c, zCall_c, zVirt_c, zP_0, zP_1, zP_2, zP_3, zP_4, zGet_n, zGet_z, zPut_n, zPut_z, zcw_n, zcw_0, zcw_1, zcw_2, List.length_cons, List.length_nil, List.take_succ_cons, List.take_zero, List.drop_succ_cons, List.drop_zero, List.reverse_cons, List.reverse_nil, List.nil_append, List.cons_append, List.append_nil, List.set_cons_zero, List.set_cons_succ, List.getD_cons_zero, List.getD_cons_succ, true_and, and_true, ne_eq, not_false_eq_true, not_true_eq_false, zif, Nat.reduceAdd, Nat.reduceLeDiff, Nat.reduceLT, Nat.reduceSub, Nat.reduceEqDiff, Nat.zero_le, Nat.lt_add_one, Nat.reduceMod, false_implies, true_implies, implies_true, forall_const, Int.reduceLE, Int.reduceLT, Int.reduceEq, Int.reduceNeg, ite10_0, ite10_1, zem, zem2, Classical.not_not, and_self, or_true, true_or, or_false, false_or]
      rw [← hQ]
      refine ⟨?_, rfl⟩
      by_cases q : x = 0
      · rw [q]; decide
      · have := inv_1 (x := x) (by omega)
        exact absurd this.1 (g _ this.2.1 (by omega))
  simp only [e107, k107_0, zO_nop, zO_goto, zO_iload_n0, zO_iload_n1, zO_iload_n2, zO_iload_n3, zO_iload, zO_lload_n0, zO_lload_n1, zO_lload_n2, zO_lload_n3, zO_lload, zO_aload_n0, zO_aload_n1, zO_aload_n2, zO_aload_n3, zO_aload, zO_istore_n0, zO_istore_n1, zO_istore_n2, zO_istore_n3, zO_istore, zO_astore_n0, zO_astore_n1, zO_astore_n2, zO_astore_n3, zO_astore, zO_lstore, zO_iinc, zO_iconst, zO_bipush, zO_sipush, zO_lconst0, zO_lconst1, zO_ldc, zO_ldc2_w, zO_iadd, zO_isub, zO_imul, zO_idiv, zO_irem, zO_ineg, zO_iand, zO_ior, zO_ixor, zO_ishl, zO_ishr, zO_iushr, zO_ladd, zO_lmul, zO_land, zO_lor, zO_lshl, zO_lcmp, zO_i2l, zO_l2i, zO_i2b, zO_dup0, zO_dup2, zO_dup200, zO_dup202, zO_dup220, zO_dup222, zO_ifCond_eq, zO_ifCond_ne, zO_ifCond_lt, zO_ifCond_ge, zO_ifCond_gt, zO_ifCond_le, zO_if_icmp_eq, zO_if_icmp_ne, zO_if_icmp_lt, zO_if_icmp_ge, zO_if_icmp_gt, zO_if_icmp_le, zO_getfield, zO_putfield, zO_iaload, zO_baload, zO_laload, zO_iastore, zO_bastore, zO_lastore, zO_arraylength, zO_invokevirtual, zO_lreturn, zO_areturn, zO_return_, zO_tableswitch, zO_lookupswitch, zO_is0, zO_is1, zO_is2, zO_is3, zO_is4, zO_is9, zO_is10, zO_is11, zO_is12, zO_ir1, zO_ir4, zB_c, zLd_0, zLd_s, zSt_c, zSt2_c, zU_c, zD_c, zY_c, zSw_n, zSw_c, zCall_c, zVirt_c, zP_0, zP_1, zP_2, zP_3, zP_4, zGet_n, zGet_z, zPut_n, zPut_z, zcw_n, zcw_0, zcw_1, zcw_2, List.length_cons, List.length_nil, List.take_succ_cons, List.take_zero, List.drop_succ_cons, List.drop_zero, List.reverse_cons, List.reverse_nil, List.nil_append, List.cons_append, List.append_nil, List.set_cons_zero, List.set_cons_succ, List.getD_cons_zero, List.getD_cons_succ, true_and, and_true, ne_eq, not_false_eq_true, not_true_eq_false, zif, Nat.reduceAdd, Nat.reduceLeDiff, Nat.reduceLT, Nat.reduceSub, Nat.reduceEqDiff, Nat.zero_le, Nat.lt_add_one, Nat.reduceMod, false_implies, true_implies, implies_true, forall_const, Int.reduceLE, Int.reduceLT, Int.reduceEq, Int.reduceNeg, ite10_0, ite10_1, zem, zem2, Classical.not_not, and_self, or_true, true_or, or_false, false_or]
  exact hl 1 () (by omega) (by omega) ⟨by omega, fun c' a b => by omega⟩
theorem L_inverse {d : Nat} {x : Int} {μ : zM} {P : Int → zM → Prop} (h : 1 ≤ x ∧ x ≤ 30) : zC (d + 1) 153 [(0, x)] μ P ↔ P (inv31 x) μ := by
  refine zC_is ?_
  generalize hQ : (fun (r : Int) (u : zM) => r = inv31 x ∧ u = μ) = Q
  have hl : ∀ c (s : Unit), 0 ≤ c → c ≤ 31 → (1 ≤ c ∧ ∀ c', 1 ≤ c' → c' < c → ¬ x * c' % 31 = 1) → zR d 153 Q 2 [(0, x), (0, c)] [] μ := by
    refine zloop (n := 31) (Inv := fun c (_ : Unit) => 1 ≤ c ∧ ∀ c', 1 ≤ c' → c' < c → ¬ x * c' % 31 = 1) (R := fun c _ => zR d 153 Q 2 [(0, x), (0, c)] [] μ) ?_ ?_
    · rintro c _ c0 c1 ⟨c2, g⟩ ih
      have p := zmul_bd (show 0 ≤ x ∧ x ≤ 30 by omega) (show 0 ≤ c ∧ c ≤ 30 by omega)
      have e2 : (zw (c * x)).tmod 31 = x * c % 31 := by rw [Int.mul_comm c x, zw_e (by omega) (by omega), Int.tmod_eq_emod_of_nonneg p.1]
      rw [u153_2]
      simp only [k153_2, e153, k153_0, u153_18, k153_18, zO_nop, zO_goto, zO_iload_n0, zO_iload_n1, zO_iload_n2, zO_iload_n3, zO_iload, zO_lload_n0, zO_lload_n1, zO_lload_n2, zO_lload_n3, zO_lload, zO_aload_n0, zO_aload_n1, zO_aload_n2, zO_aload_n3, zO_aload, zO_istore_n0, zO_istore_n1, zO_istore_n2, zO_istore_n3, zO_istore, zO_astore_n0, zO_astore_n1, zO_astore_n2, zO_astore_n3, zO_astore, zO_lstore, zO_iinc, zO_iconst, zO_bipush, zO_sipush, zO_lconst0, zO_lconst1, zO_ldc, zO_ldc2_w, zO_iadd, zO_isub, zO_imul, zO_idiv, zO_irem, zO_ineg, zO_iand, zO_ior, zO_ixor, zO_ishl, zO_ishr, zO_iushr, zO_ladd, zO_lmul, zO_land, zO_lor, zO_lshl, zO_lcmp, zO_i2l, zO_l2i, zO_i2b, zO_dup0, zO_dup2, zO_dup200, zO_dup202, zO_dup220, zO_dup222, zO_ifCond_eq, zO_ifCond_ne, zO_ifCond_lt, zO_ifCond_ge, zO_ifCond_gt, zO_ifCond_le, zO_if_icmp_eq, zO_if_icmp_ne, zO_if_icmp_lt, zO_if_icmp_ge, zO_if_icmp_gt, zO_if_icmp_le, zO_getfield, zO_putfield, zO_iaload, zO_baload, zO_laload, zO_iastore, zO_bastore, zO_lastore, zO_arraylength, zO_invokevirtual, zO_lreturn, zO_areturn, zO_return_, zO_tableswitch, zO_lookupswitch, zO_is0, zO_is1, zO_is2, zO_is3, zO_is4, zO_is9, zO_is10, zO_is11, zO_is12, zO_ir1, zO_ir4, zB_c, zLd_0, zLd_s, zSt_c, zSt2_c, zU_c, zD_c, zY_c, zSw_n, zSw_c, zCall_c, zVirt_c, zP_0, zP_1, zP_2, zP_3, zP_4, zGet_n, zGet_z, zPut_n, zPut_z, zcw_n, zcw_0, zcw_1, zcw_2, List.length_cons, List.length_nil, List.take_succ_cons, List.take_zero, List.drop_succ_cons, List.drop_zero, List.reverse_cons, List.reverse_nil, List.nil_append, List.cons_append, List.append_nil, List.set_cons_zero, List.set_cons_succ, List.getD_cons_zero, List.getD_cons_succ, true_and, and_true, ne_eq, not_false_eq_true, not_true_eq_false, zif, Nat.reduceAdd, Nat.reduceLeDiff, Nat.reduceLT, Nat.reduceSub, Nat.reduceEqDiff, Nat.zero_le, Nat.lt_add_one, Nat.reduceMod, false_implies, true_implies, implies_true, forall_const, Int.reduceLE, Int.reduceLT, Int.reduceEq, Int.reduceNeg, ite10_0, ite10_1, zem, zem2, Classical.not_not, and_self, or_true, true_or, or_false, false_or, e2]
      rw [zw_e (z := c + 1) (by omega) (by omega)]
      refine ⟨fun e => ?_, fun e => ih () ⟨by omega, fun c' a b => ?_⟩⟩
      · rw [← hQ]; exact ⟨inv_u (by omega) (by omega) e, rfl⟩
      · by_cases q : c' = c
        · rw [q]; exact e
        · exact g c' a (by omega)
    · rintro _ ⟨c2, g⟩
      exfalso
      have := inv_1 h
      exact g _ this.2.1 (by omega) this.1
  simp only [e153, k153_0, zO_nop, zO_goto, zO_iload_n0, zO_iload_n1, zO_iload_n2, zO_iload_n3, zO_iload, zO_lload_n0, zO_lload_n1, zO_lload_n2, zO_lload_n3, zO_lload, zO_aload_n0, zO_aload_n1, zO_aload_n2, zO_aload_n3, zO_aload, zO_istore_n0, zO_istore_n1, zO_istore_n2, zO_istore_n3, zO_istore, zO_astore_n0, zO_astore_n1, zO_astore_n2, zO_astore_n3, zO_astore, zO_lstore, zO_iinc, zO_iconst, zO_bipush, zO_sipush, zO_lconst0, zO_lconst1, zO_ldc, zO_ldc2_w, zO_iadd, zO_isub, zO_imul, zO_idiv, zO_irem, zO_ineg, zO_iand, zO_ior, zO_ixor, zO_ishl, zO_ishr, zO_iushr, zO_ladd, zO_lmul, zO_land, zO_lor, zO_lshl, zO_lcmp, zO_i2l, zO_l2i, zO_i2b, zO_dup0, zO_dup2, zO_dup200, zO_dup202, zO_dup220, zO_dup222, zO_ifCond_eq, zO_ifCond_ne, zO_ifCond_lt, zO_ifCond_ge, zO_ifCond_gt, zO_ifCond_le, zO_if_icmp_eq, zO_if_icmp_ne, zO_if_icmp_lt, zO_if_icmp_ge, zO_if_icmp_gt, zO_if_icmp_le, zO_getfield, zO_putfield, zO_iaload, zO_baload, zO_laload, zO_iastore, zO_bastore, zO_lastore, zO_arraylength, zO_invokevirtual, zO_lreturn, zO_areturn, zO_return_, zO_tableswitch, zO_lookupswitch, zO_is0, zO_is1, zO_is2, zO_is3, zO_is4, zO_is9, zO_is10, zO_is11, zO_is12, zO_ir1, zO_ir4, zB_c, zLd_0, zLd_s, zSt_c, zSt2_c, zU_c, zD_c, zY_c, zSw_n, zSw_c, zCall_c, zVirt_c, zP_0, zP_1, zP_2, zP_3, zP_4, zGet_n, zGet_z, zPut_n, zPut_z, zcw_n, zcw_0, zcw_1, zcw_2, List.length_cons, List.length_nil, List.take_succ_cons, List.take_zero, List.drop_succ_cons, List.drop_zero, List.reverse_cons, List.reverse_nil, List.nil_append, List.cons_append, List.append_nil, List.set_cons_zero, List.set_cons_succ, List.getD_cons_zero, List.getD_cons_succ, true_and, and_true, ne_eq, not_false_eq_true, not_true_eq_false, zif, Nat.reduceAdd, Nat.reduceLeDiff, Nat.reduceLT, Nat.reduceSub, Nat.reduceEqDiff, Nat.zero_le, Nat.lt_add_one, Nat.reduceMod, false_implies, true_implies, implies_true, forall_const, Int.reduceLE, Int.reduceLT, Int.reduceEq, Int.reduceNeg, ite10_0, ite10_1, zem, zem2, Classical.not_not, and_self, or_true, true_or, or_false, false_or]
  exact hl 1 () (by omega) (by omega) ⟨by omega, fun c' a b => by omega⟩
def swp (A : Int → Int → Int) (p q i m : Int) : Int := if i = p then A q m else if i = q then A p m else A i m
theorem swp_bd {n p q : Int} {A : Int → Int → Int} (h : mBd n A) (hp : zrg n p) (hq : zrg n q) : mBd n (swp A p q) := fun i m hi hm => by
  unfold swp
  by_cases a : i = p
  · rw [if_pos a]; exact h q m hq hm
  · rw [if_neg a]
    by_cases b : i = q
    · rw [if_pos b]; exact h p m hp hm
    · rw [if_neg b]; exact h i m hi hm
theorem K_swap27 {d : Nat} {n p q : Int} {A : Int → Int → Int} {μ : zM} (hn : 1 ≤ n ∧ n ≤ 5) (hp : zrg n p) (hq : zrg n q) (hA : mTb 27 0 n A μ) : zC (d + 1) 41 [(2, 27), (0, p), (0, q)] μ (fun x u => x = 0 ∧ zfr [(27, -1)] μ u ∧ mTb 27 0 n (swp A p q) u) := by
  generalize hQ : (fun (x : Int) (u : zM) => x = 0 ∧ zfr [(27, -1)] μ u ∧ mTb 27 0 n (swp A p q) u) = Q
  have p0 := hp.1
  have p1 := hp.2
  have q0 := hq.1
  have q1 := hq.2
  have hl : ∀ t w, 0 ≤ t → t ≤ 5 → (zfr [(27, -1)] μ w ∧ ∀ i m, (0 ≤ i ∧ i < 5) → (0 ≤ m ∧ m < 5) → w 27 (5 * i + m) = if m < t then (if i = p then μ 27 (5 * q + m) else if i = q then μ 27 (5 * p + m) else μ 27 (5 * i + m)) else μ 27 (5 * i + m)) → ∀ x, zR d 41 Q 2 [(2, 27), (0, p), (0, q), (0, t), x] [] w := by
    refine zloop (n := 5) (Inv := fun t w => zfr [(27, -1)] μ w ∧ ∀ i m, (0 ≤ i ∧ i < 5) → (0 ≤ m ∧ m < 5) → w 27 (5 * i + m) = if m < t then (if i = p then μ 27 (5 * q + m) else if i = q then μ 27 (5 * p + m) else μ 27 (5 * i + m)) else μ 27 (5 * i + m)) (R := fun t w => ∀ x, zR d 41 Q 2 [(2, 27), (0, p), (0, q), (0, t), x] [] w) ?_ ?_
    · rintro t w t0 t1 ⟨f, g⟩ ih x
      have e1 : zw (zw (p*5) + t) = 5 * p + t := by (simp (disch := omega) only [zw_e]) <;> omega
      have e2 : zw (zw (q*5) + t) = 5 * q + t := by (simp (disch := omega) only [zw_e]) <;> omega
      have gp := g p t (by omega) (by omega)
      have gq := g q t (by omega) (by omega)
      rw [if_neg (by omega)] at gp gq
      rw [u41_2]
      simp only [k41_2, e41, k41_0, u41_45, k41_45, zO_nop, zO_goto, zO_iload_n0, zO_iload_n1, zO_iload_n2, zO_iload_n3, zO_iload, zO_lload_n0, zO_lload_n1, zO_lload_n2, zO_lload_n3, zO_lload, zO_aload_n0, zO_aload_n1, zO_aload_n2, zO_aload_n3, zO_aload, zO_istore_n0, zO_istore_n1, zO_istore_n2, zO_istore_n3, zO_istore, zO_astore_n0, zO_astore_n1, zO_astore_n2, zO_astore_n3, zO_astore, zO_lstore, zO_iinc, zO_iconst, zO_bipush, zO_sipush, zO_lconst0, zO_lconst1, zO_ldc, zO_ldc2_w, zO_iadd, zO_isub, zO_imul, zO_idiv, zO_irem, zO_ineg, zO_iand, zO_ior, zO_ixor, zO_ishl, zO_ishr, zO_iushr, zO_ladd, zO_lmul, zO_land, zO_lor, zO_lshl, zO_lcmp, zO_i2l, zO_l2i, zO_i2b, zO_dup0, zO_dup2, zO_dup200, zO_dup202, zO_dup220, zO_dup222, zO_ifCond_eq, zO_ifCond_ne, zO_ifCond_lt, zO_ifCond_ge, zO_ifCond_gt, zO_ifCond_le, zO_if_icmp_eq, zO_if_icmp_ne, zO_if_icmp_lt, zO_if_icmp_ge, zO_if_icmp_gt, zO_if_icmp_le, zO_getfield, zO_putfield, zO_iaload, zO_baload, zO_laload, zO_iastore, zO_bastore, zO_lastore, zO_arraylength, zO_invokevirtual, zO_lreturn, zO_areturn, zO_return_, zO_tableswitch, zO_lookupswitch, zO_is0, zO_is1, zO_is2, zO_is3, zO_is4, zO_is9, zO_is10, zO_is11, zO_is12, zO_ir1, zO_ir4, zB_c, zLd_0, zLd_s, zSt_c, zSt2_c, zU_c, zD_c, zY_c, zSw_n, zSw_c, zCall_c, zVirt_c, zP_0, zP_1, zP_2, zP_3, zP_4, zGet_n, zGet_z, zPut_n, zPut_z, zcw_n, zcw_0, zcw_1, zcw_2, List.length_cons, List.length_nil, List.take_succ_cons, List.take_zero, List.drop_succ_cons, List.drop_zero, List.reverse_cons, List.reverse_nil, List.nil_append, List.cons_append, List.append_nil, List.set_cons_zero, List.set_cons_succ, List.getD_cons_zero, List.getD_cons_succ, true_and, and_true, ne_eq, not_false_eq_true, not_true_eq_false, zif, Nat.reduceAdd, Nat.reduceLeDiff, Nat.reduceLT, Nat.reduceSub, Nat.reduceEqDiff, Nat.zero_le, Nat.lt_add_one, Nat.reduceMod, false_implies, true_implies, implies_true, forall_const, Int.reduceLE, Int.reduceLT, Int.reduceEq, Int.reduceNeg, ite10_0, ite10_1, zem, zem2, Classical.not_not, and_self, or_true, true_or, or_false, false_or, zAl_27, zAs_27, e1, e2, gp, gq]
      rw [zw_e (z := t + 1) (by omega) (by omega)]
      have ih2 := ih (zu (zu w 27 (5 * p + t) (μ 27 (5 * q + t))) 27 (5 * q + t) (μ 27 (5 * p + t))) ⟨zfr_w (zfr_w f (by decide)) (by decide), fun i m hi hm => by
        have := g i m hi hm
        simp only [zu_d, true_and]
        by_cases em : m = t
        · subst em
          by_cases a : i = p
          · subst a
            by_cases b : i = q
            · subst b; simp
            · rw [if_neg (by omega), if_pos (by omega), if_pos (by omega), if_pos rfl]
          · by_cases b : i = q
            · subst b
              rw [if_pos (by omega), if_pos (by omega), if_neg a, if_pos rfl]
            · rw [if_neg (by omega), if_neg (by omega), if_pos (by omega), if_neg a, if_neg b, this]
              try rw [if_neg (by omega)]
        · rw [if_neg (show ¬ 5 * i + m = 5 * q + t by omega), if_neg (show ¬ 5 * i + m = 5 * p + t by omega), this]
          by_cases a : m < t
          · rw [if_pos a, if_pos (show m < t + 1 by omega)]
          · rw [if_neg a, if_neg (show ¬ m < t + 1 by omega)]⟩ (0, μ 27 (5 * p + t))
      refine ⟨fun _ => ?_, fun e => absurd t1 e⟩
      (repeat' (first | assumption | (with_reducible refine And.intro ?_ ?_) | (intro hh; first | subst hh | skip)))
      all_goals omega
    · rintro w ⟨f, g⟩ x
      rw [u41_2]
      simp only [k41_2, e41, k41_0, u41_45, k41_45, zO_nop, zO_goto, zO_iload_n0, zO_iload_n1, zO_iload_n2, zO_iload_n3, zO_iload, zO_lload_n0, zO_lload_n1, zO_lload_n2, zO_lload_n3, zO_lload, zO_aload_n0, zO_aload_n1, zO_aload_n2, zO_aload_n3, zO_aload, zO_istore_n0, zO_istore_n1, zO_istore_n2, zO_istore_n3, zO_istore, zO_astore_n0, zO_astore_n1, zO_astore_n2, zO_astore_n3, zO_astore, zO_lstore, zO_iinc, zO_iconst, zO_bipush, zO_sipush, zO_lconst0, zO_lconst1, zO_ldc, zO_ldc2_w, zO_iadd, zO_isub, zO_imul, zO_idiv, zO_irem, zO_ineg, zO_iand, zO_ior, zO_ixor, zO_ishl, zO_ishr, zO_iushr, zO_ladd, zO_lmul, zO_land, zO_lor, zO_lshl, zO_lcmp, zO_i2l, zO_l2i, zO_i2b, zO_dup0, zO_dup2, zO_dup200, zO_dup202, zO_dup220, zO_dup222, zO_ifCond_eq, zO_ifCond_ne, zO_ifCond_lt, zO_ifCond_ge, zO_ifCond_gt, zO_ifCond_le, zO_if_icmp_eq, zO_if_icmp_ne, zO_if_icmp_lt, zO_if_icmp_ge, zO_if_icmp_gt, zO_if_icmp_le, zO_getfield, zO_putfield, zO_iaload, zO_baload, zO_laload, zO_iastore, zO_bastore, zO_lastore, zO_arraylength, zO_invokevirtual, zO_lreturn, zO_areturn, zO_return_, zO_tableswitch, zO_lookupswitch, zO_is0, zO_is1, zO_is2, zO_is3, zO_is4, zO_is9, zO_is10, zO_is11, zO_is12, zO_ir1, zO_ir4, zB_c, zLd_0, zLd_s, zSt_c, zSt2_c, zU_c, zD_c, zY_c, zSw_n, zSw_c, zCall_c, zVirt_c, zP_0, zP_1, zP_2, zP_3, zP_4, zGet_n, zGet_z, zPut_n, zPut_z, zcw_n, zcw_0, zcw_1, zcw_2, List.length_cons, List.length_nil, List.take_succ_cons, List.take_zero, List.drop_succ_cons, List.drop_zero, List.reverse_cons, List.reverse_nil, List.nil_append, List.cons_append, List.append_nil, List.set_cons_zero, List.set_cons_succ, List.getD_cons_zero, List.getD_cons_succ, true_and, and_true, ne_eq, not_false_eq_true, not_true_eq_false, zif, Nat.reduceAdd, Nat.reduceLeDiff, Nat.reduceLT, Nat.reduceSub, Nat.reduceEqDiff, Nat.zero_le, Nat.lt_add_one, Nat.reduceMod, false_implies, true_implies, implies_true, forall_const, Int.reduceLE, Int.reduceLT, Int.reduceEq, Int.reduceNeg, ite10_0, ite10_1, zem, zem2, Classical.not_not, and_self, or_true, true_or, or_false, false_or]
      rw [← hQ]
      refine ⟨rfl, f, fun i m hi hm => ?_⟩
      have h1 := hi.2
      have h2 := hm.2
      have a1 := hA i m hi hm
      have a2 := hA p m hp hm
      have a3 := hA q m hq hm
      rw [Int.zero_add] at a1 a2 a3 ⊢
      rw [g i m ⟨hi.1, by omega⟩ ⟨hm.1, by omega⟩, if_pos (by omega), a1, a2, a3]
      rfl
  simp only [e41, k41_0, zO_nop, zO_goto, zO_iload_n0, zO_iload_n1, zO_iload_n2, zO_iload_n3, zO_iload, zO_lload_n0, zO_lload_n1, zO_lload_n2, zO_lload_n3, zO_lload, zO_aload_n0, zO_aload_n1, zO_aload_n2, zO_aload_n3, zO_aload, zO_istore_n0, zO_istore_n1, zO_istore_n2, zO_istore_n3, zO_istore, zO_astore_n0, zO_astore_n1, zO_astore_n2, zO_astore_n3, zO_astore, zO_lstore, zO_iinc, zO_iconst, zO_bipush, zO_sipush, zO_lconst0, zO_lconst1, zO_ldc, zO_ldc2_w, zO_iadd, zO_isub, zO_imul, zO_idiv, zO_irem, zO_ineg, zO_iand, zO_ior, zO_ixor, zO_ishl, zO_ishr, zO_iushr, zO_ladd, zO_lmul, zO_land, zO_lor, zO_lshl, zO_lcmp, zO_i2l, zO_l2i, zO_i2b, zO_dup0, zO_dup2, zO_dup200, zO_dup202, zO_dup220, zO_dup222, zO_ifCond_eq, zO_ifCond_ne, zO_ifCond_lt, zO_ifCond_ge, zO_ifCond_gt, zO_ifCond_le, zO_if_icmp_eq, zO_if_icmp_ne, zO_if_icmp_lt, zO_if_icmp_ge, zO_if_icmp_gt, zO_if_icmp_le, zO_getfield, zO_putfield, zO_iaload, zO_baload, zO_laload, zO_iastore, zO_bastore, zO_lastore, zO_arraylength, zO_invokevirtual, zO_lreturn, zO_areturn, zO_return_, zO_tableswitch, zO_lookupswitch, zO_is0, zO_is1, zO_is2, zO_is3, zO_is4, zO_is9, zO_is10, zO_is11, zO_is12, zO_ir1, zO_ir4, zB_c, zLd_0, zLd_s, zSt_c, zSt2_c, zU_c, zD_c, zY_c, zSw_n, zSw_c, zCall_c, zVirt_c, zP_0, zP_1, zP_2, zP_3, zP_4, zGet_n, zGet_z, zPut_n, zPut_z, zcw_n, zcw_0, zcw_1, zcw_2, List.length_cons, List.length_nil, List.take_succ_cons, List.take_zero, List.drop_succ_cons, List.drop_zero, List.reverse_cons, List.reverse_nil, List.nil_append, List.cons_append, List.append_nil, List.set_cons_zero, List.set_cons_succ, List.getD_cons_zero, List.getD_cons_succ, true_and, and_true, ne_eq, not_false_eq_true, not_true_eq_false, zif, Nat.reduceAdd, Nat.reduceLeDiff, Nat.reduceLT, Nat.reduceSub, Nat.reduceEqDiff, Nat.zero_le, Nat.lt_add_one, Nat.reduceMod, false_implies, true_implies, implies_true, forall_const, Int.reduceLE, Int.reduceLT, Int.reduceEq, Int.reduceNeg, ite10_0, ite10_1, zem, zem2, Classical.not_not, and_self, or_true, true_or, or_false, false_or]
  exact hl 0 μ (by omega) (by omega) ⟨zfr_rf, fun i m hi hm => by rw [if_neg (by omega)]⟩ _
theorem K_swap25 {d : Nat} {n p q : Int} {A : Int → Int → Int} {μ : zM} (hn : 1 ≤ n ∧ n ≤ 5) (hp : zrg n p) (hq : zrg n q) (hA : mTb 25 0 n A μ) : zC (d + 1) 41 [(2, 25), (0, p), (0, q)] μ (fun x u => x = 0 ∧ zfr [(25, -1)] μ u ∧ mTb 25 0 n (swp A p q) u) := by
  generalize hQ : (fun (x : Int) (u : zM) => x = 0 ∧ zfr [(25, -1)] μ u ∧ mTb 25 0 n (swp A p q) u) = Q
  have p0 := hp.1
  have p1 := hp.2
  have q0 := hq.1
  have q1 := hq.2
  have hl : ∀ t w, 0 ≤ t → t ≤ 5 → (zfr [(25, -1)] μ w ∧ ∀ i m, (0 ≤ i ∧ i < 5) → (0 ≤ m ∧ m < 5) → w 25 (5 * i + m) = if m < t then (if i = p then μ 25 (5 * q + m) else if i = q then μ 25 (5 * p + m) else μ 25 (5 * i + m)) else μ 25 (5 * i + m)) → ∀ x, zR d 41 Q 2 [(2, 25), (0, p), (0, q), (0, t), x] [] w := by
    refine zloop (n := 5) (Inv := fun t w => zfr [(25, -1)] μ w ∧ ∀ i m, (0 ≤ i ∧ i < 5) → (0 ≤ m ∧ m < 5) → w 25 (5 * i + m) = if m < t then (if i = p then μ 25 (5 * q + m) else if i = q then μ 25 (5 * p + m) else μ 25 (5 * i + m)) else μ 25 (5 * i + m)) (R := fun t w => ∀ x, zR d 41 Q 2 [(2, 25), (0, p), (0, q), (0, t), x] [] w) ?_ ?_
    · rintro t w t0 t1 ⟨f, g⟩ ih x
      have e1 : zw (zw (p*5) + t) = 5 * p + t := by (simp (disch := omega) only [zw_e]) <;> omega
      have e2 : zw (zw (q*5) + t) = 5 * q + t := by (simp (disch := omega) only [zw_e]) <;> omega
      have gp := g p t (by omega) (by omega)
      have gq := g q t (by omega) (by omega)
      rw [if_neg (by omega)] at gp gq
      rw [u41_2]
      simp only [k41_2, e41, k41_0, u41_45, k41_45, zO_nop, zO_goto, zO_iload_n0, zO_iload_n1, zO_iload_n2, zO_iload_n3, zO_iload, zO_lload_n0, zO_lload_n1, zO_lload_n2, zO_lload_n3, zO_lload, zO_aload_n0, zO_aload_n1, zO_aload_n2, zO_aload_n3, zO_aload, zO_istore_n0, zO_istore_n1, zO_istore_n2, zO_istore_n3, zO_istore, zO_astore_n0, zO_astore_n1, zO_astore_n2, zO_astore_n3, zO_astore, zO_lstore, zO_iinc, zO_iconst, zO_bipush, zO_sipush, zO_lconst0, zO_lconst1, zO_ldc, zO_ldc2_w, zO_iadd, zO_isub, zO_imul, zO_idiv, zO_irem, zO_ineg, zO_iand, zO_ior, zO_ixor, zO_ishl, zO_ishr, zO_iushr, zO_ladd, zO_lmul, zO_land, zO_lor, zO_lshl, zO_lcmp, zO_i2l, zO_l2i, zO_i2b, zO_dup0, zO_dup2, zO_dup200, zO_dup202, zO_dup220, zO_dup222, zO_ifCond_eq, zO_ifCond_ne, zO_ifCond_lt, zO_ifCond_ge, zO_ifCond_gt, zO_ifCond_le, zO_if_icmp_eq, zO_if_icmp_ne, zO_if_icmp_lt, zO_if_icmp_ge, zO_if_icmp_gt, zO_if_icmp_le, zO_getfield, zO_putfield, zO_iaload, zO_baload, zO_laload, zO_iastore, zO_bastore, zO_lastore, zO_arraylength, zO_invokevirtual, zO_lreturn, zO_areturn, zO_return_, zO_tableswitch, zO_lookupswitch, zO_is0, zO_is1, zO_is2, zO_is3, zO_is4, zO_is9, zO_is10, zO_is11, zO_is12, zO_ir1, zO_ir4, zB_c, zLd_0, zLd_s, zSt_c, zSt2_c, zU_c, zD_c, zY_c, zSw_n, zSw_c, zCall_c, zVirt_c, zP_0, zP_1, zP_2, zP_3, zP_4, zGet_n, zGet_z, zPut_n, zPut_z, zcw_n, zcw_0, zcw_1, zcw_2, List.length_cons, List.length_nil, List.take_succ_cons, List.take_zero, List.drop_succ_cons, List.drop_zero, List.reverse_cons, List.reverse_nil, List.nil_append, List.cons_append, List.append_nil, List.set_cons_zero, List.set_cons_succ, List.getD_cons_zero, List.getD_cons_succ, true_and, and_true, ne_eq, not_false_eq_true, not_true_eq_false, zif, Nat.reduceAdd, Nat.reduceLeDiff, Nat.reduceLT, Nat.reduceSub, Nat.reduceEqDiff, Nat.zero_le, Nat.lt_add_one, Nat.reduceMod, false_implies, true_implies, implies_true, forall_const, Int.reduceLE, Int.reduceLT, Int.reduceEq, Int.reduceNeg, ite10_0, ite10_1, zem, zem2, Classical.not_not, and_self, or_true, true_or, or_false, false_or, zAl_25, zAs_25, e1, e2, gp, gq]
      rw [zw_e (z := t + 1) (by omega) (by omega)]
      have ih2 := ih (zu (zu w 25 (5 * p + t) (μ 25 (5 * q + t))) 25 (5 * q + t) (μ 25 (5 * p + t))) ⟨zfr_w (zfr_w f (by decide)) (by decide), fun i m hi hm => by
        have := g i m hi hm
        simp only [zu_d, true_and]
        by_cases em : m = t
        · subst em
          by_cases a : i = p
          · subst a
            by_cases b : i = q
            · subst b; simp
            · rw [if_neg (by omega), if_pos (by omega), if_pos (by omega), if_pos rfl]
          · by_cases b : i = q
            · subst b
              rw [if_pos (by omega), if_pos (by omega), if_neg a, if_pos rfl]
            · rw [if_neg (by omega), if_neg (by omega), if_pos (by omega), if_neg a, if_neg b, this]
              try rw [if_neg (by omega)]
        · rw [if_neg (show ¬ 5 * i + m = 5 * q + t by omega), if_neg (show ¬ 5 * i + m = 5 * p + t by omega), this]
          by_cases a : m < t
          · rw [if_pos a, if_pos (show m < t + 1 by omega)]
          · rw [if_neg a, if_neg (show ¬ m < t + 1 by omega)]⟩ (0, μ 25 (5 * p + t))
      refine ⟨fun _ => ?_, fun e => absurd t1 e⟩
      (repeat' (first | assumption | (with_reducible refine And.intro ?_ ?_) | (intro hh; first | subst hh | skip)))
      all_goals omega
    · rintro w ⟨f, g⟩ x
      rw [u41_2]
      simp only [k41_2, e41, k41_0, u41_45, k41_45, zO_nop, zO_goto, zO_iload_n0, zO_iload_n1, zO_iload_n2, zO_iload_n3, zO_iload, zO_lload_n0, zO_lload_n1, zO_lload_n2, zO_lload_n3, zO_lload, zO_aload_n0, zO_aload_n1, zO_aload_n2, zO_aload_n3, zO_aload, zO_istore_n0, zO_istore_n1, zO_istore_n2, zO_istore_n3, zO_istore, zO_astore_n0, zO_astore_n1, zO_astore_n2, zO_astore_n3, zO_astore, zO_lstore, zO_iinc, zO_iconst, zO_bipush, zO_sipush, zO_lconst0, zO_lconst1, zO_ldc, zO_ldc2_w, zO_iadd, zO_isub, zO_imul, zO_idiv, zO_irem, zO_ineg, zO_iand, zO_ior, zO_ixor, zO_ishl, zO_ishr, zO_iushr, zO_ladd, zO_lmul, zO_land, zO_lor, zO_lshl, zO_lcmp, zO_i2l, zO_l2i, zO_i2b, zO_dup0, zO_dup2, zO_dup200, zO_dup202, zO_dup220, zO_dup222, zO_ifCond_eq, zO_ifCond_ne, zO_ifCond_lt, zO_ifCond_ge, zO_ifCond_gt, zO_ifCond_le, zO_if_icmp_eq, zO_if_icmp_ne, zO_if_icmp_lt, zO_if_icmp_ge, zO_if_icmp_gt, zO_if_icmp_le, zO_getfield, zO_putfield, zO_iaload, zO_baload, zO_laload, zO_iastore, zO_bastore, zO_lastore, zO_arraylength, zO_invokevirtual, zO_lreturn, zO_areturn, zO_return_, zO_tableswitch, zO_lookupswitch, zO_is0, zO_is1, zO_is2, zO_is3, zO_is4, zO_is9, zO_is10, zO_is11, zO_is12, zO_ir1, zO_ir4, zB_c, zLd_0, zLd_s, zSt_c, zSt2_c, zU_c, zD_c, zY_c, zSw_n, zSw_c, zCall_c, zVirt_c, zP_0, zP_1, zP_2, zP_3, zP_4, zGet_n, zGet_z, zPut_n, zPut_z, zcw_n, zcw_0, zcw_1, zcw_2, List.length_cons, List.length_nil, List.take_succ_cons, List.take_zero, List.drop_succ_cons, List.drop_zero, List.reverse_cons, List.reverse_nil, List.nil_append, List.cons_append, List.append_nil, List.set_cons_zero, List.set_cons_succ, List.getD_cons_zero, List.getD_cons_succ, true_and, and_true, ne_eq, not_false_eq_true, not_true_eq_false, zif, Nat.reduceAdd, Nat.reduceLeDiff, Nat.reduceLT, Nat.reduceSub, Nat.reduceEqDiff, Nat.zero_le, Nat.lt_add_one, Nat.reduceMod, false_implies, true_implies, implies_true, forall_const, Int.reduceLE, Int.reduceLT, Int.reduceEq, Int.reduceNeg, ite10_0, ite10_1, zem, zem2, Classical.not_not, and_self, or_true, true_or, or_false, false_or]
      rw [← hQ]
      refine ⟨rfl, f, fun i m hi hm => ?_⟩
      have h1 := hi.2
      have h2 := hm.2
      have a1 := hA i m hi hm
      have a2 := hA p m hp hm
      have a3 := hA q m hq hm
      rw [Int.zero_add] at a1 a2 a3 ⊢
      rw [g i m ⟨hi.1, by omega⟩ ⟨hm.1, by omega⟩, if_pos (by omega), a1, a2, a3]
      rfl
  simp only [e41, k41_0, zO_nop, zO_goto, zO_iload_n0, zO_iload_n1, zO_iload_n2, zO_iload_n3, zO_iload, zO_lload_n0, zO_lload_n1, zO_lload_n2, zO_lload_n3, zO_lload, zO_aload_n0, zO_aload_n1, zO_aload_n2, zO_aload_n3, zO_aload, zO_istore_n0, zO_istore_n1, zO_istore_n2, zO_istore_n3, zO_istore, zO_astore_n0, zO_astore_n1, zO_astore_n2, zO_astore_n3, zO_astore, zO_lstore, zO_iinc, zO_iconst, zO_bipush, zO_sipush, zO_lconst0, zO_lconst1, zO_ldc, zO_ldc2_w, zO_iadd, zO_isub, zO_imul, zO_idiv, zO_irem, zO_ineg, zO_iand, zO_ior, zO_ixor, zO_ishl, zO_ishr, zO_iushr, zO_ladd, zO_lmul, zO_land, zO_lor, zO_lshl, zO_lcmp, zO_i2l, zO_l2i, zO_i2b, zO_dup0, zO_dup2, zO_dup200, zO_dup202, zO_dup220, zO_dup222, zO_ifCond_eq, zO_ifCond_ne, zO_ifCond_lt, zO_ifCond_ge, zO_ifCond_gt, zO_ifCond_le, zO_if_icmp_eq, zO_if_icmp_ne, zO_if_icmp_lt, zO_if_icmp_ge, zO_if_icmp_gt, zO_if_icmp_le, zO_getfield, zO_putfield, zO_iaload, zO_baload, zO_laload, zO_iastore, zO_bastore, zO_lastore, zO_arraylength, zO_invokevirtual, zO_lreturn, zO_areturn, zO_return_, zO_tableswitch, zO_lookupswitch, zO_is0, zO_is1, zO_is2, zO_is3, zO_is4, zO_is9, zO_is10, zO_is11, zO_is12, zO_ir1, zO_ir4, zB_c, zLd_0, zLd_s, zSt_c, zSt2_c, zU_c, zD_c, zY_c, zSw_n, zSw_c, zCall_c, zVirt_c, zP_0, zP_1, zP_2, zP_3, zP_4, zGet_n, zGet_z, zPut_n, zPut_z, zcw_n, zcw_0, zcw_1, zcw_2, List.length_cons, List.length_nil, List.take_succ_cons, List.take_zero, List.drop_succ_cons, List.drop_zero, List.reverse_cons, List.reverse_nil, List.nil_append, List.cons_append, List.append_nil, List.set_cons_zero, List.set_cons_succ, List.getD_cons_zero, List.getD_cons_succ, true_and, and_true, ne_eq, not_false_eq_true, not_true_eq_false, zif, Nat.reduceAdd, Nat.reduceLeDiff, Nat.reduceLT, Nat.reduceSub, Nat.reduceEqDiff, Nat.zero_le, Nat.lt_add_one, Nat.reduceMod, false_implies, true_implies, implies_true, forall_const, Int.reduceLE, Int.reduceLT, Int.reduceEq, Int.reduceNeg, ite10_0, ite10_1, zem, zem2, Classical.not_not, and_self, or_true, true_or, or_false, false_or]
  exact hl 0 μ (by omega) (by omega) ⟨zfr_rf, fun i m hi hm => by rw [if_neg (by omega)]⟩ _
theorem L_swap48 {d : Nat} {n p q : Int} {A : Int → Int → Int} {μ : zM} (hn : 1 ≤ n ∧ n ≤ 5) (hp : zrg n p) (hq : zrg n q) (hA : mTb 48 0 n A μ) : zC (d + 1) 154 [(2, 48), (0, p), (0, q)] μ (fun x u => x = 0 ∧ zfr [(48, -1)] μ u ∧ mTb 48 0 n (swp A p q) u) := by
  generalize hQ : (fun (x : Int) (u : zM) => x = 0 ∧ zfr [(48, -1)] μ u ∧ mTb 48 0 n (swp A p q) u) = Q
  have p0 := hp.1
  have p1 := hp.2
  have q0 := hq.1
  have q1 := hq.2
  have hl : ∀ t w, 0 ≤ t → t ≤ 5 → (zfr [(48, -1)] μ w ∧ ∀ i m, (0 ≤ i ∧ i < 5) → (0 ≤ m ∧ m < 5) → w 48 (5 * i + m) = if m < t then (if i = p then μ 48 (5 * q + m) else if i = q then μ 48 (5 * p + m) else μ 48 (5 * i + m)) else μ 48 (5 * i + m)) → ∀ x, zR d 154 Q 2 [(2, 48), (0, p), (0, q), (0, t), x] [] w := by
    refine zloop (n := 5) (Inv := fun t w => zfr [(48, -1)] μ w ∧ ∀ i m, (0 ≤ i ∧ i < 5) → (0 ≤ m ∧ m < 5) → w 48 (5 * i + m) = if m < t then (if i = p then μ 48 (5 * q + m) else if i = q then μ 48 (5 * p + m) else μ 48 (5 * i + m)) else μ 48 (5 * i + m)) (R := fun t w => ∀ x, zR d 154 Q 2 [(2, 48), (0, p), (0, q), (0, t), x] [] w) ?_ ?_
    · rintro t w t0 t1 ⟨f, g⟩ ih x
      have e1 : zw (zw (5*p) + t) = 5 * p + t := by (simp (disch := omega) only [zw_e]) <;> omega
      have e2 : zw (zw (5*q) + t) = 5 * q + t := by (simp (disch := omega) only [zw_e]) <;> omega
      have gp := g p t (by omega) (by omega)
      have gq := g q t (by omega) (by omega)
      rw [if_neg (by omega)] at gp gq
      rw [u154_2]
      simp only [k154_2, e154, k154_0, u154_45, k154_45, zO_nop, zO_goto, zO_iload_n0, zO_iload_n1, zO_iload_n2, zO_iload_n3, zO_iload, zO_lload_n0, zO_lload_n1, zO_lload_n2, zO_lload_n3, zO_lload, zO_aload_n0, zO_aload_n1, zO_aload_n2, zO_aload_n3, zO_aload, zO_istore_n0, zO_istore_n1, zO_istore_n2, zO_istore_n3, zO_istore, zO_astore_n0, zO_astore_n1, zO_astore_n2, zO_astore_n3, zO_astore, zO_lstore, zO_iinc, zO_iconst, zO_bipush, zO_sipush, zO_lconst0, zO_lconst1, zO_ldc, zO_ldc2_w, zO_iadd, zO_isub, zO_imul, zO_idiv, zO_irem, zO_ineg, zO_iand, zO_ior, zO_ixor, zO_ishl, zO_ishr, zO_iushr, zO_ladd, zO_lmul, zO_land, zO_lor, zO_lshl, zO_lcmp, zO_i2l, zO_l2i, zO_i2b, zO_dup0, zO_dup2, zO_dup200, zO_dup202, zO_dup220, zO_dup222, zO_ifCond_eq, zO_ifCond_ne, zO_ifCond_lt, zO_ifCond_ge, zO_ifCond_gt, zO_ifCond_le, zO_if_icmp_eq, zO_if_icmp_ne, zO_if_icmp_lt, zO_if_icmp_ge, zO_if_icmp_gt, zO_if_icmp_le, zO_getfield, zO_putfield, zO_iaload, zO_baload, zO_laload, zO_iastore, zO_bastore, zO_lastore, zO_arraylength, zO_invokevirtual, zO_lreturn, zO_areturn, zO_return_, zO_tableswitch, zO_lookupswitch, zO_is0, zO_is1, zO_is2, zO_is3, zO_is4, zO_is9, zO_is10, zO_is11, zO_is12, zO_ir1, zO_ir4, zB_c, zLd_0, zLd_s, zSt_c, zSt2_c, zU_c, zD_c, zY_c, zSw_n, zSw_c, zCall_c, zVirt_c, zP_0, zP_1, zP_2, zP_3, zP_4, zGet_n, zGet_z, zPut_n, zPut_z, zcw_n, zcw_0, zcw_1, zcw_2, List.length_cons, List.length_nil, List.take_succ_cons, List.take_zero, List.drop_succ_cons, List.drop_zero, List.reverse_cons, List.reverse_nil, List.nil_append, List.cons_append, List.append_nil, List.set_cons_zero, List.set_cons_succ, List.getD_cons_zero, List.getD_cons_succ, true_and, and_true, ne_eq, not_false_eq_true, not_true_eq_false, zif, Nat.reduceAdd, Nat.reduceLeDiff, Nat.reduceLT, Nat.reduceSub, Nat.reduceEqDiff, Nat.zero_le, Nat.lt_add_one, Nat.reduceMod, false_implies, true_implies, implies_true, forall_const, Int.reduceLE, Int.reduceLT, Int.reduceEq, Int.reduceNeg, ite10_0, ite10_1, zem, zem2, Classical.not_not, and_self, or_true, true_or, or_false, false_or, zAl_48, zAs_48, e1, e2, gp, gq]
      rw [zw_e (z := t + 1) (by omega) (by omega)]
      have ih2 := ih (zu (zu w 48 (5 * p + t) (μ 48 (5 * q + t))) 48 (5 * q + t) (μ 48 (5 * p + t))) ⟨zfr_w (zfr_w f (by decide)) (by decide), fun i m hi hm => by
        have := g i m hi hm
        simp only [zu_d, true_and]
        by_cases em : m = t
        · subst em
          by_cases a : i = p
          · subst a
            by_cases b : i = q
            · subst b; simp
            · rw [if_neg (by omega), if_pos (by omega), if_pos (by omega), if_pos rfl]
          · by_cases b : i = q
            · subst b
              rw [if_pos (by omega), if_pos (by omega), if_neg a, if_pos rfl]
            · rw [if_neg (by omega), if_neg (by omega), if_pos (by omega), if_neg a, if_neg b, this]
              try rw [if_neg (by omega)]
        · rw [if_neg (show ¬ 5 * i + m = 5 * q + t by omega), if_neg (show ¬ 5 * i + m = 5 * p + t by omega), this]
          by_cases a : m < t
          · rw [if_pos a, if_pos (show m < t + 1 by omega)]
          · rw [if_neg a, if_neg (show ¬ m < t + 1 by omega)]⟩ (0, μ 48 (5 * p + t))
      refine ⟨fun _ => ?_, fun e => absurd t1 e⟩
      (repeat' (first | assumption | (with_reducible refine And.intro ?_ ?_) | (intro hh; first | subst hh | skip)))
      all_goals omega
    · rintro w ⟨f, g⟩ x
      rw [u154_2]
      simp only [k154_2, e154, k154_0, u154_45, k154_45, zO_nop, zO_goto, zO_iload_n0, zO_iload_n1, zO_iload_n2, zO_iload_n3, zO_iload, zO_lload_n0, zO_lload_n1, zO_lload_n2, zO_lload_n3, zO_lload, zO_aload_n0, zO_aload_n1, zO_aload_n2, zO_aload_n3, zO_aload, zO_istore_n0, zO_istore_n1, zO_istore_n2, zO_istore_n3, zO_istore, zO_astore_n0, zO_astore_n1, zO_astore_n2, zO_astore_n3, zO_astore, zO_lstore, zO_iinc, zO_iconst, zO_bipush, zO_sipush, zO_lconst0, zO_lconst1, zO_ldc, zO_ldc2_w, zO_iadd, zO_isub, zO_imul, zO_idiv, zO_irem, zO_ineg, zO_iand, zO_ior, zO_ixor, zO_ishl, zO_ishr, zO_iushr, zO_ladd, zO_lmul, zO_land, zO_lor, zO_lshl, zO_lcmp, zO_i2l, zO_l2i, zO_i2b, zO_dup0, zO_dup2, zO_dup200, zO_dup202, zO_dup220, zO_dup222, zO_ifCond_eq, zO_ifCond_ne, zO_ifCond_lt, zO_ifCond_ge, zO_ifCond_gt, zO_ifCond_le, zO_if_icmp_eq, zO_if_icmp_ne, zO_if_icmp_lt, zO_if_icmp_ge, zO_if_icmp_gt, zO_if_icmp_le, zO_getfield, zO_putfield, zO_iaload, zO_baload, zO_laload, zO_iastore, zO_bastore, zO_lastore, zO_arraylength, zO_invokevirtual, zO_lreturn, zO_areturn, zO_return_, zO_tableswitch, zO_lookupswitch, zO_is0, zO_is1, zO_is2, zO_is3, zO_is4, zO_is9, zO_is10, zO_is11, zO_is12, zO_ir1, zO_ir4, zB_c, zLd_0, zLd_s, zSt_c, zSt2_c, zU_c, zD_c, zY_c, zSw_n, zSw_c, zCall_c, zVirt_c, zP_0, zP_1, zP_2, zP_3, zP_4, zGet_n, zGet_z, zPut_n, zPut_z, zcw_n, zcw_0, zcw_1, zcw_2, List.length_cons, List.length_nil, List.take_succ_cons, List.take_zero, List.drop_succ_cons, List.drop_zero, List.reverse_cons, List.reverse_nil, List.nil_append, List.cons_append, List.append_nil, List.set_cons_zero, List.set_cons_succ, List.getD_cons_zero, List.getD_cons_succ, true_and, and_true, ne_eq, not_false_eq_true, not_true_eq_false, zif, Nat.reduceAdd, Nat.reduceLeDiff, Nat.reduceLT, Nat.reduceSub, Nat.reduceEqDiff, Nat.zero_le, Nat.lt_add_one, Nat.reduceMod, false_implies, true_implies, implies_true, forall_const, Int.reduceLE, Int.reduceLT, Int.reduceEq, Int.reduceNeg, ite10_0, ite10_1, zem, zem2, Classical.not_not, and_self, or_true, true_or, or_false, false_or]
      rw [← hQ]
      refine ⟨rfl, f, fun i m hi hm => ?_⟩
      have h1 := hi.2
      have h2 := hm.2
      have a1 := hA i m hi hm
      have a2 := hA p m hp hm
      have a3 := hA q m hq hm
      rw [Int.zero_add] at a1 a2 a3 ⊢
      rw [g i m ⟨hi.1, by omega⟩ ⟨hm.1, by omega⟩, if_pos (by omega), a1, a2, a3]
      rfl
  simp only [e154, k154_0, zO_nop, zO_goto, zO_iload_n0, zO_iload_n1, zO_iload_n2, zO_iload_n3, zO_iload, zO_lload_n0, zO_lload_n1, zO_lload_n2, zO_lload_n3, zO_lload, zO_aload_n0, zO_aload_n1, zO_aload_n2, zO_aload_n3, zO_aload, zO_istore_n0, zO_istore_n1, zO_istore_n2, zO_istore_n3, zO_istore, zO_astore_n0, zO_astore_n1, zO_astore_n2, zO_astore_n3, zO_astore, zO_lstore, zO_iinc, zO_iconst, zO_bipush, zO_sipush, zO_lconst0, zO_lconst1, zO_ldc, zO_ldc2_w, zO_iadd, zO_isub, zO_imul, zO_idiv, zO_irem, zO_ineg, zO_iand, zO_ior, zO_ixor, zO_ishl, zO_ishr, zO_iushr, zO_ladd, zO_lmul, zO_land, zO_lor, zO_lshl, zO_lcmp, zO_i2l, zO_l2i, zO_i2b, zO_dup0, zO_dup2, zO_dup200, zO_dup202, zO_dup220, zO_dup222, zO_ifCond_eq, zO_ifCond_ne, zO_ifCond_lt, zO_ifCond_ge, zO_ifCond_gt, zO_ifCond_le, zO_if_icmp_eq, zO_if_icmp_ne, zO_if_icmp_lt, zO_if_icmp_ge, zO_if_icmp_gt, zO_if_icmp_le, zO_getfield, zO_putfield, zO_iaload, zO_baload, zO_laload, zO_iastore, zO_bastore, zO_lastore, zO_arraylength, zO_invokevirtual, zO_lreturn, zO_areturn, zO_return_, zO_tableswitch, zO_lookupswitch, zO_is0, zO_is1, zO_is2, zO_is3, zO_is4, zO_is9, zO_is10, zO_is11, zO_is12, zO_ir1, zO_ir4, zB_c, zLd_0, zLd_s, zSt_c, zSt2_c, zU_c, zD_c, zY_c, zSw_n, zSw_c, zCall_c, zVirt_c, zP_0, zP_1, zP_2, zP_3, zP_4, zGet_n, zGet_z, zPut_n, zPut_z, zcw_n, zcw_0, zcw_1, zcw_2, List.length_cons, List.length_nil, List.take_succ_cons, List.take_zero, List.drop_succ_cons, List.drop_zero, List.reverse_cons, List.reverse_nil, List.nil_append, List.cons_append, List.append_nil, List.set_cons_zero, List.set_cons_succ, List.getD_cons_zero, List.getD_cons_succ, true_and, and_true, ne_eq, not_false_eq_true, not_true_eq_false, zif, Nat.reduceAdd, Nat.reduceLeDiff, Nat.reduceLT, Nat.reduceSub, Nat.reduceEqDiff, Nat.zero_le, Nat.lt_add_one, Nat.reduceMod, false_implies, true_implies, implies_true, forall_const, Int.reduceLE, Int.reduceLT, Int.reduceEq, Int.reduceNeg, ite10_0, ite10_1, zem, zem2, Classical.not_not, and_self, or_true, true_or, or_false, false_or]
  exact hl 0 μ (by omega) (by omega) ⟨zfr_rf, fun i m hi hm => by rw [if_neg (by omega)]⟩ _
theorem L_swap49 {d : Nat} {n p q : Int} {A : Int → Int → Int} {μ : zM} (hn : 1 ≤ n ∧ n ≤ 5) (hp : zrg n p) (hq : zrg n q) (hA : mTb 49 0 n A μ) : zC (d + 1) 154 [(2, 49), (0, p), (0, q)] μ (fun x u => x = 0 ∧ zfr [(49, -1)] μ u ∧ mTb 49 0 n (swp A p q) u) := by
  generalize hQ : (fun (x : Int) (u : zM) => x = 0 ∧ zfr [(49, -1)] μ u ∧ mTb 49 0 n (swp A p q) u) = Q
  have p0 := hp.1
  have p1 := hp.2
  have q0 := hq.1
  have q1 := hq.2
  have hl : ∀ t w, 0 ≤ t → t ≤ 5 → (zfr [(49, -1)] μ w ∧ ∀ i m, (0 ≤ i ∧ i < 5) → (0 ≤ m ∧ m < 5) → w 49 (5 * i + m) = if m < t then (if i = p then μ 49 (5 * q + m) else if i = q then μ 49 (5 * p + m) else μ 49 (5 * i + m)) else μ 49 (5 * i + m)) → ∀ x, zR d 154 Q 2 [(2, 49), (0, p), (0, q), (0, t), x] [] w := by
    refine zloop (n := 5) (Inv := fun t w => zfr [(49, -1)] μ w ∧ ∀ i m, (0 ≤ i ∧ i < 5) → (0 ≤ m ∧ m < 5) → w 49 (5 * i + m) = if m < t then (if i = p then μ 49 (5 * q + m) else if i = q then μ 49 (5 * p + m) else μ 49 (5 * i + m)) else μ 49 (5 * i + m)) (R := fun t w => ∀ x, zR d 154 Q 2 [(2, 49), (0, p), (0, q), (0, t), x] [] w) ?_ ?_
    · rintro t w t0 t1 ⟨f, g⟩ ih x
      have e1 : zw (zw (5*p) + t) = 5 * p + t := by (simp (disch := omega) only [zw_e]) <;> omega
      have e2 : zw (zw (5*q) + t) = 5 * q + t := by (simp (disch := omega) only [zw_e]) <;> omega
      have gp := g p t (by omega) (by omega)
      have gq := g q t (by omega) (by omega)
      rw [if_neg (by omega)] at gp gq
      rw [u154_2]
      simp only [k154_2, e154, k154_0, u154_45, k154_45, zO_nop, zO_goto, zO_iload_n0, zO_iload_n1, zO_iload_n2, zO_iload_n3, zO_iload, zO_lload_n0, zO_lload_n1, zO_lload_n2, zO_lload_n3, zO_lload, zO_aload_n0, zO_aload_n1, zO_aload_n2, zO_aload_n3, zO_aload, zO_istore_n0, zO_istore_n1, zO_istore_n2, zO_istore_n3, zO_istore, zO_astore_n0, zO_astore_n1, zO_astore_n2, zO_astore_n3, zO_astore, zO_lstore, zO_iinc, zO_iconst, zO_bipush, zO_sipush, zO_lconst0, zO_lconst1, zO_ldc, zO_ldc2_w, zO_iadd, zO_isub, zO_imul, zO_idiv, zO_irem, zO_ineg, zO_iand, zO_ior, zO_ixor, zO_ishl, zO_ishr, zO_iushr, zO_ladd, zO_lmul, zO_land, zO_lor, zO_lshl, zO_lcmp, zO_i2l, zO_l2i, zO_i2b, zO_dup0, zO_dup2, zO_dup200, zO_dup202, zO_dup220, zO_dup222, zO_ifCond_eq, zO_ifCond_ne, zO_ifCond_lt, zO_ifCond_ge, zO_ifCond_gt, zO_ifCond_le, zO_if_icmp_eq, zO_if_icmp_ne, zO_if_icmp_lt, zO_if_icmp_ge, zO_if_icmp_gt, zO_if_icmp_le, zO_getfield, zO_putfield, zO_iaload, zO_baload, zO_laload, zO_iastore, zO_bastore, zO_lastore, zO_arraylength, zO_invokevirtual, zO_lreturn, zO_areturn, zO_return_, zO_tableswitch, zO_lookupswitch, zO_is0, zO_is1, zO_is2, zO_is3, zO_is4, zO_is9, zO_is10, zO_is11, zO_is12, zO_ir1, zO_ir4, zB_c, zLd_0, zLd_s, zSt_c, zSt2_c, zU_c, zD_c, zY_c, zSw_n, zSw_c, zCall_c, zVirt_c, zP_0, zP_1, zP_2, zP_3, zP_4, zGet_n, zGet_z, zPut_n, zPut_z, zcw_n, zcw_0, zcw_1, zcw_2, List.length_cons, List.length_nil, List.take_succ_cons, List.take_zero, List.drop_succ_cons, List.drop_zero, List.reverse_cons, List.reverse_nil, List.nil_append, List.cons_append, List.append_nil, List.set_cons_zero, List.set_cons_succ, List.getD_cons_zero, List.getD_cons_succ, true_and, and_true, ne_eq, not_false_eq_true, not_true_eq_false, zif, Nat.reduceAdd, Nat.reduceLeDiff, Nat.reduceLT, Nat.reduceSub, Nat.reduceEqDiff, Nat.zero_le, Nat.lt_add_one, Nat.reduceMod, false_implies, true_implies, implies_true, forall_const, Int.reduceLE, Int.reduceLT, Int.reduceEq, Int.reduceNeg, ite10_0, ite10_1, zem, zem2, Classical.not_not, and_self, or_true, true_or, or_false, false_or, zAl_49, zAs_49, e1, e2, gp, gq]
      rw [zw_e (z := t + 1) (by omega) (by omega)]
      have ih2 := ih (zu (zu w 49 (5 * p + t) (μ 49 (5 * q + t))) 49 (5 * q + t) (μ 49 (5 * p + t))) ⟨zfr_w (zfr_w f (by decide)) (by decide), fun i m hi hm => by
        have := g i m hi hm
        simp only [zu_d, true_and]
        by_cases em : m = t
        · subst em
          by_cases a : i = p
          · subst a
            by_cases b : i = q
            · subst b; simp
            · rw [if_neg (by omega), if_pos (by omega), if_pos (by omega), if_pos rfl]
          · by_cases b : i = q
            · subst b
              rw [if_pos (by omega), if_pos (by omega), if_neg a, if_pos rfl]
            · rw [if_neg (by omega), if_neg (by omega), if_pos (by omega), if_neg a, if_neg b, this]
              try rw [if_neg (by omega)]
        · rw [if_neg (show ¬ 5 * i + m = 5 * q + t by omega), if_neg (show ¬ 5 * i + m = 5 * p + t by omega), this]
          by_cases a : m < t
          · rw [if_pos a, if_pos (show m < t + 1 by omega)]
          · rw [if_neg a, if_neg (show ¬ m < t + 1 by omega)]⟩ (0, μ 49 (5 * p + t))
      refine ⟨fun _ => ?_, fun e => absurd t1 e⟩
      (repeat' (first | assumption | (with_reducible refine And.intro ?_ ?_) | (intro hh; first | subst hh | skip)))
      all_goals omega
    · rintro w ⟨f, g⟩ x
      rw [u154_2]
      simp only [k154_2, e154, k154_0, u154_45, k154_45, zO_nop, zO_goto, zO_iload_n0, zO_iload_n1, zO_iload_n2, zO_iload_n3, zO_iload, zO_lload_n0, zO_lload_n1, zO_lload_n2, zO_lload_n3, zO_lload, zO_aload_n0, zO_aload_n1, zO_aload_n2, zO_aload_n3, zO_aload, zO_istore_n0, zO_istore_n1, zO_istore_n2, zO_istore_n3, zO_istore, zO_astore_n0, zO_astore_n1, zO_astore_n2, zO_astore_n3, zO_astore, zO_lstore, zO_iinc, zO_iconst, zO_bipush, zO_sipush, zO_lconst0, zO_lconst1, zO_ldc, zO_ldc2_w, zO_iadd, zO_isub, zO_imul, zO_idiv, zO_irem, zO_ineg, zO_iand, zO_ior, zO_ixor, zO_ishl, zO_ishr, zO_iushr, zO_ladd, zO_lmul, zO_land, zO_lor, zO_lshl, zO_lcmp, zO_i2l, zO_l2i, zO_i2b, zO_dup0, zO_dup2, zO_dup200, zO_dup202, zO_dup220, zO_dup222, zO_ifCond_eq, zO_ifCond_ne, zO_ifCond_lt, zO_ifCond_ge, zO_ifCond_gt, zO_ifCond_le, zO_if_icmp_eq, zO_if_icmp_ne, zO_if_icmp_lt, zO_if_icmp_ge, zO_if_icmp_gt, zO_if_icmp_le, zO_getfield, zO_putfield, zO_iaload, zO_baload, zO_laload, zO_iastore, zO_bastore, zO_lastore, zO_arraylength, zO_invokevirtual, zO_lreturn, zO_areturn, zO_return_, zO_tableswitch, zO_lookupswitch, zO_is0, zO_is1, zO_is2, zO_is3, zO_is4, zO_is9, zO_is10, zO_is11, zO_is12, zO_ir1, zO_ir4, zB_c, zLd_0, zLd_s, zSt_c, zSt2_c, zU_c, zD_c, zY_c, zSw_n, zSw_c, zCall_c, zVirt_c, zP_0, zP_1, zP_2, zP_3, zP_4, zGet_n, zGet_z, zPut_n, zPut_z, zcw_n, zcw_0, zcw_1, zcw_2, List.length_cons, List.length_nil, List.take_succ_cons, List.take_zero, List.drop_succ_cons, List.drop_zero, List.reverse_cons, List.reverse_nil, List.nil_append, List.cons_append, List.append_nil, List.set_cons_zero, List.set_cons_succ, List.getD_cons_zero, List.getD_cons_succ, true_and, and_true, ne_eq, not_false_eq_true, not_true_eq_false, zif, Nat.reduceAdd, Nat.reduceLeDiff, Nat.reduceLT, Nat.reduceSub, Nat.reduceEqDiff, Nat.zero_le, Nat.lt_add_one, Nat.reduceMod, false_implies, true_implies, implies_true, forall_const, Int.reduceLE, Int.reduceLT, Int.reduceEq, Int.reduceNeg, ite10_0, ite10_1, zem, zem2, Classical.not_not, and_self, or_true, true_or, or_false, false_or]
      rw [← hQ]
      refine ⟨rfl, f, fun i m hi hm => ?_⟩
      have h1 := hi.2
      have h2 := hm.2
      have a1 := hA i m hi hm
      have a2 := hA p m hp hm
      have a3 := hA q m hq hm
      rw [Int.zero_add] at a1 a2 a3 ⊢
      rw [g i m ⟨hi.1, by omega⟩ ⟨hm.1, by omega⟩, if_pos (by omega), a1, a2, a3]
      rfl
  simp only [e154, k154_0, zO_nop, zO_goto, zO_iload_n0, zO_iload_n1, zO_iload_n2, zO_iload_n3, zO_iload, zO_lload_n0, zO_lload_n1, zO_lload_n2, zO_lload_n3, zO_lload, zO_aload_n0, zO_aload_n1, zO_aload_n2, zO_aload_n3, zO_aload, zO_istore_n0, zO_istore_n1, zO_istore_n2, zO_istore_n3, zO_istore, zO_astore_n0, zO_astore_n1, zO_astore_n2, zO_astore_n3, zO_astore, zO_lstore, zO_iinc, zO_iconst, zO_bipush, zO_sipush, zO_lconst0, zO_lconst1, zO_ldc, zO_ldc2_w, zO_iadd, zO_isub, zO_imul, zO_idiv, zO_irem, zO_ineg, zO_iand, zO_ior, zO_ixor, zO_ishl, zO_ishr, zO_iushr, zO_ladd, zO_lmul, zO_land, zO_lor, zO_lshl, zO_lcmp, zO_i2l, zO_l2i, zO_i2b, zO_dup0, zO_dup2, zO_dup200, zO_dup202, zO_dup220, zO_dup222, zO_ifCond_eq, zO_ifCond_ne, zO_ifCond_lt, zO_ifCond_ge, zO_ifCond_gt, zO_ifCond_le, zO_if_icmp_eq, zO_if_icmp_ne, zO_if_icmp_lt, zO_if_icmp_ge, zO_if_icmp_gt, zO_if_icmp_le, zO_getfield, zO_putfield, zO_iaload, zO_baload, zO_laload, zO_iastore, zO_bastore, zO_lastore, zO_arraylength, zO_invokevirtual, zO_lreturn, zO_areturn, zO_return_, zO_tableswitch, zO_lookupswitch, zO_is0, zO_is1, zO_is2, zO_is3, zO_is4, zO_is9, zO_is10, zO_is11, zO_is12, zO_ir1, zO_ir4, zB_c, zLd_0, zLd_s, zSt_c, zSt2_c, zU_c, zD_c, zY_c, zSw_n, zSw_c, zCall_c, zVirt_c, zP_0, zP_1, zP_2, zP_3, zP_4, zGet_n, zGet_z, zPut_n, zPut_z, zcw_n, zcw_0, zcw_1, zcw_2, List.length_cons, List.length_nil, List.take_succ_cons, List.take_zero, List.drop_succ_cons, List.drop_zero, List.reverse_cons, List.reverse_nil, List.nil_append, List.cons_append, List.append_nil, List.set_cons_zero, List.set_cons_succ, List.getD_cons_zero, List.getD_cons_succ, true_and, and_true, ne_eq, not_false_eq_true, not_true_eq_false, zif, Nat.reduceAdd, Nat.reduceLeDiff, Nat.reduceLT, Nat.reduceSub, Nat.reduceEqDiff, Nat.zero_le, Nat.lt_add_one, Nat.reduceMod, false_implies, true_implies, implies_true, forall_const, Int.reduceLE, Int.reduceLT, Int.reduceEq, Int.reduceNeg, ite10_0, ite10_1, zem, zem2, Classical.not_not, and_self, or_true, true_or, or_false, false_or]
  exact hl 0 μ (by omega) (by omega) ⟨zfr_rf, fun i m hi hm => by rw [if_neg (by omega)]⟩ _
