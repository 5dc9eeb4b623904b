/-! the class's clauses -/
def pC (T : Int → Int) (L n p : Int) : Bool × Int × Int × Int × (Int → Int) := if tL T L n 1 p then (if tB T L (p + 1) = 42 then (if tL T L n 1 (p + 2) then (if tB T L (p + 3) = 61 then ((pS T L n 2 9 1 (p + 4)).1, (pS T L n 2 9 1 (p + 4)).2.1, tB T L p - 97, tB T L (p + 2) - 97, (pS T L n 2 9 1 (p + 4)).2.2.1) else (false, p + 3, 0, 0, fun _ => 0)) else (false, p + 2, 0, 0, fun _ => 0)) else (false, p + 1, 0, 0, fun _ => 0)) else (false, p, 0, 0, fun _ => 0)
def dW (i j : Int) (S D : Int → Int) (y : Int) : Int := if 25 * j + 5 * i ≤ y ∧ y < 25 * j + 5 * i + 5 then S (y - (25 * j + 5 * i)) else if 25 * i + 5 * j ≤ y ∧ y < 25 * i + 5 * j + 5 then S (y - (25 * i + 5 * j)) else D y
def pR (T : Int → Int) (L n : Int) : Nat → Int → (Int → Int) → Int → Int × (Int → Int)
  | 0, p, D, _ => (-100 - p, D)
  | k + 1, p, D, c => if (pC T L n p).1 = true then (if L ≤ (pC T L n p).2.1 then (c, dW (pC T L n p).2.2.1 (pC T L n p).2.2.2.1 (pC T L n p).2.2.2.2 D) else if tB T L (pC T L n p).2.1 = 59 then pR T L n k ((pC T L n p).2.1 + 1) (dW (pC T L n p).2.2.1 (pC T L n p).2.2.2.1 (pC T L n p).2.2.2.2 D) (c + 1) else (-100 - (pC T L n p).2.1, D)) else (-100 - (pC T L n p).2.1, D)
theorem pC_bd {T : Int → Int} {L n p : Int} (hn : 1 ≤ n ∧ n ≤ 5) (h : tP T L) (p0 : 0 ≤ p) (pL : p ≤ L) : (p ≤ (pC T L n p).2.1 ∧ (pC T L n p).2.1 ≤ L) ∧ ((pC T L n p).1 = true → p + 4 ≤ (pC T L n p).2.1 ∧ (1 ≤ (pC T L n p).2.2.1 ∧ (pC T L n p).2.2.1 ≤ 4) ∧ (1 ≤ (pC T L n p).2.2.2.1 ∧ (pC T L n p).2.2.2.1 ≤ 4) ∧ ∀ x, zrg 5 x → 0 ≤ (pC T L n p).2.2.2.2 x ∧ (pC T L n p).2.2.2.2 x ≤ 9) := by
  have b0 := tB_bd h p0
  have b1 := tB_bd h (p := p + 1) (by omega)
  have b2 := tB_bd h (p := p + 2) (by omega)
  have b3 := tB_bd h (p := p + 3) (by omega)
  unfold pC
  by_cases q0 : tL T L n 1 p
  · have := b0.2 (by omega)
    rw [if_pos q0]
    by_cases q1 : tB T L (p + 1) = 42
    · have := b1.2 (by omega)
      rw [if_pos q1]
      by_cases q2 : tL T L n 1 (p + 2)
      · have := b2.2 (by omega)
        rw [if_pos q2]
        by_cases q3 : tB T L (p + 3) = 61
        · have := b3.2 (by omega)
          rw [if_pos q3]
          have r := pS_bd (lo := 2) (most := 9) (figs := 1) hn.2 (by omega) (by omega) h (p := p + 4) (by omega) (by omega)
          exact ⟨⟨by show p ≤ (pS T L n 2 9 1 (p + 4)).2.1; omega, r.1.2⟩, fun _ => ⟨r.1.1, by show 1 ≤ tB T L p - 97 ∧ tB T L p - 97 ≤ 4; omega, by show 1 ≤ tB T L (p + 2) - 97 ∧ tB T L (p + 2) - 97 ≤ 4; omega, r.2.1⟩⟩
        · rw [if_neg q3]
          exact ⟨⟨by show p ≤ p + 3; omega, by show p + 3 ≤ L; omega⟩, fun e => by cases e⟩
      · rw [if_neg q2]
        exact ⟨⟨by show p ≤ p + 2; omega, by show p + 2 ≤ L; omega⟩, fun e => by cases e⟩
    · rw [if_neg q1]
      exact ⟨⟨by show p ≤ p + 1; omega, by show p + 1 ≤ L; omega⟩, fun e => by cases e⟩
  · rw [if_neg q0]
    exact ⟨⟨by show p ≤ p; omega, pL⟩, fun e => by cases e⟩
theorem K_readClause {d : Nat} {T : Int → Int} {L n p : Int} {μ : zM} (hn : 1 ≤ n ∧ n ≤ 5) (h : tT T L μ) (hp : μ 29 4 = p) (p0 : 0 ≤ p) (pL : p ≤ L) : zC (d + 4) 33 [(2, 29), (0, n)] μ (fun x u => zfr [(29, 3), (29, 4), (31, -1), (32, -1)] μ u ∧ x = (if (pC T L n p).1 = true then 1 else 0) ∧ u 29 4 = (pC T L n p).2.1 ∧ ((pC T L n p).1 = true → ∀ y, zrg 125 y → u 32 y = dW (pC T L n p).2.2.1 (pC T L n p).2.2.2.1 (pC T L n p).2.2.2.2 (μ 32) y)) := by
  generalize hQ : (fun (x : Int) (u : zM) => zfr [(29, 3), (29, 4), (31, -1), (32, -1)] μ u ∧ x = (if (pC T L n p).1 = true then 1 else 0) ∧ u 29 4 = (pC T L n p).2.1 ∧ ((pC T L n p).1 = true → ∀ y, zrg 125 y → u 32 y = dW (pC T L n p).2.2.1 (pC T L n p).2.2.2.1 (pC T L n p).2.2.2.2 (μ 32) y)) = Q
  have hL := h.1
  have hT := tT_P h
  have b0 := tB_bd hT p0
  have b1 := tB_bd hT (p := p + 1) (by omega)
  have b2 := tB_bd hT (p := p + 2) (by omega)
  have b3 := tB_bd hT (p := p + 3) (by omega)
  have no : ∀ w q, zfr [(29, 3), (29, 4), (31, -1), (32, -1)] μ w → w 29 4 = q → (pC T L n p).1 = false → (pC T L n p).2.1 = q → Q 0 w := fun w q f e e1 e2 => by
    rw [← hQ]
    rw [e1, e2]
    exact ⟨f, rfl, e, fun z => by cases z⟩
  simp only [e33, k33_0, zO_nop, zO_goto, zO_iload_n0, zO_iload_n1, zO_iload_n2, zO_iload_n3, zO_iload, zO_lload_n0, zO_lload_n1, zO_lload_n2, zO_lload_n3, zO_lload, zO_aload_n0, zO_aload_n1, zO_aload_n2, zO_aload_n3, zO_aload, zO_istore_n0, zO_istore_n1, zO_istore_n2, zO_istore_n3, zO_istore, zO_astore_n0, zO_astore_n1, zO_astore_n2, zO_astore_n3, zO_astore, zO_lstore, zO_iinc, zO_iconst, zO_bipush, zO_sipush, zO_lconst0, zO_lconst1, zO_ldc, zO_ldc2_w, zO_iadd, zO_isub, zO_imul, zO_idiv, zO_irem, zO_ineg, zO_iand, zO_ior, zO_ixor, zO_ishl, zO_ishr, zO_iushr, zO_ladd, zO_lmul, zO_land, zO_lor, zO_lshl, zO_lcmp, zO_i2l, zO_l2i, zO_i2b, zO_dup0, zO_dup2, zO_dup200, zO_dup202, zO_dup220, zO_dup222, zO_ifCond_eq, zO_ifCond_ne, zO_ifCond_lt, zO_ifCond_ge, zO_ifCond_gt, zO_ifCond_le, zO_if_icmp_eq, zO_if_icmp_ne, zO_if_icmp_lt, zO_if_icmp_ge, zO_if_icmp_gt, zO_if_icmp_le, zO_getfield, zO_putfield, zO_iaload, zO_baload, zO_laload, zO_iastore, zO_bastore, zO_lastore, zO_arraylength, zO_invokevirtual, zO_lreturn, zO_areturn, zO_return_, zO_tableswitch, zO_lookupswitch, zO_is0, zO_is1, zO_is2, zO_is3, zO_is4, zO_is9, zO_is10, zO_is11, zO_is12, zO_ir1, zO_ir4, zB_c, zLd_0, zLd_s, zSt_c, zSt2_c, zU_c, zD_c, zY_c, zSw_n, zSw_c, zCall_c, zVirt_c, zP_0, zP_1, zP_2, zP_3, zP_4, zGet_n, zGet_z, zPut_n, zPut_z, zcw_n, zcw_0, zcw_1, zcw_2, List.length_cons, List.length_nil, List.take_succ_cons, List.take_zero, List.drop_succ_cons, List.drop_zero, List.reverse_cons, List.reverse_nil, List.nil_append, List.cons_append, List.append_nil, List.set_cons_zero, List.set_cons_succ, List.getD_cons_zero, List.getD_cons_succ, true_and, and_true, ne_eq, not_false_eq_true, not_true_eq_false, zif, Nat.reduceAdd, Nat.reduceLeDiff, Nat.reduceLT, Nat.reduceSub, Nat.reduceEqDiff, Nat.zero_le, Nat.lt_add_one, Nat.reduceMod, false_implies, true_implies, implies_true, forall_const, Int.reduceLE, Int.reduceLT, Int.reduceEq, Int.reduceNeg, ite10_0, ite10_1, zem, zem2, Classical.not_not, and_self, or_true, true_or, or_false, false_or, zT_29, zN_29, zGf_96_29, zGf_97_29, zPf_97_29, zGf_98_29, zGf_99_29, zPf_99_29, zGf_100_29, zPf_100_29, zGf_101_29]
  rw [K_readLetter (d := d + 1) hn h hp p0 pL]
  simp only [u33_21, k33_21, zO_nop, zO_goto, zO_iload_n0, zO_iload_n1, zO_iload_n2, zO_iload_n3, zO_iload, zO_lload_n0, zO_lload_n1, zO_lload_n2, zO_lload_n3, zO_lload, zO_aload_n0, zO_aload_n1, zO_aload_n2, zO_aload_n3, zO_aload, zO_istore_n0, zO_istore_n1, zO_istore_n2, zO_istore_n3, zO_istore, zO_astore_n0, zO_astore_n1, zO_astore_n2, zO_astore_n3, zO_astore, zO_lstore, zO_iinc, zO_iconst, zO_bipush, zO_sipush, zO_lconst0, zO_lconst1, zO_ldc, zO_ldc2_w, zO_iadd, zO_isub, zO_imul, zO_idiv, zO_irem, zO_ineg, zO_iand, zO_ior, zO_ixor, zO_ishl, zO_ishr, zO_iushr, zO_ladd, zO_lmul, zO_land, zO_lor, zO_lshl, zO_lcmp, zO_i2l, zO_l2i, zO_i2b, zO_dup0, zO_dup2, zO_dup200, zO_dup202, zO_dup220, zO_dup222, zO_ifCond_eq, zO_ifCond_ne, zO_ifCond_lt, zO_ifCond_ge, zO_ifCond_gt, zO_ifCond_le, zO_if_icmp_eq, zO_if_icmp_ne, zO_if_icmp_lt, zO_if_icmp_ge, zO_if_icmp_gt, zO_if_icmp_le, zO_getfield, zO_putfield, zO_iaload, zO_baload, zO_laload, zO_iastore, zO_bastore, zO_lastore, zO_arraylength, zO_invokevirtual, zO_lreturn, zO_areturn, zO_return_, zO_tableswitch, zO_lookupswitch, zO_is0, zO_is1, zO_is2, zO_is3, zO_is4, zO_is9, zO_is10, zO_is11, zO_is12, zO_ir1, zO_ir4, zB_c, zLd_0, zLd_s, zSt_c, zSt2_c, zU_c, zD_c, zY_c, zSw_n, zSw_c, zCall_c, zVirt_c, zP_0, zP_1, zP_2, zP_3, zP_4, zGet_n, zGet_z, zPut_n, zPut_z, zcw_n, zcw_0, zcw_1, zcw_2, List.length_cons, List.length_nil, List.take_succ_cons, List.take_zero, List.drop_succ_cons, List.drop_zero, List.reverse_cons, List.reverse_nil, List.nil_append, List.cons_append, List.append_nil, List.set_cons_zero, List.set_cons_succ, List.getD_cons_zero, List.getD_cons_succ, true_and, and_true, ne_eq, not_false_eq_true, not_true_eq_false, zif, Nat.reduceAdd, Nat.reduceLeDiff, Nat.reduceLT, Nat.reduceSub, Nat.reduceEqDiff, Nat.zero_le, Nat.lt_add_one, Nat.reduceMod, false_implies, true_implies, implies_true, forall_const, Int.reduceLE, Int.reduceLT, Int.reduceEq, Int.reduceNeg, ite10_0, ite10_1, zem, zem2, Classical.not_not, and_self, or_true, true_or, or_false, false_or, zT_29, zN_29, zGf_96_29, zGf_97_29, zPf_97_29, zGf_98_29, zGf_99_29, zPf_99_29, zGf_100_29, zPf_100_29, zGf_101_29]
  refine ⟨fun l0 => ⟨fun e => absurd e (by omega), fun _ => ?_⟩, fun l0 => ?_⟩
  · have g0 := b0.2 (by omega)
    generalize hw1 : zu μ 29 4 (p + 1) = w1
    have f1 : zfr [(29, 4)] μ w1 := by rw [← hw1]; exact zfr_u zfr_rf (by decide)
    have hp1 : w1 29 4 = p + 1 := by rw [← hw1, zu_at]
    have h1 : tT T L w1 := tT_fr h f1 (by decide) (by decide)
    rw [K_passed (d := d + 1) h1 hp1 (by omega) (by omega)]
    refine ⟨fun c1 => ⟨fun e => absurd e (by decide), fun _ => ?_⟩, fun c1 => ⟨fun _ => ?_, fun e => absurd rfl e⟩⟩
    · have g1 := b1.2 (by omega)
      generalize hw2 : zu w1 29 4 (p + 1 + 1) = w2
      have f2 : zfr [(29, 4)] μ w2 := by rw [← hw2]; exact zfr_u f1 (by decide)
      have hp2 : w2 29 4 = p + 2 := by rw [← hw2, zu_at]; omega
      have h2 : tT T L w2 := tT_fr h f2 (by decide) (by decide)
      simp only [u33_23, k33_23, zO_nop, zO_goto, zO_iload_n0, zO_iload_n1, zO_iload_n2, zO_iload_n3, zO_iload, zO_lload_n0, zO_lload_n1, zO_lload_n2, zO_lload_n3, zO_lload, zO_aload_n0, zO_aload_n1, zO_aload_n2, zO_aload_n3, zO_aload, zO_istore_n0, zO_istore_n1, zO_istore_n2, zO_istore_n3, zO_istore, zO_astore_n0, zO_astore_n1, zO_astore_n2, zO_astore_n3, zO_astore, zO_lstore, zO_iinc, zO_iconst, zO_bipush, zO_sipush, zO_lconst0, zO_lconst1, zO_ldc, zO_ldc2_w, zO_iadd, zO_isub, zO_imul, zO_idiv, zO_irem, zO_ineg, zO_iand, zO_ior, zO_ixor, zO_ishl, zO_ishr, zO_iushr, zO_ladd, zO_lmul, zO_land, zO_lor, zO_lshl, zO_lcmp, zO_i2l, zO_l2i, zO_i2b, zO_dup0, zO_dup2, zO_dup200, zO_dup202, zO_dup220, zO_dup222, zO_ifCond_eq, zO_ifCond_ne, zO_ifCond_lt, zO_ifCond_ge, zO_ifCond_gt, zO_ifCond_le, zO_if_icmp_eq, zO_if_icmp_ne, zO_if_icmp_lt, zO_if_icmp_ge, zO_if_icmp_gt, zO_if_icmp_le, zO_getfield, zO_putfield, zO_iaload, zO_baload, zO_laload, zO_iastore, zO_bastore, zO_lastore, zO_arraylength, zO_invokevirtual, zO_lreturn, zO_areturn, zO_return_, zO_tableswitch, zO_lookupswitch, zO_is0, zO_is1, zO_is2, zO_is3, zO_is4, zO_is9, zO_is10, zO_is11, zO_is12, zO_ir1, zO_ir4, zB_c, zLd_0, zLd_s, zSt_c, zSt2_c, zU_c, zD_c, zY_c, zSw_n, zSw_c, zCall_c, zVirt_c, zP_0, zP_1, zP_2, zP_3, zP_4, zGet_n, zGet_z, zPut_n, zPut_z, zcw_n, zcw_0, zcw_1, zcw_2, List.length_cons, List.length_nil, List.take_succ_cons, List.take_zero, List.drop_succ_cons, List.drop_zero, List.reverse_cons, List.reverse_nil, List.nil_append, List.cons_append, List.append_nil, List.set_cons_zero, List.set_cons_succ, List.getD_cons_zero, List.getD_cons_succ, true_and, and_true, ne_eq, not_false_eq_true, not_true_eq_false, zif, Nat.reduceAdd, Nat.reduceLeDiff, Nat.reduceLT, Nat.reduceSub, Nat.reduceEqDiff, Nat.zero_le, Nat.lt_add_one, Nat.reduceMod, false_implies, true_implies, implies_true, forall_const, Int.reduceLE, Int.reduceLT, Int.reduceEq, Int.reduceNeg, ite10_0, ite10_1, zem, zem2, Classical.not_not, and_self, or_true, true_or, or_false, false_or, zT_29, zN_29, zGf_96_29, zGf_97_29, zPf_97_29, zGf_98_29, zGf_99_29, zPf_99_29, zGf_100_29, zPf_100_29, zGf_101_29]
      rw [K_readLetter (d := d + 1) hn h2 hp2 (by omega) (by omega)]
      simp only [u33_56, k33_56, zO_nop, zO_goto, zO_iload_n0, zO_iload_n1, zO_iload_n2, zO_iload_n3, zO_iload, zO_lload_n0, zO_lload_n1, zO_lload_n2, zO_lload_n3, zO_lload, zO_aload_n0, zO_aload_n1, zO_aload_n2, zO_aload_n3, zO_aload, zO_istore_n0, zO_istore_n1, zO_istore_n2, zO_istore_n3, zO_istore, zO_astore_n0, zO_astore_n1, zO_astore_n2, zO_astore_n3, zO_astore, zO_lstore, zO_iinc, zO_iconst, zO_bipush, zO_sipush, zO_lconst0, zO_lconst1, zO_ldc, zO_ldc2_w, zO_iadd, zO_isub, zO_imul, zO_idiv, zO_irem, zO_ineg, zO_iand, zO_ior, zO_ixor, zO_ishl, zO_ishr, zO_iushr, zO_ladd, zO_lmul, zO_land, zO_lor, zO_lshl, zO_lcmp, zO_i2l, zO_l2i, zO_i2b, zO_dup0, zO_dup2, zO_dup200, zO_dup202, zO_dup220, zO_dup222, zO_ifCond_eq, zO_ifCond_ne, zO_ifCond_lt, zO_ifCond_ge, zO_ifCond_gt, zO_ifCond_le, zO_if_icmp_eq, zO_if_icmp_ne, zO_if_icmp_lt, zO_if_icmp_ge, zO_if_icmp_gt, zO_if_icmp_le, zO_getfield, zO_putfield, zO_iaload, zO_baload, zO_laload, zO_iastore, zO_bastore, zO_lastore, zO_arraylength, zO_invokevirtual, zO_lreturn, zO_areturn, zO_return_, zO_tableswitch, zO_lookupswitch, zO_is0, zO_is1, zO_is2, zO_is3, zO_is4, zO_is9, zO_is10, zO_is11, zO_is12, zO_ir1, zO_ir4, zB_c, zLd_0, zLd_s, zSt_c, zSt2_c, zU_c, zD_c, zY_c, zSw_n, zSw_c, zCall_c, zVirt_c, zP_0, zP_1, zP_2, zP_3, zP_4, zGet_n, zGet_z, zPut_n, zPut_z, zcw_n, zcw_0, zcw_1, zcw_2, List.length_cons, List.length_nil, List.take_succ_cons, List.take_zero, List.drop_succ_cons, List.drop_zero, List.reverse_cons, List.reverse_nil, List.nil_append, List.cons_append, List.append_nil, List.set_cons_zero, List.set_cons_succ, List.getD_cons_zero, List.getD_cons_succ, true_and, and_true, ne_eq, not_false_eq_true, not_true_eq_false, zif, Nat.reduceAdd, Nat.reduceLeDiff, Nat.reduceLT, Nat.reduceSub, Nat.reduceEqDiff, Nat.zero_le, Nat.lt_add_one, Nat.reduceMod, false_implies, true_implies, implies_true, forall_const, Int.reduceLE, Int.reduceLT, Int.reduceEq, Int.reduceNeg, ite10_0, ite10_1, zem, zem2, Classical.not_not, and_self, or_true, true_or, or_false, false_or, zT_29, zN_29, zGf_96_29, zGf_97_29, zPf_97_29, zGf_98_29, zGf_99_29, zPf_99_29, zGf_100_29, zPf_100_29, zGf_101_29]
      refine ⟨fun l2 => ⟨fun e => absurd e (by omega), fun _ => ?_⟩, fun l2 => ?_⟩
      · have g2 := b2.2 (by omega)
        generalize hw3 : zu w2 29 4 (p + 2 + 1) = w3
        have f3 : zfr [(29, 4)] μ w3 := by rw [← hw3]; exact zfr_u f2 (by decide)
        have hp3 : w3 29 4 = p + 3 := by rw [← hw3, zu_at]; omega
        have h3 : tT T L w3 := tT_fr h f3 (by decide) (by decide)
        rw [K_passed (d := d + 1) h3 hp3 (by omega) (by omega)]
        refine ⟨fun c3 => ⟨fun e => absurd e (by decide), fun _ => ?_⟩, fun c3 => ⟨fun _ => ?_, fun e => absurd rfl e⟩⟩
        · have g3 := b3.2 (by omega)
          generalize hw4 : zu w3 29 4 (p + 3 + 1) = w4
          have f4 : zfr [(29, 4)] μ w4 := by rw [← hw4]; exact zfr_u f3 (by decide)
          have hp4 : w4 29 4 = p + 4 := by rw [← hw4, zu_at]; omega
          have h4 : tT T L w4 := tT_fr h f4 (by decide) (by decide)
          have pe : pC T L n p = ((pS T L n 2 9 1 (p + 4)).1, (pS T L n 2 9 1 (p + 4)).2.1, tB T L p - 97, tB T L (p + 2) - 97, (pS T L n 2 9 1 (p + 4)).2.2.1) := by
            unfold pC
            rw [if_pos l0, if_pos c1, if_pos l2, if_pos c3]
          refine zuse (K_readSum (d := d) (figs := 1) hn (by omega) (by omega) (by omega) h4 hp4 (by omega) (by omega)) ?_
          rintro x w5 ⟨f5, rfl, hp5, s5, t5⟩
          have F5 : zfr [(29, 3), (29, 4), (31, -1), (32, -1)] μ w5 := zfr_tr (zfr_up f4 (by decide)) (zfr_up f5 (by decide))
          by_cases ok : (pS T L n 2 9 1 (p + 4)).1 = true
          · simp only [ok, if_true]
            refine ⟨fun e => absurd e (by decide), fun _ => ?_⟩
            have hi : 1 ≤ tB T L p - 97 ∧ tB T L p - 97 ≤ 4 := by omega
            have hj : 1 ≤ tB T L (p + 2) - 97 ∧ tB T L (p + 2) - 97 ≤ 4 := by omega
            generalize tB T L p - 97 = i at hi pe ⊢
            generalize tB T L (p + 2) - 97 = j at hj pe ⊢
            have e1 : zw (zw (i * 25) + zw (j * 5)) = 25 * i + 5 * j := by simp (disch := omega) only [zw_e]; omega
            have e2 : zw (zw (j * 25) + zw (i * 5)) = 25 * j + 5 * i := by simp (disch := omega) only [zw_e]; omega
            simp only [u33_58, k33_58, zO_nop, zO_goto, zO_iload_n0, zO_iload_n1, zO_iload_n2, zO_iload_n3, zO_iload, zO_lload_n0, zO_lload_n1, zO_lload_n2, zO_lload_n3, zO_lload, zO_aload_n0, zO_aload_n1, zO_aload_n2, zO_aload_n3, zO_aload, zO_istore_n0, zO_istore_n1, zO_istore_n2, zO_istore_n3, zO_istore, zO_astore_n0, zO_astore_n1, zO_astore_n2, zO_astore_n3, zO_astore, zO_lstore, zO_iinc, zO_iconst, zO_bipush, zO_sipush, zO_lconst0, zO_lconst1, zO_ldc, zO_ldc2_w, zO_iadd, zO_isub, zO_imul, zO_idiv, zO_irem, zO_ineg, zO_iand, zO_ior, zO_ixor, zO_ishl, zO_ishr, zO_iushr, zO_ladd, zO_lmul, zO_land, zO_lor, zO_lshl, zO_lcmp, zO_i2l, zO_l2i, zO_i2b, zO_dup0, zO_dup2, zO_dup200, zO_dup202, zO_dup220, zO_dup222, zO_ifCond_eq, zO_ifCond_ne, zO_ifCond_lt, zO_ifCond_ge, zO_ifCond_gt, zO_ifCond_le, zO_if_icmp_eq, zO_if_icmp_ne, zO_if_icmp_lt, zO_if_icmp_ge, zO_if_icmp_gt, zO_if_icmp_le, zO_getfield, zO_putfield, zO_iaload, zO_baload, zO_laload, zO_iastore, zO_bastore, zO_lastore, zO_arraylength, zO_invokevirtual, zO_lreturn, zO_areturn, zO_return_, zO_tableswitch, zO_lookupswitch, zO_is0, zO_is1, zO_is2, zO_is3, zO_is4, zO_is9, zO_is10, zO_is11, zO_is12, zO_ir1, zO_ir4, zB_c, zLd_0, zLd_s, zSt_c, zSt2_c, zU_c, zD_c, zY_c, zSw_n, zSw_c, zCall_c, zVirt_c, zP_0, zP_1, zP_2, zP_3, zP_4, zGet_n, zGet_z, zPut_n, zPut_z, zcw_n, zcw_0, zcw_1, zcw_2, List.length_cons, List.length_nil, List.take_succ_cons, List.take_zero, List.drop_succ_cons, List.drop_zero, List.reverse_cons, List.reverse_nil, List.nil_append, List.cons_append, List.append_nil, List.set_cons_zero, List.set_cons_succ, List.getD_cons_zero, List.getD_cons_succ, true_and, and_true, ne_eq, not_false_eq_true, not_true_eq_false, zif, Nat.reduceAdd, Nat.reduceLeDiff, Nat.reduceLT, Nat.reduceSub, Nat.reduceEqDiff, Nat.zero_le, Nat.lt_add_one, Nat.reduceMod, false_implies, true_implies, implies_true, forall_const, Int.reduceLE, Int.reduceLT, Int.reduceEq, Int.reduceNeg, ite10_0, ite10_1, zem, zem2, Classical.not_not, and_self, or_true, true_or, or_false, false_or, zT_29, zN_29, zGf_96_29, zGf_97_29, zPf_97_29, zGf_98_29, zGf_99_29, zPf_99_29, zGf_100_29, zPf_100_29, zGf_101_29, zT_31, zN_31, zT_32, zN_32, zCopy_c, e1, e2]
            have last : Q 1 (zcp (zcp w5 31 32 0 (25 * i + 5 * j) 5) 31 32 0 (25 * j + 5 * i) 5) := by
              rw [← hQ]
              rw [pe]
              refine ⟨zfr_cp (zfr_cp F5 (by decide)) (by decide), by rw [ok]; rfl, ?_, fun _ y hy => ?_⟩
              · rw [zcp_d, if_neg (by omega), zcp_d, if_neg (by omega)]; exact hp5
              · unfold dW
                rw [zcp_d]
                by_cases a : 25 * j + 5 * i ≤ y ∧ y < 25 * j + 5 * i + 5
                · rw [if_pos ⟨rfl, a⟩, if_pos a, zcp_d, if_neg (by omega), Int.zero_add]
                  exact s5 _ ⟨by omega, by omega⟩
                · rw [if_neg (fun z => a z.2), if_neg a, zcp_d]
                  by_cases b : 25 * i + 5 * j ≤ y ∧ y < 25 * i + 5 * j + 5
                  · rw [if_pos ⟨rfl, b⟩, if_pos b, Int.zero_add]
                    exact s5 _ ⟨by omega, by omega⟩
                  · rw [if_neg (fun z => b z.2), if_neg b, zfr_c f5 (by decide), zfr_c f4 (by decide)]
            exact ⟨by omega, by omega, by omega, by omega, by omega, by omega, last⟩
          · have ok2 : (pS T L n 2 9 1 (p + 4)).1 = false := by simpa using ok
            simp only [ok2]
            exact ⟨fun _ => no w5 _ F5 hp5 (by rw [pe]; exact ok2) (by rw [pe]), fun e => absurd rfl e⟩
        · exact no w3 (p + 3) (zfr_up f3 (by decide)) hp3 (by unfold pC; rw [if_pos l0, if_pos c1, if_pos l2, if_neg c3]) (by unfold pC; rw [if_pos l0, if_pos c1, if_pos l2, if_neg c3])
      · exact no w2 (p + 2) (zfr_up f2 (by decide)) hp2 (by unfold pC; rw [if_pos l0, if_pos c1, if_neg l2]) (by unfold pC; rw [if_pos l0, if_pos c1, if_neg l2])
    · exact no w1 (p + 1) (zfr_up f1 (by decide)) hp1 (by unfold pC; rw [if_pos l0, if_neg c1]) (by unfold pC; rw [if_pos l0, if_neg c1])
  · exact no μ p zfr_rf hp (by unfold pC; rw [if_neg l0]) (by unfold pC; rw [if_neg l0])
