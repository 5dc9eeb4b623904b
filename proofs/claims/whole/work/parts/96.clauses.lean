/-! the reference's clauses -/
def cF : List (Int × Int) := [(39, 7), (39, 8), (39, 10), (45, -1)]
theorem L_atC {d : Nat} {i j k : Int} {μ : zM} {P : Int → zM → Prop} (hi : 0 ≤ i ∧ i ≤ 4) (hj : 0 ≤ j ∧ j ≤ 4) (hk : 0 ≤ k ∧ k ≤ 4) : zC (d + 1) 111 [(0, i), (0, j), (0, k)] μ P ↔ P (3 + (25 * i + 5 * j + k)) μ := by
  have e : zw (zw (zw (3 + zw (25 * i)) + zw (5 * j)) + k) = 3 + (25 * i + 5 * j + k) := by simp (disch := omega) only [zw_e]; omega
  simp only [e111, k111_0, zO_nop, zO_goto, zO_iload_n0, zO_iload_n1, zO_iload_n2, zO_iload_n3, zO_iload, zO_lload_n0, zO_lload_n1, zO_lload_n2, zO_lload_n3, zO_lload, zO_aload_n0, zO_aload_n1, zO_aload_n2, zO_aload_n3, zO_aload, zO_istore_n0, zO_istore_n1, zO_istore_n2, zO_istore_n3, zO_istore, zO_astore_n0, zO_astore_n1, zO_astore_n2, zO_astore_n3, zO_astore, zO_lstore, zO_iinc, zO_iconst, zO_bipush, zO_sipush, zO_lconst0, zO_lconst1, zO_ldc, zO_ldc2_w, zO_iadd, zO_isub, zO_imul, zO_idiv, zO_irem, zO_ineg, zO_iand, zO_ior, zO_ixor, zO_ishl, zO_ishr, zO_iushr, zO_ladd, zO_lmul, zO_land, zO_lor, zO_lshl, zO_lcmp, zO_i2l, zO_l2i, zO_i2b, zO_dup0, zO_dup2, zO_dup200, zO_dup202, zO_dup220, zO_dup222, zO_ifCond_eq, zO_ifCond_ne, zO_ifCond_lt, zO_ifCond_ge, zO_ifCond_gt, zO_ifCond_le, zO_if_icmp_eq, zO_if_icmp_ne, zO_if_icmp_lt, zO_if_icmp_ge, zO_if_icmp_gt, zO_if_icmp_le, zO_getfield, zO_putfield, zO_iaload, zO_baload, zO_laload, zO_iastore, zO_bastore, zO_lastore, zO_arraylength, zO_invokevirtual, zO_lreturn, zO_areturn, zO_return_, zO_tableswitch, zO_lookupswitch, zO_is0, zO_is1, zO_is2, zO_is3, zO_is4, zO_is9, zO_is10, zO_is11, zO_is12, zO_ir1, zO_ir4, zB_c, zLd_0, zLd_s, zSt_c, zSt2_c, zU_c, zD_c, zY_c, zSw_n, zSw_c, zCall_c, zVirt_c, zP_0, zP_1, zP_2, zP_3, zP_4, zGet_n, zGet_z, zPut_n, zPut_z, zcw_n, zcw_0, zcw_1, zcw_2, List.length_cons, List.length_nil, List.take_succ_cons, List.take_zero, List.drop_succ_cons, List.drop_zero, List.reverse_cons, List.reverse_nil, List.nil_append, List.cons_append, List.append_nil, List.set_cons_zero, List.set_cons_succ, List.getD_cons_zero, List.getD_cons_succ, true_and, and_true, ne_eq, not_false_eq_true, not_true_eq_false, zif, Nat.reduceAdd, Nat.reduceLeDiff, Nat.reduceLT, Nat.reduceSub, Nat.reduceEqDiff, Nat.zero_le, Nat.lt_add_one, Nat.reduceMod, false_implies, true_implies, implies_true, forall_const, Int.reduceLE, Int.reduceLT, Int.reduceEq, Int.reduceNeg, ite10_0, ite10_1, zem, zem2, Classical.not_not, and_self, or_true, true_or, or_false, false_or, e]
/-- one clause, without a fault so far: behind the sum -/
def cQ (T : Int → Int) (L n p : Int) (u : zM) (i j : Int) : Prop := ((pC T L n p).1 = true → u 39 8 = -1 ∧ u 39 7 = (pC T L n p).2.1 ∧ i = (pC T L n p).2.2.1 ∧ j = (pC T L n p).2.2.2.1 ∧ ∀ x, zrg 5 x → u 45 x = (pC T L n p).2.2.2.2 x) ∧ ((pC T L n p).1 = false → u 39 8 = (pC T L n p).2.1)
theorem L_clause {d : Nat} {T : Int → Int} {L n p b m : Int} {μ : zM} {Q : Int → zM → Prop} (hn : 1 ≤ n ∧ n ≤ 5) (h : tU T L n μ) (hp : μ 39 7 = p) (hff : μ 39 8 = -1) (p0 : 0 ≤ p) (pL : p ≤ L) (hQ : ∀ u i j, zfr cF μ u → cQ T L n p u i j → zR (d + 5) 133 Q 80 [(2, 39), (0, b), (0, m), (0, i), (0, j), (0, 0)] [] u) : ∀ x y z, zR (d + 5) 133 Q 44 [(2, 39), (0, b), (0, m), x, y, z] [] μ := by
  intro x y z
  have hL := h.1
  have hT := tU_P h
  have b0 := tB_bd hT p0
  have b1 := tB_bd hT (p := p + 1) (by omega)
  have b2 := tB_bd hT (p := p + 2) (by omega)
  have b3 := tB_bd hT (p := p + 3) (by omega)
  simp only [u133_44, k133_44, zO_nop, zO_goto, zO_iload_n0, zO_iload_n1, zO_iload_n2, zO_iload_n3, zO_iload, zO_lload_n0, zO_lload_n1, zO_lload_n2, zO_lload_n3, zO_lload, zO_aload_n0, zO_aload_n1, zO_aload_n2, zO_aload_n3, zO_aload, zO_istore_n0, zO_istore_n1, zO_istore_n2, zO_istore_n3, zO_istore, zO_astore_n0, zO_astore_n1, zO_astore_n2, zO_astore_n3, zO_astore, zO_lstore, zO_iinc, zO_iconst, zO_bipush, zO_sipush, zO_lconst0, zO_lconst1, zO_ldc, zO_ldc2_w, zO_iadd, zO_isub, zO_imul, zO_idiv, zO_irem, zO_ineg, zO_iand, zO_ior, zO_ixor, zO_ishl, zO_ishr, zO_iushr, zO_ladd, zO_lmul, zO_land, zO_lor, zO_lshl, zO_lcmp, zO_i2l, zO_l2i, zO_i2b, zO_dup0, zO_dup2, zO_dup200, zO_dup202, zO_dup220, zO_dup222, zO_ifCond_eq, zO_ifCond_ne, zO_ifCond_lt, zO_ifCond_ge, zO_ifCond_gt, zO_ifCond_le, zO_if_icmp_eq, zO_if_icmp_ne, zO_if_icmp_lt, zO_if_icmp_ge, zO_if_icmp_gt, zO_if_icmp_le, zO_getfield, zO_putfield, zO_iaload, zO_baload, zO_laload, zO_iastore, zO_bastore, zO_lastore, zO_arraylength, zO_invokevirtual, zO_lreturn, zO_areturn, zO_return_, zO_tableswitch, zO_lookupswitch, zO_is0, zO_is1, zO_is2, zO_is3, zO_is4, zO_is9, zO_is10, zO_is11, zO_is12, zO_ir1, zO_ir4, zB_c, zLd_0, zLd_s, zSt_c, zSt2_c, zU_c, zD_c, zY_c, zSw_n, zSw_c, zCall_c, zVirt_c, zP_0, zP_1, zP_2, zP_3, zP_4, zGet_n, zGet_z, zPut_n, zPut_z, zcw_n, zcw_0, zcw_1, zcw_2, List.length_cons, List.length_nil, List.take_succ_cons, List.take_zero, List.drop_succ_cons, List.drop_zero, List.reverse_cons, List.reverse_nil, List.nil_append, List.cons_append, List.append_nil, List.set_cons_zero, List.set_cons_succ, List.getD_cons_zero, List.getD_cons_succ, true_and, and_true, ne_eq, not_false_eq_true, not_true_eq_false, zif, Nat.reduceAdd, Nat.reduceLeDiff, Nat.reduceLT, Nat.reduceSub, Nat.reduceEqDiff, Nat.zero_le, Nat.lt_add_one, Nat.reduceMod, false_implies, true_implies, implies_true, forall_const, Int.reduceLE, Int.reduceLT, Int.reduceEq, Int.reduceNeg, ite10_0, ite10_1, zem, zem2, Classical.not_not, and_self, or_true, true_or, or_false, false_or, zT_39, zN_39, zGf_192_39, zGf_193_39, zGf_194_39, zPf_194_39, zGf_195_39, zGf_196_39, zGf_197_39, zGf_198_39, zPf_198_39, zGf_199_39, zPf_199_39, zGf_200_39, zPf_200_39, zGf_201_39, zGf_202_39, zPf_202_39, zGf_203_39, zGf_204_39, zPf_204_39, zGf_205_39, zGf_206_39, zGf_207_39, zGf_208_39, zGf_209_39, zGf_210_39, zGf_211_39, zGf_212_39, zGf_213_39, zGf_214_39, zPf_214_39, zGf_215_39, zGf_216_39]
  rw [L_letter (d := d + 2) hn (by omega) h hp hff p0 pL]
  refine ⟨fun l0 => ?_, fun l0 => ?_⟩
  · have g0 := b0.2 (by omega)
    generalize hw1 : zu μ 39 7 (p + 1) = w1
    have f1 : zfr cF μ w1 := by rw [← hw1]; exact zfr_u zfr_rf (by decide)
    have h1 : tU T L n w1 := tU_fr h f1 (by decide) (by decide) (by decide)
    have hp1 : w1 39 7 = p + 1 := by rw [← hw1, zu_at]
    have h81 : w1 39 8 = -1 := by rw [← hw1, zu_ne (by omega)]; exact hff
    rw [L_sign (d := d + 2) (by omega) h1 hp1 h81 (by omega) (by omega)]
    refine ⟨fun c1 => ?_, fun c1 => ?_⟩
    · have g1 := b1.2 (by omega)
      generalize hw2 : zu w1 39 7 (p + 1 + 1) = w2
      have f2 : zfr cF μ w2 := by rw [← hw2]; exact zfr_u f1 (by decide)
      have h2 : tU T L n w2 := tU_fr h f2 (by decide) (by decide) (by decide)
      have hp2 : w2 39 7 = p + 2 := by rw [← hw2, zu_at]; omega
      have h82 : w2 39 8 = -1 := by rw [← hw2, zu_ne (by omega)]; exact h81
      rw [L_letter (d := d + 2) hn (by omega) h2 hp2 h82 (by omega) (by omega)]
      refine ⟨fun l2 => ?_, fun l2 => ?_⟩
      · have g2 := b2.2 (by omega)
        generalize hw3 : zu w2 39 7 (p + 2 + 1) = w3
        have f3 : zfr cF μ w3 := by rw [← hw3]; exact zfr_u f2 (by decide)
        have h3 : tU T L n w3 := tU_fr h f3 (by decide) (by decide) (by decide)
        have hp3 : w3 39 7 = p + 3 := by rw [← hw3, zu_at]; omega
        have h83 : w3 39 8 = -1 := by rw [← hw3, zu_ne (by omega)]; exact h82
        rw [L_sign (d := d + 2) (by omega) h3 hp3 h83 (by omega) (by omega)]
        refine ⟨fun c3 => ?_, fun c3 => ?_⟩
        · have g3 := b3.2 (by omega)
          generalize hw4 : zu w3 39 7 (p + 3 + 1) = w4
          have f4 : zfr cF μ w4 := by rw [← hw4]; exact zfr_u f3 (by decide)
          have h4 : tU T L n w4 := tU_fr h f4 (by decide) (by decide) (by decide)
          have hp4 : w4 39 7 = p + 4 := by rw [← hw4, zu_at]; omega
          have h84 : w4 39 8 = -1 := by rw [← hw4, zu_ne (by omega)]; exact h83
          refine zuse (L_sum (d := d) (figs := 1) hn (by omega) (by omega) (by omega) h4 hp4 h84 (by omega) (by omega)) ?_
          rintro r u ⟨f5, g5, g6⟩
          refine hQ u _ _ (zfr_tr f4 f5) ?_
          unfold cQ pC
          rw [if_pos l0, if_pos c1, if_pos l2, if_pos c3]
          exact ⟨fun e => ⟨(g5 e).1, (g5 e).2.1, rfl, rfl, (g5 e).2.2.2⟩, fun e => (g6 e).1⟩
        · have f4 : zfr cF μ (zu w3 39 8 (p + 3)) := zfr_u f3 (by decide)
          refine zuse (L_sumF (d := d) (by rw [zu_at]; omega)) ?_
          rintro r u f5
          refine hQ u _ _ (zfr_tr f4 (zfr_up f5 (by decide))) ?_
          unfold cQ pC
          rw [if_pos l0, if_pos c1, if_pos l2, if_neg c3]
          exact ⟨fun e => (by cases e), fun e => by rw [f5 _ _ (by decide), zu_at]⟩
      · have f3 : zfr cF μ (zu w2 39 8 (p + 2)) := zfr_u f2 (by decide)
        rw [L_signF (d := d + 2) (by rw [zu_at]; omega)]
        refine zuse (L_sumF (d := d) (by rw [zu_at]; omega)) ?_
        rintro r u f5
        refine hQ u _ _ (zfr_tr f3 (zfr_up f5 (by decide))) ?_
        unfold cQ pC
        rw [if_pos l0, if_pos c1, if_neg l2]
        exact ⟨fun e => (by cases e), fun e => by rw [f5 _ _ (by decide), zu_at]⟩
    · have f2 : zfr cF μ (zu w1 39 8 (p + 1)) := zfr_u f1 (by decide)
      rw [L_letterF (d := d + 2) (by rw [zu_at]; omega), L_signF (d := d + 2) (by rw [zu_at]; omega)]
      refine zuse (L_sumF (d := d) (by rw [zu_at]; omega)) ?_
      rintro r u f5
      refine hQ u _ _ (zfr_tr f2 (zfr_up f5 (by decide))) ?_
      unfold cQ pC
      rw [if_pos l0, if_neg c1]
      exact ⟨fun e => (by cases e), fun e => by rw [f5 _ _ (by decide), zu_at]⟩
  · have f1 : zfr cF μ (zu μ 39 8 p) := zfr_u zfr_rf (by decide)
    rw [L_signF (d := d + 2) (by rw [zu_at]; omega), L_letterF (d := d + 2) (by rw [zu_at]; omega), L_signF (d := d + 2) (by rw [zu_at]; omega)]
    refine zuse (L_sumF (d := d) (by rw [zu_at]; omega)) ?_
    rintro r u f5
    refine hQ u _ _ (zfr_tr f1 (zfr_up f5 (by decide))) ?_
    unfold cQ pC
    rw [if_neg l0]
    exact ⟨fun e => (by cases e), fun e => by rw [f5 _ _ (by decide), zu_at]⟩
def dV (i j : Int) (S D : Int → Int) (k y : Int) : Int := if 25 * j + 5 * i ≤ y ∧ y < 25 * j + 5 * i + k then S (y - (25 * j + 5 * i)) else if 25 * i + 5 * j ≤ y ∧ y < 25 * i + 5 * j + k then S (y - (25 * i + 5 * j)) else D y
/-- all clauses, from the one at p on: nothing told (b = 0), or told (b = 1) where there is no fault -/
theorem L_clauses {d : Nat} {T : Int → Int} {L n b : Int} {μ : zM} (hn : 1 ≤ n ∧ n ≤ 5) (h : tU T L n μ) (hb : b = 0 ∨ (b = 1 ∧ 0 ≤ (pR T L n 60 0 (fun y => μ 40 (3 + y)) 1).1)) : zC (d + 6) 133 [(2, 39), (0, b)] μ (fun x u => zfr ((40, -1) :: cF) μ u ∧ (0 ≤ (pR T L n 60 0 (fun y => μ 40 (3 + y)) 1).1 → x = (pR T L n 60 0 (fun y => μ 40 (3 + y)) 1).1 ∧ u 39 8 = -1) ∧ (¬ 0 ≤ (pR T L n 60 0 (fun y => μ 40 (3 + y)) 1).1 → u 39 8 = -100 - (pR T L n 60 0 (fun y => μ 40 (3 + y)) 1).1) ∧ (b = 0 → u 40 = μ 40) ∧ (b = 1 → (∀ y, zrg 125 y → u 40 (3 + y) = (pR T L n 60 0 (fun y => μ 40 (3 + y)) 1).2 y) ∧ ∀ y, (y < 3 ∨ 128 ≤ y) → u 40 y = μ 40 y)) := by
  generalize hRR : pR T L n 60 0 (fun y => μ 40 (3 + y)) 1 = RR at hb ⊢
  generalize hQ : (fun (x : Int) (u : zM) => zfr ((40, -1) :: cF) μ u ∧ (0 ≤ RR.1 → x = RR.1 ∧ u 39 8 = -1) ∧ (¬ 0 ≤ RR.1 → u 39 8 = -100 - RR.1) ∧ (b = 0 → u 40 = μ 40) ∧ (b = 1 → (∀ y, zrg 125 y → u 40 (3 + y) = RR.2 y) ∧ ∀ y, (y < 3 ∨ 128 ≤ y) → u 40 y = μ 40 y)) = Q
  have hL := h.1
  have hT := tU_P h
  obtain ⟨J, hJ⟩ : ∃ J : (Int → Int) → zM → Prop, J = fun D w => zfr ((40, -1) :: cF) μ w ∧ (b = 0 → w 40 = μ 40) ∧ (b = 1 → (∀ y, zrg 125 y → w 40 (3 + y) = D y) ∧ ∀ y, (y < 3 ∨ 128 ≤ y) → w 40 y = μ 40 y) := ⟨_, rfl⟩
  -- behind the last clause: no fault
  have good : ∀ w m D y z x, J D w → w 39 8 = -1 → w 39 7 = L → (m, D) = RR → 1 ≤ m → zR (d + 5) 133 Q 12 [(2, 39), (0, b), (0, m), x, y, z] [] w := by
    intro w m D y z x hj h8 h7 he m1
    have l6 : w 39 6 = L := by rw [hJ] at hj; rw [hj.1 _ _ (by decide)]; exact h.2.1
    have fin : Q m w := by
      rw [hJ] at hj
      rw [← hQ]
      rw [← he]
      exact ⟨hj.1, fun _ => ⟨rfl, h8⟩, fun e => absurd (by show 0 ≤ m; omega) e, hj.2.1, hj.2.2⟩
    rw [u133_12]
    simp only [k133_12, u133_142, k133_142, zO_nop, zO_goto, zO_iload_n0, zO_iload_n1, zO_iload_n2, zO_iload_n3, zO_iload, zO_lload_n0, zO_lload_n1, zO_lload_n2, zO_lload_n3, zO_lload, zO_aload_n0, zO_aload_n1, zO_aload_n2, zO_aload_n3, zO_aload, zO_istore_n0, zO_istore_n1, zO_istore_n2, zO_istore_n3, zO_istore, zO_astore_n0, zO_astore_n1, zO_astore_n2, zO_astore_n3, zO_astore, zO_lstore, zO_iinc, zO_iconst, zO_bipush, zO_sipush, zO_lconst0, zO_lconst1, zO_ldc, zO_ldc2_w, zO_iadd, zO_isub, zO_imul, zO_idiv, zO_irem, zO_ineg, zO_iand, zO_ior, zO_ixor, zO_ishl, zO_ishr, zO_iushr, zO_ladd, zO_lmul, zO_land, zO_lor, zO_lshl, zO_lcmp, zO_i2l, zO_l2i, zO_i2b, zO_dup0, zO_dup2, zO_dup200, zO_dup202, zO_dup220, zO_dup222, zO_ifCond_eq, zO_ifCond_ne, zO_ifCond_lt, zO_ifCond_ge, zO_ifCond_gt, zO_ifCond_le, zO_if_icmp_eq, zO_if_icmp_ne, zO_if_icmp_lt, zO_if_icmp_ge, zO_if_icmp_gt, zO_if_icmp_le, zO_getfield, zO_putfield, zO_iaload, zO_baload, zO_laload, zO_iastore, zO_bastore, zO_lastore, zO_arraylength, zO_invokevirtual, zO_lreturn, zO_areturn, zO_return_, zO_tableswitch, zO_lookupswitch, zO_is0, zO_is1, zO_is2, zO_is3, zO_is4, zO_is9, zO_is10, zO_is11, zO_is12, zO_ir1, zO_ir4, zB_c, zLd_0, zLd_s, zSt_c, zSt2_c, zU_c, zD_c, zY_c, zSw_n, zSw_c, zCall_c, zVirt_c, zP_0, zP_1, zP_2, zP_3, zP_4, zGet_n, zGet_z, zPut_n, zPut_z, zcw_n, zcw_0, zcw_1, zcw_2, List.length_cons, List.length_nil, List.take_succ_cons, List.take_zero, List.drop_succ_cons, List.drop_zero, List.reverse_cons, List.reverse_nil, List.nil_append, List.cons_append, List.append_nil, List.set_cons_zero, List.set_cons_succ, List.getD_cons_zero, List.getD_cons_succ, true_and, and_true, ne_eq, not_false_eq_true, not_true_eq_false, zif, Nat.reduceAdd, Nat.reduceLeDiff, Nat.reduceLT, Nat.reduceSub, Nat.reduceEqDiff, Nat.zero_le, Nat.lt_add_one, Nat.reduceMod, false_implies, true_implies, implies_true, forall_const, Int.reduceLE, Int.reduceLT, Int.reduceEq, Int.reduceNeg, ite10_0, ite10_1, zem, zem2, Classical.not_not, and_self, or_true, true_or, or_false, false_or, zT_39, zN_39, zGf_192_39, zGf_193_39, zGf_194_39, zPf_194_39, zGf_195_39, zGf_196_39, zGf_197_39, zGf_198_39, zPf_198_39, zGf_199_39, zPf_199_39, zGf_200_39, zPf_200_39, zGf_201_39, zGf_202_39, zPf_202_39, zGf_203_39, zGf_204_39, zPf_204_39, zGf_205_39, zGf_206_39, zGf_207_39, zGf_208_39, zGf_209_39, zGf_210_39, zGf_211_39, zGf_212_39, zGf_213_39, zGf_214_39, zPf_214_39, zGf_215_39, zGf_216_39, h8, h7, l6]
    exact ⟨fun e => absurd e (by omega), fun _ => ⟨fun e => absurd e (Int.lt_irrefl _), fun _ => fin⟩⟩
  -- a fault
  have bad : ∀ w m q D y z x, J D w → w 39 8 = q → 0 ≤ q → (-100 - q, D) = RR → zR (d + 5) 133 Q 12 [(2, 39), (0, b), (0, m), x, y, z] [] w := by
    intro w m q D y z x hj h8 q0 he
    have fin : Q m w := by
      rw [hJ] at hj
      rw [← hQ]
      rw [← he]
      exact ⟨hj.1, fun e => absurd (show 0 ≤ -100 - q from e) (by omega), fun _ => by show w 39 8 = -100 - (-100 - q); omega, hj.2.1, hj.2.2⟩
    rw [u133_12]
    simp only [k133_12, u133_142, k133_142, zO_nop, zO_goto, zO_iload_n0, zO_iload_n1, zO_iload_n2, zO_iload_n3, zO_iload, zO_lload_n0, zO_lload_n1, zO_lload_n2, zO_lload_n3, zO_lload, zO_aload_n0, zO_aload_n1, zO_aload_n2, zO_aload_n3, zO_aload, zO_istore_n0, zO_istore_n1, zO_istore_n2, zO_istore_n3, zO_istore, zO_astore_n0, zO_astore_n1, zO_astore_n2, zO_astore_n3, zO_astore, zO_lstore, zO_iinc, zO_iconst, zO_bipush, zO_sipush, zO_lconst0, zO_lconst1, zO_ldc, zO_ldc2_w, zO_iadd, zO_isub, zO_imul, zO_idiv, zO_irem, zO_ineg, zO_iand, zO_ior, zO_ixor, zO_ishl, zO_ishr, zO_iushr, zO_ladd, zO_lmul, zO_land, zO_lor, zO_lshl, zO_lcmp, zO_i2l, zO_l2i, zO_i2b, zO_dup0, zO_dup2, zO_dup200, zO_dup202, zO_dup220, zO_dup222, zO_ifCond_eq, zO_ifCond_ne, zO_ifCond_lt, zO_ifCond_ge, zO_ifCond_gt, zO_ifCond_le, zO_if_icmp_eq, zO_if_icmp_ne, zO_if_icmp_lt, zO_if_icmp_ge, zO_if_icmp_gt, zO_if_icmp_le, zO_getfield, zO_putfield, zO_iaload, zO_baload, zO_laload, zO_iastore, zO_bastore, zO_lastore, zO_arraylength, zO_invokevirtual, zO_lreturn, zO_areturn, zO_return_, zO_tableswitch, zO_lookupswitch, zO_is0, zO_is1, zO_is2, zO_is3, zO_is4, zO_is9, zO_is10, zO_is11, zO_is12, zO_ir1, zO_ir4, zB_c, zLd_0, zLd_s, zSt_c, zSt2_c, zU_c, zD_c, zY_c, zSw_n, zSw_c, zCall_c, zVirt_c, zP_0, zP_1, zP_2, zP_3, zP_4, zGet_n, zGet_z, zPut_n, zPut_z, zcw_n, zcw_0, zcw_1, zcw_2, List.length_cons, List.length_nil, List.take_succ_cons, List.take_zero, List.drop_succ_cons, List.drop_zero, List.reverse_cons, List.reverse_nil, List.nil_append, List.cons_append, List.append_nil, List.set_cons_zero, List.set_cons_succ, List.getD_cons_zero, List.getD_cons_succ, true_and, and_true, ne_eq, not_false_eq_true, not_true_eq_false, zif, Nat.reduceAdd, Nat.reduceLeDiff, Nat.reduceLT, Nat.reduceSub, Nat.reduceEqDiff, Nat.zero_le, Nat.lt_add_one, Nat.reduceMod, false_implies, true_implies, implies_true, forall_const, Int.reduceLE, Int.reduceLT, Int.reduceEq, Int.reduceNeg, ite10_0, ite10_1, zem, zem2, Classical.not_not, and_self, or_true, true_or, or_false, false_or, zT_39, zN_39, zGf_192_39, zGf_193_39, zGf_194_39, zPf_194_39, zGf_195_39, zGf_196_39, zGf_197_39, zGf_198_39, zPf_198_39, zGf_199_39, zPf_199_39, zGf_200_39, zPf_200_39, zGf_201_39, zGf_202_39, zPf_202_39, zGf_203_39, zGf_204_39, zPf_204_39, zGf_205_39, zGf_206_39, zGf_207_39, zGf_208_39, zGf_209_39, zGf_210_39, zGf_211_39, zGf_212_39, zGf_213_39, zGf_214_39, zPf_214_39, zGf_215_39, zGf_216_39, h8]
    exact ⟨fun e => absurd e (by omega), fun _ => fin⟩
  -- what is told
  have told : ∀ D S i j m u, J D u → (1 ≤ i ∧ i ≤ 4) → (1 ≤ j ∧ j ≤ 4) → (∀ x, zrg 5 x → u 45 x = S x) → (∀ w, J (dW i j S D) w → w 39 8 = u 39 8 → w 39 7 = u 39 7 → ∀ z, zR (d + 5) 133 Q 136 [(2, 39), (0, b), (0, m), (0, i), (0, j), z] [] w) → zR (d + 5) 133 Q 80 [(2, 39), (0, b), (0, m), (0, i), (0, j), (0, 0)] [] u := by
    intro D S i j m u hj hi hj' hS hk
    rcases hb with rfl | ⟨rfl, hA⟩
    · rw [u133_80, k133_80]
      simp only [zO_nop, zO_goto, zO_iload_n0, zO_iload_n1, zO_iload_n2, zO_iload_n3, zO_iload, zO_lload_n0, zO_lload_n1, zO_lload_n2, zO_lload_n3, zO_lload, zO_aload_n0, zO_aload_n1, zO_aload_n2, zO_aload_n3, zO_aload, zO_istore_n0, zO_istore_n1, zO_istore_n2, zO_istore_n3, zO_istore, zO_astore_n0, zO_astore_n1, zO_astore_n2, zO_astore_n3, zO_astore, zO_lstore, zO_iinc, zO_iconst, zO_bipush, zO_sipush, zO_lconst0, zO_lconst1, zO_ldc, zO_ldc2_w, zO_iadd, zO_isub, zO_imul, zO_idiv, zO_irem, zO_ineg, zO_iand, zO_ior, zO_ixor, zO_ishl, zO_ishr, zO_iushr, zO_ladd, zO_lmul, zO_land, zO_lor, zO_lshl, zO_lcmp, zO_i2l, zO_l2i, zO_i2b, zO_dup0, zO_dup2, zO_dup200, zO_dup202, zO_dup220, zO_dup222, zO_ifCond_eq, zO_ifCond_ne, zO_ifCond_lt, zO_ifCond_ge, zO_ifCond_gt, zO_ifCond_le, zO_if_icmp_eq, zO_if_icmp_ne, zO_if_icmp_lt, zO_if_icmp_ge, zO_if_icmp_gt, zO_if_icmp_le, zO_getfield, zO_putfield, zO_iaload, zO_baload, zO_laload, zO_iastore, zO_bastore, zO_lastore, zO_arraylength, zO_invokevirtual, zO_lreturn, zO_areturn, zO_return_, zO_tableswitch, zO_lookupswitch, zO_is0, zO_is1, zO_is2, zO_is3, zO_is4, zO_is9, zO_is10, zO_is11, zO_is12, zO_ir1, zO_ir4, zB_c, zLd_0, zLd_s, zSt_c, zSt2_c, zU_c, zD_c, zY_c, zSw_n, zSw_c, zCall_c, zVirt_c, zP_0, zP_1, zP_2, zP_3, zP_4, zGet_n, zGet_z, zPut_n, zPut_z, zcw_n, zcw_0, zcw_1, zcw_2, List.length_cons, List.length_nil, List.take_succ_cons, List.take_zero, List.drop_succ_cons, List.drop_zero, List.reverse_cons, List.reverse_nil, List.nil_append, List.cons_append, List.append_nil, List.set_cons_zero, List.set_cons_succ, List.getD_cons_zero, List.getD_cons_succ, true_and, and_true, ne_eq, not_false_eq_true, not_true_eq_false, zif, Nat.reduceAdd, Nat.reduceLeDiff, Nat.reduceLT, Nat.reduceSub, Nat.reduceEqDiff, Nat.zero_le, Nat.lt_add_one, Nat.reduceMod, false_implies, true_implies, implies_true, forall_const, Int.reduceLE, Int.reduceLT, Int.reduceEq, Int.reduceNeg, ite10_0, ite10_1, zem, zem2, Classical.not_not, and_self, or_true, true_or, or_false, false_or]
      refine hk u ?_ rfl rfl _
      rw [hJ] at hj ⊢
      exact ⟨hj.1, hj.2.1, fun e => absurd e (by decide)⟩
    · rw [hJ] at hj
      have hj2 := hj.2.2 rfl
      have hl : ∀ k w, 0 ≤ k → k ≤ 5 → (zfr [(40, -1)] u w ∧ (∀ y, zrg 125 y → w 40 (3 + y) = dV i j S D k y) ∧ ∀ y, (y < 3 ∨ 128 ≤ y) → w 40 y = μ 40 y) → zR (d + 5) 133 Q 80 [(2, 39), (0, 1), (0, m), (0, i), (0, j), (0, k)] [] w := by
        refine zloop (n := 5) (Inv := fun k w => zfr [(40, -1)] u w ∧ (∀ y, zrg 125 y → w 40 (3 + y) = dV i j S D k y) ∧ ∀ y, (y < 3 ∨ 128 ≤ y) → w 40 y = μ 40 y) ?_ ?_
        · rintro k w k0 k1 ⟨f, g, o⟩ ih
          have e45 : w 45 k = S k := by rw [zfr_c f (by decide)]; exact hS k ⟨k0, k1⟩
          have e45' : ∀ a b, zu w 40 a b 45 k = S k := fun a b => by rw [zu_ne (by omega)]; exact e45
          rw [u133_80, k133_80]
          simp only [zO_nop, zO_goto, zO_iload_n0, zO_iload_n1, zO_iload_n2, zO_iload_n3, zO_iload, zO_lload_n0, zO_lload_n1, zO_lload_n2, zO_lload_n3, zO_lload, zO_aload_n0, zO_aload_n1, zO_aload_n2, zO_aload_n3, zO_aload, zO_istore_n0, zO_istore_n1, zO_istore_n2, zO_istore_n3, zO_istore, zO_astore_n0, zO_astore_n1, zO_astore_n2, zO_astore_n3, zO_astore, zO_lstore, zO_iinc, zO_iconst, zO_bipush, zO_sipush, zO_lconst0, zO_lconst1, zO_ldc, zO_ldc2_w, zO_iadd, zO_isub, zO_imul, zO_idiv, zO_irem, zO_ineg, zO_iand, zO_ior, zO_ixor, zO_ishl, zO_ishr, zO_iushr, zO_ladd, zO_lmul, zO_land, zO_lor, zO_lshl, zO_lcmp, zO_i2l, zO_l2i, zO_i2b, zO_dup0, zO_dup2, zO_dup200, zO_dup202, zO_dup220, zO_dup222, zO_ifCond_eq, zO_ifCond_ne, zO_ifCond_lt, zO_ifCond_ge, zO_ifCond_gt, zO_ifCond_le, zO_if_icmp_eq, zO_if_icmp_ne, zO_if_icmp_lt, zO_if_icmp_ge, zO_if_icmp_gt, zO_if_icmp_le, zO_getfield, zO_putfield, zO_iaload, zO_baload, zO_laload, zO_iastore, zO_bastore, zO_lastore, zO_arraylength, zO_invokevirtual, zO_lreturn, zO_areturn, zO_return_, zO_tableswitch, zO_lookupswitch, zO_is0, zO_is1, zO_is2, zO_is3, zO_is4, zO_is9, zO_is10, zO_is11, zO_is12, zO_ir1, zO_ir4, zB_c, zLd_0, zLd_s, zSt_c, zSt2_c, zU_c, zD_c, zY_c, zSw_n, zSw_c, zCall_c, zVirt_c, zP_0, zP_1, zP_2, zP_3, zP_4, zGet_n, zGet_z, zPut_n, zPut_z, zcw_n, zcw_0, zcw_1, zcw_2, List.length_cons, List.length_nil, List.take_succ_cons, List.take_zero, List.drop_succ_cons, List.drop_zero, List.reverse_cons, List.reverse_nil, List.nil_append, List.cons_append, List.append_nil, List.set_cons_zero, List.set_cons_succ, List.getD_cons_zero, List.getD_cons_succ, true_and, and_true, ne_eq, not_false_eq_true, not_true_eq_false, zif, Nat.reduceAdd, Nat.reduceLeDiff, Nat.reduceLT, Nat.reduceSub, Nat.reduceEqDiff, Nat.zero_le, Nat.lt_add_one, Nat.reduceMod, false_implies, true_implies, implies_true, forall_const, Int.reduceLE, Int.reduceLT, Int.reduceEq, Int.reduceNeg, ite10_0, ite10_1, zem, zem2, Classical.not_not, and_self, or_true, true_or, or_false, false_or, zT_39, zN_39, zGf_192_39, zGf_193_39, zGf_194_39, zPf_194_39, zGf_195_39, zGf_196_39, zGf_197_39, zGf_198_39, zPf_198_39, zGf_199_39, zPf_199_39, zGf_200_39, zPf_200_39, zGf_201_39, zGf_202_39, zPf_202_39, zGf_203_39, zGf_204_39, zPf_204_39, zGf_205_39, zGf_206_39, zGf_207_39, zGf_208_39, zGf_209_39, zGf_210_39, zGf_211_39, zGf_212_39, zGf_213_39, zGf_214_39, zPf_214_39, zGf_215_39, zGf_216_39, zAl_40, zAs_40, zAl_45, zAs_45, L_atC (i := i) (j := j) (k := k) ⟨by omega, hi.2⟩ ⟨by omega, hj'.2⟩ ⟨k0, by omega⟩, L_atC (i := j) (j := i) (k := k) ⟨by omega, hj'.2⟩ ⟨by omega, hi.2⟩ ⟨k0, by omega⟩, e45, e45']
          rw [zw_e (z := k + 1) (by omega) (by omega)]
          have st := ih (zu (zu w 40 (3 + (25 * i + 5 * j + k)) (S k)) 40 (3 + (25 * j + 5 * i + k)) (S k)) ⟨zfr_w (zfr_w f (by decide)) (by decide), fun y hy => ?_, fun y hy => by rw [zu_ne (by omega), zu_ne (by omega)]; exact o y hy⟩
          · exact ⟨fun _ => ⟨k0, k1, by omega, by omega, k0, k1, by omega, by omega, st⟩, fun e => absurd k1 e⟩
          · have y0 := hy.1
            have y1 := hy.2
            by_cases a : y = 25 * j + 5 * i + k
            · rw [a, zu_at]
              unfold dV
              rw [if_pos (by omega)]
              congr 1
              omega
            · rw [zu_ne (by omega)]
              by_cases c : y = 25 * i + 5 * j + k
              · rw [c, zu_at]
                unfold dV
                rw [if_neg (by omega), if_pos (by omega)]
                congr 1
                omega
              · rw [zu_ne (by omega), g y hy]
                unfold dV
                have q1 : (25 * j + 5 * i ≤ y ∧ y < 25 * j + 5 * i + (k + 1)) ↔ (25 * j + 5 * i ≤ y ∧ y < 25 * j + 5 * i + k) := by omega
                have q2 : (25 * i + 5 * j ≤ y ∧ y < 25 * i + 5 * j + (k + 1)) ↔ (25 * i + 5 * j ≤ y ∧ y < 25 * i + 5 * j + k) := by omega
                simp only [q1, q2]
        · rintro w ⟨f, g, o⟩
          rw [u133_80, k133_80]
          simp only [zO_nop, zO_goto, zO_iload_n0, zO_iload_n1, zO_iload_n2, zO_iload_n3, zO_iload, zO_lload_n0, zO_lload_n1, zO_lload_n2, zO_lload_n3, zO_lload, zO_aload_n0, zO_aload_n1, zO_aload_n2, zO_aload_n3, zO_aload, zO_istore_n0, zO_istore_n1, zO_istore_n2, zO_istore_n3, zO_istore, zO_astore_n0, zO_astore_n1, zO_astore_n2, zO_astore_n3, zO_astore, zO_lstore, zO_iinc, zO_iconst, zO_bipush, zO_sipush, zO_lconst0, zO_lconst1, zO_ldc, zO_ldc2_w, zO_iadd, zO_isub, zO_imul, zO_idiv, zO_irem, zO_ineg, zO_iand, zO_ior, zO_ixor, zO_ishl, zO_ishr, zO_iushr, zO_ladd, zO_lmul, zO_land, zO_lor, zO_lshl, zO_lcmp, zO_i2l, zO_l2i, zO_i2b, zO_dup0, zO_dup2, zO_dup200, zO_dup202, zO_dup220, zO_dup222, zO_ifCond_eq, zO_ifCond_ne, zO_ifCond_lt, zO_ifCond_ge, zO_ifCond_gt, zO_ifCond_le, zO_if_icmp_eq, zO_if_icmp_ne, zO_if_icmp_lt, zO_if_icmp_ge, zO_if_icmp_gt, zO_if_icmp_le, zO_getfield, zO_putfield, zO_iaload, zO_baload, zO_laload, zO_iastore, zO_bastore, zO_lastore, zO_arraylength, zO_invokevirtual, zO_lreturn, zO_areturn, zO_return_, zO_tableswitch, zO_lookupswitch, zO_is0, zO_is1, zO_is2, zO_is3, zO_is4, zO_is9, zO_is10, zO_is11, zO_is12, zO_ir1, zO_ir4, zB_c, zLd_0, zLd_s, zSt_c, zSt2_c, zU_c, zD_c, zY_c, zSw_n, zSw_c, zCall_c, zVirt_c, zP_0, zP_1, zP_2, zP_3, zP_4, zGet_n, zGet_z, zPut_n, zPut_z, zcw_n, zcw_0, zcw_1, zcw_2, List.length_cons, List.length_nil, List.take_succ_cons, List.take_zero, List.drop_succ_cons, List.drop_zero, List.reverse_cons, List.reverse_nil, List.nil_append, List.cons_append, List.append_nil, List.set_cons_zero, List.set_cons_succ, List.getD_cons_zero, List.getD_cons_succ, true_and, and_true, ne_eq, not_false_eq_true, not_true_eq_false, zif, Nat.reduceAdd, Nat.reduceLeDiff, Nat.reduceLT, Nat.reduceSub, Nat.reduceEqDiff, Nat.zero_le, Nat.lt_add_one, Nat.reduceMod, false_implies, true_implies, implies_true, forall_const, Int.reduceLE, Int.reduceLT, Int.reduceEq, Int.reduceNeg, ite10_0, ite10_1, zem, zem2, Classical.not_not, and_self, or_true, true_or, or_false, false_or, zT_39, zN_39, zGf_192_39, zGf_193_39, zGf_194_39, zPf_194_39, zGf_195_39, zGf_196_39, zGf_197_39, zGf_198_39, zPf_198_39, zGf_199_39, zPf_199_39, zGf_200_39, zPf_200_39, zGf_201_39, zGf_202_39, zPf_202_39, zGf_203_39, zGf_204_39, zPf_204_39, zGf_205_39, zGf_206_39, zGf_207_39, zGf_208_39, zGf_209_39, zGf_210_39, zGf_211_39, zGf_212_39, zGf_213_39, zGf_214_39, zPf_214_39, zGf_215_39, zGf_216_39, zAl_40, zAs_40, zAl_45, zAs_45]
          refine hk w ?_ (by rw [zfr_c f (by decide)]) (by rw [zfr_c f (by decide)]) _
          rw [hJ]
          exact ⟨zfr_tr hj.1 (zfr_up f (by decide)), fun e => absurd e (by decide), fun _ => ⟨fun y hy => g y hy, o⟩⟩
      refine hl 0 u (by omega) (by omega) ⟨zfr_rf, fun y hy => ?_, hj2.2⟩
      unfold dV
      rw [if_neg (by omega), if_neg (by omega)]
      exact hj2.1 y hy
  have tJ : ∀ D w, J D w → tU T L n w := by
    intro D w hj
    rw [hJ] at hj
    obtain ⟨f, g0, g1⟩ := hj
    refine ⟨hL, by rw [f _ _ (by decide)]; exact h.2.1, ?_, fun q a c => by rw [zfr_c f (by decide)]; exact h.2.2.2 q a c⟩
    rcases hb with e | ⟨e, _⟩
    · rw [g0 e]; exact h.2.2.1
    · rw [(g1 e).2 1 (by omega)]; exact h.2.2.1
  have b0 : ∀ q D, 0 ≤ q → (-100 - q, D) = RR → b = 0 := by
    intro q D q0 he
    rcases hb with e | ⟨_, e⟩
    · exact e
    · rw [← he] at e
      have : 0 ≤ -100 - q := e
      omega
  -- a clause behind a fault, or a fault in it
  have badC : ∀ w m q D i j, 0 ≤ m → m ≤ 100 → (∃ D', J D' w) → w 39 8 = q → 0 ≤ q → (-100 - q, D) = RR → zR (d + 5) 133 Q 80 [(2, 39), (0, b), (0, m), (0, i), (0, j), (0, 0)] [] w := by
    intro w m q D i j m0 m1 hj h8 q0 he
    have e0 := b0 q D q0 he
    obtain ⟨D', hj⟩ := hj
    have hj2 : J D w := by
      rw [hJ] at hj ⊢
      exact ⟨hj.1, hj.2.1, fun e => by omega⟩
    subst e0
    rw [u133_80, k133_80]
    simp only [u133_136, k133_136, zO_nop, zO_goto, zO_iload_n0, zO_iload_n1, zO_iload_n2, zO_iload_n3, zO_iload, zO_lload_n0, zO_lload_n1, zO_lload_n2, zO_lload_n3, zO_lload, zO_aload_n0, zO_aload_n1, zO_aload_n2, zO_aload_n3, zO_aload, zO_istore_n0, zO_istore_n1, zO_istore_n2, zO_istore_n3, zO_istore, zO_astore_n0, zO_astore_n1, zO_astore_n2, zO_astore_n3, zO_astore, zO_lstore, zO_iinc, zO_iconst, zO_bipush, zO_sipush, zO_lconst0, zO_lconst1, zO_ldc, zO_ldc2_w, zO_iadd, zO_isub, zO_imul, zO_idiv, zO_irem, zO_ineg, zO_iand, zO_ior, zO_ixor, zO_ishl, zO_ishr, zO_iushr, zO_ladd, zO_lmul, zO_land, zO_lor, zO_lshl, zO_lcmp, zO_i2l, zO_l2i, zO_i2b, zO_dup0, zO_dup2, zO_dup200, zO_dup202, zO_dup220, zO_dup222, zO_ifCond_eq, zO_ifCond_ne, zO_ifCond_lt, zO_ifCond_ge, zO_ifCond_gt, zO_ifCond_le, zO_if_icmp_eq, zO_if_icmp_ne, zO_if_icmp_lt, zO_if_icmp_ge, zO_if_icmp_gt, zO_if_icmp_le, zO_getfield, zO_putfield, zO_iaload, zO_baload, zO_laload, zO_iastore, zO_bastore, zO_lastore, zO_arraylength, zO_invokevirtual, zO_lreturn, zO_areturn, zO_return_, zO_tableswitch, zO_lookupswitch, zO_is0, zO_is1, zO_is2, zO_is3, zO_is4, zO_is9, zO_is10, zO_is11, zO_is12, zO_ir1, zO_ir4, zB_c, zLd_0, zLd_s, zSt_c, zSt2_c, zU_c, zD_c, zY_c, zSw_n, zSw_c, zCall_c, zVirt_c, zP_0, zP_1, zP_2, zP_3, zP_4, zGet_n, zGet_z, zPut_n, zPut_z, zcw_n, zcw_0, zcw_1, zcw_2, List.length_cons, List.length_nil, List.take_succ_cons, List.take_zero, List.drop_succ_cons, List.drop_zero, List.reverse_cons, List.reverse_nil, List.nil_append, List.cons_append, List.append_nil, List.set_cons_zero, List.set_cons_succ, List.getD_cons_zero, List.getD_cons_succ, true_and, and_true, ne_eq, not_false_eq_true, not_true_eq_false, zif, Nat.reduceAdd, Nat.reduceLeDiff, Nat.reduceLT, Nat.reduceSub, Nat.reduceEqDiff, Nat.zero_le, Nat.lt_add_one, Nat.reduceMod, false_implies, true_implies, implies_true, forall_const, Int.reduceLE, Int.reduceLT, Int.reduceEq, Int.reduceNeg, ite10_0, ite10_1, zem, zem2, Classical.not_not, and_self, or_true, true_or, or_false, false_or]
    rw [zw_e (z := m + 1) (by omega) (by omega)]
    exact bad w (m + 1) q D _ _ _ hj2 h8 q0 he
  have hl : ∀ (k : Nat) (m p : Int) (D : Int → Int) (w : zM) (x y z : zV), 0 ≤ m → m + k ≤ 60 → J D w → w 39 8 = -1 → w 39 7 = p → 0 ≤ p → p ≤ L → L < p + 2 * k → pR T L n k p D (m + 1) = RR → zR (d + 5) 133 Q 44 [(2, 39), (0, b), (0, m), x, y, z] [] w := by
    intro k
    induction k with
    | zero => intro m p D w x y z m0 mk hj h8 hp p0 pL hh he; omega
    | succ k ih =>
      intro m p D w x y z m0 mk hj h8 hp p0 pL hh he
      have bd := pC_bd hn hT p0 pL
      unfold pR at he
      refine L_clause (d := d) hn (tJ D w hj) hp h8 p0 pL (fun u i j f cq => ?_) x y z
      unfold cQ at cq
      generalize pC T L n p = R at he bd cq
      obtain ⟨ok, q, i', j', S⟩ := R
      simp only at he bd cq
      have hju : J D u := by
        rw [hJ] at hj ⊢
        have c40 : u 40 = w 40 := zfr_c f (by decide)
        exact ⟨zfr_tr hj.1 (zfr_up f (by decide)), by rw [c40]; exact hj.2.1, by rw [c40]; exact hj.2.2⟩
      cases ok with
      | false =>
        simp only [Bool.false_eq_true, if_false] at he
        exact badC u m q D i j m0 (by omega) ⟨D, hju⟩ (cq.2 rfl) (by omega) he
      | true =>
        simp only [if_true] at he
        obtain ⟨a1, a2, rfl, rfl, a5⟩ := cq.1 rfl
        obtain ⟨b1, b2, b3, b4⟩ := bd.2 rfl
        refine told D S i j m u hju b2 b3 a5 (fun v hv e8 e7 z => ?_)
        have v8 : v 39 8 = -1 := by rw [e8]; exact a1
        have v7 : v 39 7 = q := by rw [e7]; exact a2
        simp only [u133_136, k133_136, zO_nop, zO_goto, zO_iload_n0, zO_iload_n1, zO_iload_n2, zO_iload_n3, zO_iload, zO_lload_n0, zO_lload_n1, zO_lload_n2, zO_lload_n3, zO_lload, zO_aload_n0, zO_aload_n1, zO_aload_n2, zO_aload_n3, zO_aload, zO_istore_n0, zO_istore_n1, zO_istore_n2, zO_istore_n3, zO_istore, zO_astore_n0, zO_astore_n1, zO_astore_n2, zO_astore_n3, zO_astore, zO_lstore, zO_iinc, zO_iconst, zO_bipush, zO_sipush, zO_lconst0, zO_lconst1, zO_ldc, zO_ldc2_w, zO_iadd, zO_isub, zO_imul, zO_idiv, zO_irem, zO_ineg, zO_iand, zO_ior, zO_ixor, zO_ishl, zO_ishr, zO_iushr, zO_ladd, zO_lmul, zO_land, zO_lor, zO_lshl, zO_lcmp, zO_i2l, zO_l2i, zO_i2b, zO_dup0, zO_dup2, zO_dup200, zO_dup202, zO_dup220, zO_dup222, zO_ifCond_eq, zO_ifCond_ne, zO_ifCond_lt, zO_ifCond_ge, zO_ifCond_gt, zO_ifCond_le, zO_if_icmp_eq, zO_if_icmp_ne, zO_if_icmp_lt, zO_if_icmp_ge, zO_if_icmp_gt, zO_if_icmp_le, zO_getfield, zO_putfield, zO_iaload, zO_baload, zO_laload, zO_iastore, zO_bastore, zO_lastore, zO_arraylength, zO_invokevirtual, zO_lreturn, zO_areturn, zO_return_, zO_tableswitch, zO_lookupswitch, zO_is0, zO_is1, zO_is2, zO_is3, zO_is4, zO_is9, zO_is10, zO_is11, zO_is12, zO_ir1, zO_ir4, zB_c, zLd_0, zLd_s, zSt_c, zSt2_c, zU_c, zD_c, zY_c, zSw_n, zSw_c, zCall_c, zVirt_c, zP_0, zP_1, zP_2, zP_3, zP_4, zGet_n, zGet_z, zPut_n, zPut_z, zcw_n, zcw_0, zcw_1, zcw_2, List.length_cons, List.length_nil, List.take_succ_cons, List.take_zero, List.drop_succ_cons, List.drop_zero, List.reverse_cons, List.reverse_nil, List.nil_append, List.cons_append, List.append_nil, List.set_cons_zero, List.set_cons_succ, List.getD_cons_zero, List.getD_cons_succ, true_and, and_true, ne_eq, not_false_eq_true, not_true_eq_false, zif, Nat.reduceAdd, Nat.reduceLeDiff, Nat.reduceLT, Nat.reduceSub, Nat.reduceEqDiff, Nat.zero_le, Nat.lt_add_one, Nat.reduceMod, false_implies, true_implies, implies_true, forall_const, Int.reduceLE, Int.reduceLT, Int.reduceEq, Int.reduceNeg, ite10_0, ite10_1, zem, zem2, Classical.not_not, and_self, or_true, true_or, or_false, false_or]
        rw [zw_e (z := m + 1) (by omega) (by omega)]
        by_cases c : L ≤ q
        · rw [if_pos c] at he
          exact good v (m + 1) _ _ _ _ hv v8 (by omega) he (by omega)
        · rw [if_neg c] at he
          have tv := tJ _ v hv
          have l6 : v 39 6 = L := tv.2.1
          rw [u133_12]
          simp only [k133_12, u133_34, k133_34, u133_142, k133_142, zO_nop, zO_goto, zO_iload_n0, zO_iload_n1, zO_iload_n2, zO_iload_n3, zO_iload, zO_lload_n0, zO_lload_n1, zO_lload_n2, zO_lload_n3, zO_lload, zO_aload_n0, zO_aload_n1, zO_aload_n2, zO_aload_n3, zO_aload, zO_istore_n0, zO_istore_n1, zO_istore_n2, zO_istore_n3, zO_istore, zO_astore_n0, zO_astore_n1, zO_astore_n2, zO_astore_n3, zO_astore, zO_lstore, zO_iinc, zO_iconst, zO_bipush, zO_sipush, zO_lconst0, zO_lconst1, zO_ldc, zO_ldc2_w, zO_iadd, zO_isub, zO_imul, zO_idiv, zO_irem, zO_ineg, zO_iand, zO_ior, zO_ixor, zO_ishl, zO_ishr, zO_iushr, zO_ladd, zO_lmul, zO_land, zO_lor, zO_lshl, zO_lcmp, zO_i2l, zO_l2i, zO_i2b, zO_dup0, zO_dup2, zO_dup200, zO_dup202, zO_dup220, zO_dup222, zO_ifCond_eq, zO_ifCond_ne, zO_ifCond_lt, zO_ifCond_ge, zO_ifCond_gt, zO_ifCond_le, zO_if_icmp_eq, zO_if_icmp_ne, zO_if_icmp_lt, zO_if_icmp_ge, zO_if_icmp_gt, zO_if_icmp_le, zO_getfield, zO_putfield, zO_iaload, zO_baload, zO_laload, zO_iastore, zO_bastore, zO_lastore, zO_arraylength, zO_invokevirtual, zO_lreturn, zO_areturn, zO_return_, zO_tableswitch, zO_lookupswitch, zO_is0, zO_is1, zO_is2, zO_is3, zO_is4, zO_is9, zO_is10, zO_is11, zO_is12, zO_ir1, zO_ir4, zB_c, zLd_0, zLd_s, zSt_c, zSt2_c, zU_c, zD_c, zY_c, zSw_n, zSw_c, zCall_c, zVirt_c, zP_0, zP_1, zP_2, zP_3, zP_4, zGet_n, zGet_z, zPut_n, zPut_z, zcw_n, zcw_0, zcw_1, zcw_2, List.length_cons, List.length_nil, List.take_succ_cons, List.take_zero, List.drop_succ_cons, List.drop_zero, List.reverse_cons, List.reverse_nil, List.nil_append, List.cons_append, List.append_nil, List.set_cons_zero, List.set_cons_succ, List.getD_cons_zero, List.getD_cons_succ, true_and, and_true, ne_eq, not_false_eq_true, not_true_eq_false, zif, Nat.reduceAdd, Nat.reduceLeDiff, Nat.reduceLT, Nat.reduceSub, Nat.reduceEqDiff, Nat.zero_le, Nat.lt_add_one, Nat.reduceMod, false_implies, true_implies, implies_true, forall_const, Int.reduceLE, Int.reduceLT, Int.reduceEq, Int.reduceNeg, ite10_0, ite10_1, zem, zem2, Classical.not_not, and_self, or_true, true_or, or_false, false_or, zT_39, zN_39, zGf_192_39, zGf_193_39, zGf_194_39, zPf_194_39, zGf_195_39, zGf_196_39, zGf_197_39, zGf_198_39, zPf_198_39, zGf_199_39, zPf_199_39, zGf_200_39, zPf_200_39, zGf_201_39, zGf_202_39, zPf_202_39, zGf_203_39, zGf_204_39, zPf_204_39, zGf_205_39, zGf_206_39, zGf_207_39, zGf_208_39, zGf_209_39, zGf_210_39, zGf_211_39, zGf_212_39, zGf_213_39, zGf_214_39, zPf_214_39, zGf_215_39, zGf_216_39, v8, v7, l6]
          have go : zC (d + 5) 130 [(2, 39), (0, 59)] v (fun _ w2 => zR (d + 5) 133 Q 44 [(2, 39), (0, b), (0, m + 1), (0, i), (0, j), z] [] w2) := by
            rw [L_sign (d := d + 2) (by omega) tv v7 v8 (by omega) (by omega)]
            refine ⟨fun e => ?_, fun e => ?_⟩
            · rw [if_pos e] at he
              have hq := (tB_bd hT (p := q) (by omega)).2 (by omega)
              refine ih (m + 1) (q + 1) _ _ _ _ _ (by omega) (by omega) ?_ (by rw [zu_ne (by omega)]; exact v8) (zu_at _ _ _ _) (by omega) (by omega) (by omega) he
              rw [hJ] at hv ⊢
              have c40 : zu v 39 7 (q + 1) 40 = v 40 := zu_c (by decide)
              exact ⟨zfr_u hv.1 (by decide), by rw [c40]; exact hv.2.1, by rw [c40]; exact hv.2.2⟩
            · rw [if_neg e] at he
              have c40 : zu v 39 8 q 40 = v 40 := zu_c (by decide)
              have hv2 : J (dW i j S D) (zu v 39 8 q) := by
                rw [hJ] at hv ⊢
                exact ⟨zfr_u hv.1 (by decide), by rw [c40]; exact hv.2.1, by rw [c40]; exact hv.2.2⟩
              simp only [u133_44, k133_44, zO_nop, zO_goto, zO_iload_n0, zO_iload_n1, zO_iload_n2, zO_iload_n3, zO_iload, zO_lload_n0, zO_lload_n1, zO_lload_n2, zO_lload_n3, zO_lload, zO_aload_n0, zO_aload_n1, zO_aload_n2, zO_aload_n3, zO_aload, zO_istore_n0, zO_istore_n1, zO_istore_n2, zO_istore_n3, zO_istore, zO_astore_n0, zO_astore_n1, zO_astore_n2, zO_astore_n3, zO_astore, zO_lstore, zO_iinc, zO_iconst, zO_bipush, zO_sipush, zO_lconst0, zO_lconst1, zO_ldc, zO_ldc2_w, zO_iadd, zO_isub, zO_imul, zO_idiv, zO_irem, zO_ineg, zO_iand, zO_ior, zO_ixor, zO_ishl, zO_ishr, zO_iushr, zO_ladd, zO_lmul, zO_land, zO_lor, zO_lshl, zO_lcmp, zO_i2l, zO_l2i, zO_i2b, zO_dup0, zO_dup2, zO_dup200, zO_dup202, zO_dup220, zO_dup222, zO_ifCond_eq, zO_ifCond_ne, zO_ifCond_lt, zO_ifCond_ge, zO_ifCond_gt, zO_ifCond_le, zO_if_icmp_eq, zO_if_icmp_ne, zO_if_icmp_lt, zO_if_icmp_ge, zO_if_icmp_gt, zO_if_icmp_le, zO_getfield, zO_putfield, zO_iaload, zO_baload, zO_laload, zO_iastore, zO_bastore, zO_lastore, zO_arraylength, zO_invokevirtual, zO_lreturn, zO_areturn, zO_return_, zO_tableswitch, zO_lookupswitch, zO_is0, zO_is1, zO_is2, zO_is3, zO_is4, zO_is9, zO_is10, zO_is11, zO_is12, zO_ir1, zO_ir4, zB_c, zLd_0, zLd_s, zSt_c, zSt2_c, zU_c, zD_c, zY_c, zSw_n, zSw_c, zCall_c, zVirt_c, zP_0, zP_1, zP_2, zP_3, zP_4, zGet_n, zGet_z, zPut_n, zPut_z, zcw_n, zcw_0, zcw_1, zcw_2, List.length_cons, List.length_nil, List.take_succ_cons, List.take_zero, List.drop_succ_cons, List.drop_zero, List.reverse_cons, List.reverse_nil, List.nil_append, List.cons_append, List.append_nil, List.set_cons_zero, List.set_cons_succ, List.getD_cons_zero, List.getD_cons_succ, true_and, and_true, ne_eq, not_false_eq_true, not_true_eq_false, zif, Nat.reduceAdd, Nat.reduceLeDiff, Nat.reduceLT, Nat.reduceSub, Nat.reduceEqDiff, Nat.zero_le, Nat.lt_add_one, Nat.reduceMod, false_implies, true_implies, implies_true, forall_const, Int.reduceLE, Int.reduceLT, Int.reduceEq, Int.reduceNeg, ite10_0, ite10_1, zem, zem2, Classical.not_not, and_self, or_true, true_or, or_false, false_or, zT_39, zN_39, zGf_192_39, zGf_193_39, zGf_194_39, zPf_194_39, zGf_195_39, zGf_196_39, zGf_197_39, zGf_198_39, zPf_198_39, zGf_199_39, zPf_199_39, zGf_200_39, zPf_200_39, zGf_201_39, zGf_202_39, zPf_202_39, zGf_203_39, zGf_204_39, zPf_204_39, zGf_205_39, zGf_206_39, zGf_207_39, zGf_208_39, zGf_209_39, zGf_210_39, zGf_211_39, zGf_212_39, zGf_213_39, zGf_214_39, zPf_214_39, zGf_215_39, zGf_216_39]
              rw [L_letterF (d := d + 2) (by rw [zu_at]; omega), L_signF (d := d + 2) (by rw [zu_at]; omega), L_letterF (d := d + 2) (by rw [zu_at]; omega), L_signF (d := d + 2) (by rw [zu_at]; omega)]
              refine zuse (L_sumF (d := d) (by rw [zu_at]; omega)) ?_
              rintro r u5 f5
              refine badC u5 (m + 1) q D 0 0 (by omega) (by omega) ⟨dW i j S D, ?_⟩ (by rw [f5 _ _ (by decide), zu_at]) (by omega) he
              rw [hJ] at hv2 ⊢
              have c45 : u5 40 = zu v 39 8 q 40 := zfr_c f5 (by decide)
              exact ⟨zfr_tr hv2.1 (zfr_up f5 (by decide)), by rw [c45]; exact hv2.2.1, by rw [c45]; exact hv2.2.2⟩
          exact ⟨fun e => absurd e (by omega), fun _ => ⟨fun _ => ⟨fun _ => go, fun e => absurd e (by omega)⟩, fun e => absurd e (by omega)⟩⟩
  simp only [e133, k133_0, zO_nop, zO_goto, zO_iload_n0, zO_iload_n1, zO_iload_n2, zO_iload_n3, zO_iload, zO_lload_n0, zO_lload_n1, zO_lload_n2, zO_lload_n3, zO_lload, zO_aload_n0, zO_aload_n1, zO_aload_n2, zO_aload_n3, zO_aload, zO_istore_n0, zO_istore_n1, zO_istore_n2, zO_istore_n3, zO_istore, zO_astore_n0, zO_astore_n1, zO_astore_n2, zO_astore_n3, zO_astore, zO_lstore, zO_iinc, zO_iconst, zO_bipush, zO_sipush, zO_lconst0, zO_lconst1, zO_ldc, zO_ldc2_w, zO_iadd, zO_isub, zO_imul, zO_idiv, zO_irem, zO_ineg, zO_iand, zO_ior, zO_ixor, zO_ishl, zO_ishr, zO_iushr, zO_ladd, zO_lmul, zO_land, zO_lor, zO_lshl, zO_lcmp, zO_i2l, zO_l2i, zO_i2b, zO_dup0, zO_dup2, zO_dup200, zO_dup202, zO_dup220, zO_dup222, zO_ifCond_eq, zO_ifCond_ne, zO_ifCond_lt, zO_ifCond_ge, zO_ifCond_gt, zO_ifCond_le, zO_if_icmp_eq, zO_if_icmp_ne, zO_if_icmp_lt, zO_if_icmp_ge, zO_if_icmp_gt, zO_if_icmp_le, zO_getfield, zO_putfield, zO_iaload, zO_baload, zO_laload, zO_iastore, zO_bastore, zO_lastore, zO_arraylength, zO_invokevirtual, zO_lreturn, zO_areturn, zO_return_, zO_tableswitch, zO_lookupswitch, zO_is0, zO_is1, zO_is2, zO_is3, zO_is4, zO_is9, zO_is10, zO_is11, zO_is12, zO_ir1, zO_ir4, zB_c, zLd_0, zLd_s, zSt_c, zSt2_c, zU_c, zD_c, zY_c, zSw_n, zSw_c, zCall_c, zVirt_c, zP_0, zP_1, zP_2, zP_3, zP_4, zGet_n, zGet_z, zPut_n, zPut_z, zcw_n, zcw_0, zcw_1, zcw_2, List.length_cons, List.length_nil, List.take_succ_cons, List.take_zero, List.drop_succ_cons, List.drop_zero, List.reverse_cons, List.reverse_nil, List.nil_append, List.cons_append, List.append_nil, List.set_cons_zero, List.set_cons_succ, List.getD_cons_zero, List.getD_cons_succ, true_and, and_true, ne_eq, not_false_eq_true, not_true_eq_false, zif, Nat.reduceAdd, Nat.reduceLeDiff, Nat.reduceLT, Nat.reduceSub, Nat.reduceEqDiff, Nat.zero_le, Nat.lt_add_one, Nat.reduceMod, false_implies, true_implies, implies_true, forall_const, Int.reduceLE, Int.reduceLT, Int.reduceEq, Int.reduceNeg, ite10_0, ite10_1, zem, zem2, Classical.not_not, and_self, or_true, true_or, or_false, false_or, zT_39, zN_39, zGf_192_39, zGf_193_39, zGf_194_39, zPf_194_39, zGf_195_39, zGf_196_39, zGf_197_39, zGf_198_39, zPf_198_39, zGf_199_39, zPf_199_39, zGf_200_39, zPf_200_39, zGf_201_39, zGf_202_39, zPf_202_39, zGf_203_39, zGf_204_39, zPf_204_39, zGf_205_39, zGf_206_39, zGf_207_39, zGf_208_39, zGf_209_39, zGf_210_39, zGf_211_39, zGf_212_39, zGf_213_39, zGf_214_39, zPf_214_39, zGf_215_39, zGf_216_39]
  generalize hw : zu (zu μ 39 7 0) 39 8 (-1) = w
  have f : zfr [(39, 7), (39, 8)] μ w := by rw [← hw]; exact zfr_u (zfr_u zfr_rf (by decide)) (by decide)
  have w8 : w 39 8 = -1 := by rw [← hw, zu_at]
  have w7 : w 39 7 = 0 := by rw [← hw, zu_ne (by omega), zu_at]
  have hj : J (fun y => μ 40 (3 + y)) w := by
    rw [hJ]
    have c40 : w 40 = μ 40 := zfr_c f (by decide)
    exact ⟨zfr_up f (by decide), fun _ => c40, fun _ => ⟨fun y _ => by rw [c40], fun y _ => by rw [c40]⟩⟩
  have go := fun x y z => hl 60 0 0 _ w x y z (by omega) (by omega) hj w8 w7 (by omega) hL.1 (by omega) hRR
  rw [u133_12]
  simp only [k133_12, u133_34, k133_34, zO_nop, zO_goto, zO_iload_n0, zO_iload_n1, zO_iload_n2, zO_iload_n3, zO_iload, zO_lload_n0, zO_lload_n1, zO_lload_n2, zO_lload_n3, zO_lload, zO_aload_n0, zO_aload_n1, zO_aload_n2, zO_aload_n3, zO_aload, zO_istore_n0, zO_istore_n1, zO_istore_n2, zO_istore_n3, zO_istore, zO_astore_n0, zO_astore_n1, zO_astore_n2, zO_astore_n3, zO_astore, zO_lstore, zO_iinc, zO_iconst, zO_bipush, zO_sipush, zO_lconst0, zO_lconst1, zO_ldc, zO_ldc2_w, zO_iadd, zO_isub, zO_imul, zO_idiv, zO_irem, zO_ineg, zO_iand, zO_ior, zO_ixor, zO_ishl, zO_ishr, zO_iushr, zO_ladd, zO_lmul, zO_land, zO_lor, zO_lshl, zO_lcmp, zO_i2l, zO_l2i, zO_i2b, zO_dup0, zO_dup2, zO_dup200, zO_dup202, zO_dup220, zO_dup222, zO_ifCond_eq, zO_ifCond_ne, zO_ifCond_lt, zO_ifCond_ge, zO_ifCond_gt, zO_ifCond_le, zO_if_icmp_eq, zO_if_icmp_ne, zO_if_icmp_lt, zO_if_icmp_ge, zO_if_icmp_gt, zO_if_icmp_le, zO_getfield, zO_putfield, zO_iaload, zO_baload, zO_laload, zO_iastore, zO_bastore, zO_lastore, zO_arraylength, zO_invokevirtual, zO_lreturn, zO_areturn, zO_return_, zO_tableswitch, zO_lookupswitch, zO_is0, zO_is1, zO_is2, zO_is3, zO_is4, zO_is9, zO_is10, zO_is11, zO_is12, zO_ir1, zO_ir4, zB_c, zLd_0, zLd_s, zSt_c, zSt2_c, zU_c, zD_c, zY_c, zSw_n, zSw_c, zCall_c, zVirt_c, zP_0, zP_1, zP_2, zP_3, zP_4, zGet_n, zGet_z, zPut_n, zPut_z, zcw_n, zcw_0, zcw_1, zcw_2, List.length_cons, List.length_nil, List.take_succ_cons, List.take_zero, List.drop_succ_cons, List.drop_zero, List.reverse_cons, List.reverse_nil, List.nil_append, List.cons_append, List.append_nil, List.set_cons_zero, List.set_cons_succ, List.getD_cons_zero, List.getD_cons_succ, true_and, and_true, ne_eq, not_false_eq_true, not_true_eq_false, zif, Nat.reduceAdd, Nat.reduceLeDiff, Nat.reduceLT, Nat.reduceSub, Nat.reduceEqDiff, Nat.zero_le, Nat.lt_add_one, Nat.reduceMod, false_implies, true_implies, implies_true, forall_const, Int.reduceLE, Int.reduceLT, Int.reduceEq, Int.reduceNeg, ite10_0, ite10_1, zem, zem2, Classical.not_not, and_self, or_true, true_or, or_false, false_or, zT_39, zN_39, zGf_192_39, zGf_193_39, zGf_194_39, zPf_194_39, zGf_195_39, zGf_196_39, zGf_197_39, zGf_198_39, zPf_198_39, zGf_199_39, zPf_199_39, zGf_200_39, zPf_200_39, zGf_201_39, zGf_202_39, zPf_202_39, zGf_203_39, zGf_204_39, zPf_204_39, zGf_205_39, zGf_206_39, zGf_207_39, zGf_208_39, zGf_209_39, zGf_210_39, zGf_211_39, zGf_212_39, zGf_213_39, zGf_214_39, zPf_214_39, zGf_215_39, zGf_216_39, w8]
  exact go _ _ _
