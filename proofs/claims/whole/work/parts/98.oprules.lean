/-! rules -/
theorem pR_cg {T : Int → Int} {L n : Int} (hn : 1 ≤ n ∧ n ≤ 5) (h : tP T L) : ∀ (k : Nat) (p : Int) (D D' : Int → Int) (c : Int), 0 ≤ p → p ≤ L → (∀ y, zrg 125 y → D y = D' y) → (pR T L n k p D c).1 = (pR T L n k p D' c).1 ∧ ∀ y, zrg 125 y → (pR T L n k p D c).2 y = (pR T L n k p D' c).2 y := by
  intro k
  induction k with
  | zero => intro p D D' c p0 pL e; exact ⟨rfl, e⟩
  | succ k ih =>
    intro p D D' c p0 pL e
    have b := pC_bd hn h p0 pL
    unfold pR
    generalize pC T L n p = R at b ⊢
    obtain ⟨ok, q, i, j, S⟩ := R
    simp only at b ⊢
    cases ok with
    | false =>
      simp only [Bool.false_eq_true, if_false]
      exact ⟨True.intro, e⟩
    | true =>
      simp only [if_true]
      have e2 : ∀ y, zrg 125 y → dW i j S D y = dW i j S D' y := fun y hy => by unfold dW; rw [e y hy]
      by_cases q1 : L ≤ q
      · rw [if_pos q1, if_pos q1]
        exact ⟨rfl, e2⟩
      · rw [if_neg q1, if_neg q1]
        by_cases q2 : tB T L q = 59
        · rw [if_pos q2, if_pos q2]
          exact ih (q + 1) _ _ (c + 1) (by omega) (by omega) e2
        · rw [if_neg q2, if_neg q2]
          exact ⟨rfl, e⟩
theorem pR_bd {T : Int → Int} {L n : Int} (hn : 1 ≤ n ∧ n ≤ 5) (h : tP T L) : ∀ (k : Nat) (p : Int) (D : Int → Int) (c : Int), 0 ≤ p → p ≤ L → 1 ≤ c → c + k ≤ 100 → (∀ y, zrg 125 y → 0 ≤ D y ∧ D y ≤ 9) → ((1 ≤ (pR T L n k p D c).1 ∧ (pR T L n k p D c).1 ≤ 200) ∨ (-200 ≤ (pR T L n k p D c).1 ∧ (pR T L n k p D c).1 ≤ -100)) ∧ ∀ y, zrg 125 y → 0 ≤ (pR T L n k p D c).2 y ∧ (pR T L n k p D c).2 y ≤ 9 := by
  have hL := h.1
  intro k
  induction k with
  | zero => intro p D c p0 pL c1 ck e; exact ⟨by show (1 ≤ -100 - p ∧ -100 - p ≤ 200) ∨ (-200 ≤ -100 - p ∧ -100 - p ≤ -100); omega, e⟩
  | succ k ih =>
    intro p D c p0 pL c1 ck e
    have b := pC_bd hn h p0 pL
    unfold pR
    generalize pC T L n p = R at b ⊢
    obtain ⟨ok, q, i, j, S⟩ := R
    simp only at b ⊢
    cases ok with
    | false =>
      simp only [Bool.false_eq_true, if_false]
      exact ⟨by omega, e⟩
    | true =>
      simp only [if_true]
      have e2 : ∀ y, zrg 125 y → 0 ≤ dW i j S D y ∧ dW i j S D y ≤ 9 := fun y hy => by
        have := (b.2 rfl).2.2.2
        unfold dW
        by_cases q1 : 25 * j + 5 * i ≤ y ∧ y < 25 * j + 5 * i + 5
        · rw [if_pos q1]; exact this _ ⟨by omega, by omega⟩
        · rw [if_neg q1]
          by_cases q2 : 25 * i + 5 * j ≤ y ∧ y < 25 * i + 5 * j + 5
          · rw [if_pos q2]; exact this _ ⟨by omega, by omega⟩
          · rw [if_neg q2]; exact e y hy
      by_cases q1 : L ≤ q
      · rw [if_pos q1]
        exact ⟨by show (1 ≤ c ∧ c ≤ 200) ∨ (-200 ≤ c ∧ c ≤ -100); omega, e2⟩
      · rw [if_neg q1]
        by_cases q2 : tB T L q = 59
        · rw [if_pos q2]
          exact ih (q + 1) _ (c + 1) (by omega) (by omega) (by omega) (by omega) e2
        · rw [if_neg q2]
          exact ⟨by show (1 ≤ -100 - q ∧ -100 - q ≤ 200) ∨ (-200 ≤ -100 - q ∧ -100 - q ≤ -100); omega, e⟩
theorem pR_1 {T : Int → Int} {L n : Int} (D D' : Int → Int) : ∀ (k : Nat) (p c : Int), (pR T L n k p D c).1 = (pR T L n k p D' c).1 := by
  intro k
  induction k generalizing D D' with
  | zero => intro p c; rfl
  | succ k ih =>
    intro p c
    unfold pR
    generalize pC T L n p = R
    obtain ⟨ok, q, i, j, S⟩ := R
    cases ok with
    | false => simp only [Bool.false_eq_true, if_false]
    | true =>
      simp only [if_true]
      by_cases q1 : L ≤ q
      · rw [if_pos q1, if_pos q1]
      · rw [if_neg q1, if_neg q1]
        by_cases q2 : tB T L q = 59
        · rw [if_pos q2, if_pos q2]
          exact ih _ _ (q + 1) (c + 1)
        · rw [if_neg q2, if_neg q2]
theorem L_rules {T : Int → Int} {L n : Int} {v : zM} (hn : 1 ≤ n ∧ n ≤ 5) (h : tU T L n v) : zC 40 134 [(2, 39)] v (fun r w => zfr ((39, 6) :: (40, -1) :: tF) v w ∧ w 39 6 = 0 ∧ r = (pR T L n 60 0 (fun y => v 40 (3 + y)) 1).1 ∧ (0 ≤ (pR T L n 60 0 (fun y => v 40 (3 + y)) 1).1 → ∀ y, zrg 125 y → w 40 (3 + y) = (pR T L n 60 0 (fun y => v 40 (3 + y)) 1).2 y) ∧ (¬ 0 ≤ (pR T L n 60 0 (fun y => v 40 (3 + y)) 1).1 → w 40 = v 40) ∧ ∀ y, (y < 3 ∨ 128 ≤ y) → w 40 y = v 40 y) := by
  obtain ⟨RR, hRR⟩ : ∃ RR, RR = pR T L n 60 0 (fun y => v 40 (3 + y)) 1 := ⟨_, rfl⟩
  rw [← hRR]
  generalize hQ : (fun (r : Int) (w : zM) => zfr ((39, 6) :: (40, -1) :: tF) v w ∧ w 39 6 = 0 ∧ r = RR.1 ∧ (0 ≤ RR.1 → ∀ y, zrg 125 y → w 40 (3 + y) = RR.2 y) ∧ (¬ 0 ≤ RR.1 → w 40 = v 40) ∧ ∀ y, (y < 3 ∨ 128 ≤ y) → w 40 y = v 40 y) = Q
  have bR : ((1 ≤ RR.1 ∧ RR.1 ≤ 200) ∨ (-200 ≤ RR.1 ∧ RR.1 ≤ -100)) := by
    rw [hRR]
    have b := (pR_bd hn (tU_P h) 60 0 (fun _ => 0) 1 (by omega) h.1.1 (by omega) (by omega) (fun y _ => by show 0 ≤ (0 : Int) ∧ (0 : Int) ≤ 9; omega)).1
    rw [← pR_1 (fun y => v 40 (3 + y)) (fun _ => 0)] at b
    exact b
  simp only [e134, k134_0, zO_nop, zO_goto, zO_iload_n0, zO_iload_n1, zO_iload_n2, zO_iload_n3, zO_iload, zO_lload_n0, zO_lload_n1, zO_lload_n2, zO_lload_n3, zO_lload, zO_aload_n0, zO_aload_n1, zO_aload_n2, zO_aload_n3, zO_aload, zO_istore_n0, zO_istore_n1, zO_istore_n2, zO_istore_n3, zO_istore, zO_astore_n0, zO_astore_n1, zO_astore_n2, zO_astore_n3, zO_astore, zO_lstore, zO_iinc, zO_iconst, zO_bipush, zO_sipush, zO_lconst0, zO_lconst1, zO_ldc, zO_ldc2_w, zO_iadd, zO_isub, zO_imul, zO_idiv, zO_irem, zO_ineg, zO_iand, zO_ior, zO_ixor, zO_ishl, zO_ishr, zO_iushr, zO_ladd, zO_lmul, zO_land, zO_lor, zO_lshl, zO_lcmp, zO_i2l, zO_l2i, zO_i2b, zO_dup0, zO_dup2, zO_dup200, zO_dup202, zO_dup220, zO_dup222, zO_ifCond_eq, zO_ifCond_ne, zO_ifCond_lt, zO_ifCond_ge, zO_ifCond_gt, zO_ifCond_le, zO_if_icmp_eq, zO_if_icmp_ne, zO_if_icmp_lt, zO_if_icmp_ge, zO_if_icmp_gt, zO_if_icmp_le, zO_getfield, zO_putfield, zO_iaload, zO_baload, zO_laload, zO_iastore, zO_bastore, zO_lastore, zO_arraylength, zO_invokevirtual, zO_lreturn, zO_areturn, zO_return_, zO_tableswitch, zO_lookupswitch, zO_is0, zO_is1, zO_is2, zO_is3, zO_is4, zO_is9, zO_is10, zO_is11, zO_is12, zO_ir1, zO_ir4, zB_c, zLd_0, zLd_s, zSt_c, zSt2_c, zU_c, zD_c, zY_c, zSw_n, zSw_c, zCall_c, zVirt_c, zP_0, zP_1, zP_2, zP_3, zP_4, zGet_n, zGet_z, zPut_n, zPut_z, zcw_n, zcw_0, zcw_1, zcw_2, List.length_cons, List.length_nil, List.take_succ_cons, List.take_zero, List.drop_succ_cons, List.drop_zero, List.reverse_cons, List.reverse_nil, List.nil_append, List.cons_append, List.append_nil, List.set_cons_zero, List.set_cons_succ, List.getD_cons_zero, List.getD_cons_succ, true_and, and_true, ne_eq, not_false_eq_true, not_true_eq_false, zif, Nat.reduceAdd, Nat.reduceLeDiff, Nat.reduceLT, Nat.reduceSub, Nat.reduceEqDiff, Nat.zero_le, Nat.lt_add_one, Nat.reduceMod, false_implies, true_implies, implies_true, forall_const, Int.reduceLE, Int.reduceLT, Int.reduceEq, Int.reduceNeg, ite10_0, ite10_1, zem, zem2, Classical.not_not, and_self, or_true, true_or, or_false, false_or, zT_39, zN_39, zGf_192_39, zGf_193_39, zGf_194_39, zPf_194_39, zGf_195_39, zGf_196_39, zGf_197_39, zGf_198_39, zPf_198_39, zGf_199_39, zPf_199_39, zGf_200_39, zPf_200_39, zGf_201_39, zGf_202_39, zPf_202_39, zGf_203_39, zGf_204_39, zPf_204_39, zGf_205_39, zGf_206_39, zGf_207_39, zGf_208_39, zGf_209_39, zGf_210_39, zGf_211_39, zGf_212_39, zGf_213_39, zGf_214_39, zPf_214_39, zGf_215_39, zGf_216_39]
  refine zuse (L_clauses (d := 33) hn h (Or.inl rfl)) ?_
  rw [← hRR]
  rintro r u ⟨f, g1, g2, g3, -⟩
  have u40 : u 40 = v 40 := g3 rfl
  have fin : ∀ r w, zfr ((40, -1) :: cF) v w → (0 ≤ RR.1 → r = RR.1 ∧ w 39 8 = -1) → (¬ 0 ≤ RR.1 → w 39 8 = -100 - RR.1) → (0 ≤ RR.1 → ∀ y, zrg 125 y → w 40 (3 + y) = RR.2 y) → (¬ 0 ≤ RR.1 → w 40 = v 40) → (∀ y, (y < 3 ∨ 128 ≤ y) → w 40 y = v 40 y) → zR 39 134 Q 19 [(2, 39), (0, r)] [] w := by
    intro r w fw h1 h2 h3 h4 h5
    have F : zfr ((39, 6) :: (40, -1) :: tF) v (zu w 39 6 0) := zfr_u (zfr_up fw (by decide)) (by decide)
    have e8 : zu w 39 6 0 39 8 = w 39 8 := zu_ne (by omega)
    have e40 : zu w 39 6 0 40 = w 40 := zu_c (by decide)
    have last : Q RR.1 (zu w 39 6 0) := by
      rw [← hQ]
      refine ⟨F, zu_at _ _ _ _, rfl, ?_, ?_, ?_⟩
      · rw [e40]; exact h3
      · rw [e40]; exact h4
      · rw [e40]; exact h5
    simp only [u134_19, k134_19, u134_35, k134_35, u134_42, k134_42, zO_nop, zO_goto, zO_iload_n0, zO_iload_n1, zO_iload_n2, zO_iload_n3, zO_iload, zO_lload_n0, zO_lload_n1, zO_lload_n2, zO_lload_n3, zO_lload, zO_aload_n0, zO_aload_n1, zO_aload_n2, zO_aload_n3, zO_aload, zO_istore_n0, zO_istore_n1, zO_istore_n2, zO_istore_n3, zO_istore, zO_astore_n0, zO_astore_n1, zO_astore_n2, zO_astore_n3, zO_astore, zO_lstore, zO_iinc, zO_iconst, zO_bipush, zO_sipush, zO_lconst0, zO_lconst1, zO_ldc, zO_ldc2_w, zO_iadd, zO_isub, zO_imul, zO_idiv, zO_irem, zO_ineg, zO_iand, zO_ior, zO_ixor, zO_ishl, zO_ishr, zO_iushr, zO_ladd, zO_lmul, zO_land, zO_lor, zO_lshl, zO_lcmp, zO_i2l, zO_l2i, zO_i2b, zO_dup0, zO_dup2, zO_dup200, zO_dup202, zO_dup220, zO_dup222, zO_ifCond_eq, zO_ifCond_ne, zO_ifCond_lt, zO_ifCond_ge, zO_ifCond_gt, zO_ifCond_le, zO_if_icmp_eq, zO_if_icmp_ne, zO_if_icmp_lt, zO_if_icmp_ge, zO_if_icmp_gt, zO_if_icmp_le, zO_getfield, zO_putfield, zO_iaload, zO_baload, zO_laload, zO_iastore, zO_bastore, zO_lastore, zO_arraylength, zO_invokevirtual, zO_lreturn, zO_areturn, zO_return_, zO_tableswitch, zO_lookupswitch, zO_is0, zO_is1, zO_is2, zO_is3, zO_is4, zO_is9, zO_is10, zO_is11, zO_is12, zO_ir1, zO_ir4, zB_c, zLd_0, zLd_s, zSt_c, zSt2_c, zU_c, zD_c, zY_c, zSw_n, zSw_c, zCall_c, zVirt_c, zP_0, zP_1, zP_2, zP_3, zP_4, zGet_n, zGet_z, zPut_n, zPut_z, zcw_n, zcw_0, zcw_1, zcw_2, List.length_cons, List.length_nil, List.take_succ_cons, List.take_zero, List.drop_succ_cons, List.drop_zero, List.reverse_cons, List.reverse_nil, List.nil_append, List.cons_append, List.append_nil, List.set_cons_zero, List.set_cons_succ, List.getD_cons_zero, List.getD_cons_succ, true_and, and_true, ne_eq, not_false_eq_true, not_true_eq_false, zif, Nat.reduceAdd, Nat.reduceLeDiff, Nat.reduceLT, Nat.reduceSub, Nat.reduceEqDiff, Nat.zero_le, Nat.lt_add_one, Nat.reduceMod, false_implies, true_implies, implies_true, forall_const, Int.reduceLE, Int.reduceLT, Int.reduceEq, Int.reduceNeg, ite10_0, ite10_1, zem, zem2, Classical.not_not, and_self, or_true, true_or, or_false, false_or, zT_39, zN_39, zGf_192_39, zGf_193_39, zGf_194_39, zPf_194_39, zGf_195_39, zGf_196_39, zGf_197_39, zGf_198_39, zPf_198_39, zGf_199_39, zPf_199_39, zGf_200_39, zPf_200_39, zGf_201_39, zGf_202_39, zPf_202_39, zGf_203_39, zGf_204_39, zPf_204_39, zGf_205_39, zGf_206_39, zGf_207_39, zGf_208_39, zGf_209_39, zGf_210_39, zGf_211_39, zGf_212_39, zGf_213_39, zGf_214_39, zPf_214_39, zGf_215_39, zGf_216_39, e8]
    by_cases c : 0 ≤ RR.1
    · rw [(h1 c).2, (h1 c).1]
      exact ⟨fun _ => last, fun e => absurd (by decide) e⟩
    · rw [h2 c, zw_e (z := -100 - (-100 - RR.1)) (by omega) (by omega), show -100 - (-100 - RR.1) = RR.1 by omega]
      exact ⟨fun e => absurd e (by omega), fun _ => last⟩
  by_cases c : 0 ≤ RR.1
  · rw [(g1 c).2]
    refine ⟨fun _ => ?_, fun e => absurd (by decide) e⟩
    have hu : tU T L n u := ⟨h.1, by rw [f _ _ (by decide)]; exact h.2.1, by rw [u40]; exact h.2.2.1, fun p a b => by rw [zfr_c f (by decide)]; exact h.2.2.2 p a b⟩
    have h2 := L_clauses (d := 33) (b := 1) hn hu (by rw [u40, ← hRR]; exact Or.inr ⟨rfl, c⟩)
    rw [u40, ← hRR] at h2
    refine zuse h2 ?_
    rintro r' w ⟨f2, a1, a2, -, a4⟩
    obtain ⟨a5, a6⟩ := a4 rfl
    exact fin r' w (zfr_tr f f2) a1 a2 (fun _ => a5) (fun e => absurd c e) a6
  · rw [g2 c]
    exact ⟨fun e => absurd e (by omega), fun _ => fin r u f g1 g2 (fun e => absurd e c) (fun _ => u40) (fun y _ => by rw [u40])⟩
theorem op_rules : zOp 54 134 [] := by
  intro μ hr
  have hn := (Rel_n hr).1
  obtain ⟨T, hTd⟩ : ∃ T, T = μ 44 := ⟨_, rfl⟩
  obtain ⟨L, hLd⟩ : ∃ L, L = μ 29 1 := ⟨_, rfl⟩
  have hT := tT_of hr
  have hU := fun w a b c => tU_of (w := w) hr a b c
  rw [← hTd, ← hLd] at hT
  rw [← hTd, ← hLd] at hU
  have hL := hT.1
  simp only [e54, k54_0, zO_nop, zO_goto, zO_iload_n0, zO_iload_n1, zO_iload_n2, zO_iload_n3, zO_iload, zO_lload_n0, zO_lload_n1, zO_lload_n2, zO_lload_n3, zO_lload, zO_aload_n0, zO_aload_n1, zO_aload_n2, zO_aload_n3, zO_aload, zO_istore_n0, zO_istore_n1, zO_istore_n2, zO_istore_n3, zO_istore, zO_astore_n0, zO_astore_n1, zO_astore_n2, zO_astore_n3, zO_astore, zO_lstore, zO_iinc, zO_iconst, zO_bipush, zO_sipush, zO_lconst0, zO_lconst1, zO_ldc, zO_ldc2_w, zO_iadd, zO_isub, zO_imul, zO_idiv, zO_irem, zO_ineg, zO_iand, zO_ior, zO_ixor, zO_ishl, zO_ishr, zO_iushr, zO_ladd, zO_lmul, zO_land, zO_lor, zO_lshl, zO_lcmp, zO_i2l, zO_l2i, zO_i2b, zO_dup0, zO_dup2, zO_dup200, zO_dup202, zO_dup220, zO_dup222, zO_ifCond_eq, zO_ifCond_ne, zO_ifCond_lt, zO_ifCond_ge, zO_ifCond_gt, zO_ifCond_le, zO_if_icmp_eq, zO_if_icmp_ne, zO_if_icmp_lt, zO_if_icmp_ge, zO_if_icmp_gt, zO_if_icmp_le, zO_getfield, zO_putfield, zO_iaload, zO_baload, zO_laload, zO_iastore, zO_bastore, zO_lastore, zO_arraylength, zO_invokevirtual, zO_lreturn, zO_areturn, zO_return_, zO_tableswitch, zO_lookupswitch, zO_is0, zO_is1, zO_is2, zO_is3, zO_is4, zO_is9, zO_is10, zO_is11, zO_is12, zO_ir1, zO_ir4, zB_c, zLd_0, zLd_s, zSt_c, zSt2_c, zU_c, zD_c, zY_c, zSw_n, zSw_c, zCall_c, zVirt_c, zP_0, zP_1, zP_2, zP_3, zP_4, zGet_n, zGet_z, zPut_n, zPut_z, zcw_n, zcw_0, zcw_1, zcw_2, List.length_cons, List.length_nil, List.take_succ_cons, List.take_zero, List.drop_succ_cons, List.drop_zero, List.reverse_cons, List.reverse_nil, List.nil_append, List.cons_append, List.append_nil, List.set_cons_zero, List.set_cons_succ, List.getD_cons_zero, List.getD_cons_succ, true_and, and_true, ne_eq, not_false_eq_true, not_true_eq_false, zif, Nat.reduceAdd, Nat.reduceLeDiff, Nat.reduceLT, Nat.reduceSub, Nat.reduceEqDiff, Nat.zero_le, Nat.lt_add_one, Nat.reduceMod, false_implies, true_implies, implies_true, forall_const, Int.reduceLE, Int.reduceLT, Int.reduceEq, Int.reduceNeg, ite10_0, ite10_1, zem, zem2, Classical.not_not, and_self, or_true, true_or, or_false, false_or, zT_0, zN_0, zGf_160_0, zGf_161_0, zGf_162_0, zPf_162_0, zGf_163_0, zGf_164_0, zGf_165_0, zGf_166_0, zGf_167_0, zPf_167_0, zGf_168_0, zPf_168_0, zGf_169_0, zGf_170_0, zGf_171_0, zPf_171_0, zGf_172_0, zGf_173_0, zGf_174_0, zGf_175_0, zGf_176_0, zT_1, zN_1, zGf_64_1, zPf_64_1, zGf_65_1, zPf_65_1, zGf_66_1, zPf_66_1, zGf_67_1, zGf_68_1, zGf_69_1, zGf_70_1, zGf_71_1, zGf_72_1, zGf_73_1, zPf_73_1, zT_29, zN_29, zGf_96_29, zGf_97_29, zPf_97_29, zGf_98_29, zGf_99_29, zPf_99_29, zGf_100_29, zPf_100_29, zGf_101_29]
  refine zuse (K_readRules (d := 34) hn hT) ?_
  rintro x u ⟨f, hx, s2⟩
  simp only [zO_nop, zO_goto, zO_iload_n0, zO_iload_n1, zO_iload_n2, zO_iload_n3, zO_iload, zO_lload_n0, zO_lload_n1, zO_lload_n2, zO_lload_n3, zO_lload, zO_aload_n0, zO_aload_n1, zO_aload_n2, zO_aload_n3, zO_aload, zO_istore_n0, zO_istore_n1, zO_istore_n2, zO_istore_n3, zO_istore, zO_astore_n0, zO_astore_n1, zO_astore_n2, zO_astore_n3, zO_astore, zO_lstore, zO_iinc, zO_iconst, zO_bipush, zO_sipush, zO_lconst0, zO_lconst1, zO_ldc, zO_ldc2_w, zO_iadd, zO_isub, zO_imul, zO_idiv, zO_irem, zO_ineg, zO_iand, zO_ior, zO_ixor, zO_ishl, zO_ishr, zO_iushr, zO_ladd, zO_lmul, zO_land, zO_lor, zO_lshl, zO_lcmp, zO_i2l, zO_l2i, zO_i2b, zO_dup0, zO_dup2, zO_dup200, zO_dup202, zO_dup220, zO_dup222, zO_ifCond_eq, zO_ifCond_ne, zO_ifCond_lt, zO_ifCond_ge, zO_ifCond_gt, zO_ifCond_le, zO_if_icmp_eq, zO_if_icmp_ne, zO_if_icmp_lt, zO_if_icmp_ge, zO_if_icmp_gt, zO_if_icmp_le, zO_getfield, zO_putfield, zO_iaload, zO_baload, zO_laload, zO_iastore, zO_bastore, zO_lastore, zO_arraylength, zO_invokevirtual, zO_lreturn, zO_areturn, zO_return_, zO_tableswitch, zO_lookupswitch, zO_is0, zO_is1, zO_is2, zO_is3, zO_is4, zO_is9, zO_is10, zO_is11, zO_is12, zO_ir1, zO_ir4, zB_c, zLd_0, zLd_s, zSt_c, zSt2_c, zU_c, zD_c, zY_c, zSw_n, zSw_c, zCall_c, zVirt_c, zP_0, zP_1, zP_2, zP_3, zP_4, zGet_n, zGet_z, zPut_n, zPut_z, zcw_n, zcw_0, zcw_1, zcw_2, List.length_cons, List.length_nil, List.take_succ_cons, List.take_zero, List.drop_succ_cons, List.drop_zero, List.reverse_cons, List.reverse_nil, List.nil_append, List.cons_append, List.append_nil, List.set_cons_zero, List.set_cons_succ, List.getD_cons_zero, List.getD_cons_succ, true_and, and_true, ne_eq, not_false_eq_true, not_true_eq_false, zif, Nat.reduceAdd, Nat.reduceLeDiff, Nat.reduceLT, Nat.reduceSub, Nat.reduceEqDiff, Nat.zero_le, Nat.lt_add_one, Nat.reduceMod, false_implies, true_implies, implies_true, forall_const, Int.reduceLE, Int.reduceLT, Int.reduceEq, Int.reduceNeg, ite10_0, ite10_1, zem, zem2, Classical.not_not, and_self, or_true, true_or, or_false, false_or, zT_0, zN_0, zGf_160_0, zGf_161_0, zGf_162_0, zPf_162_0, zGf_163_0, zGf_164_0, zGf_165_0, zGf_166_0, zGf_167_0, zPf_167_0, zGf_168_0, zPf_168_0, zGf_169_0, zGf_170_0, zGf_171_0, zPf_171_0, zGf_172_0, zGf_173_0, zGf_174_0, zGf_175_0, zGf_176_0, zT_1, zN_1, zGf_64_1, zPf_64_1, zGf_65_1, zPf_65_1, zGf_66_1, zPf_66_1, zGf_67_1, zGf_68_1, zGf_69_1, zGf_70_1, zGf_71_1, zGf_72_1, zGf_73_1, zPf_73_1, zT_29, zN_29, zGf_96_29, zGf_97_29, zPf_97_29, zGf_98_29, zGf_99_29, zPf_99_29, zGf_100_29, zPf_100_29, zGf_101_29, K_forget]
  generalize hv : zu (zu (zu u 29 1 0) 0 7 0) 0 8 0 = v
  have fv : zfr ((0, 7) :: (0, 8) :: (2, -1) :: (29, 1) :: (29, 3) :: (29, 4) :: (31, -1) :: (32, -1) :: []) μ v := by rw [← hv]; exact zfr_u (zfr_u (zfr_u (zfr_up f (by decide)) (by decide)) (by decide)) (by decide)
  have v29 : v 29 1 = 0 := by rw [← hv, zu_ne (by omega), zu_ne (by omega), zu_at]
  have v7 : v 0 7 = 0 := by rw [← hv, zu_ne (by omega), zu_at]
  have v8 : v 0 8 = 0 := by rw [← hv, zu_at]
  have v2 : v 2 = u 2 := by rw [← hv, zu_c (by decide), zu_c (by decide), zu_c (by decide)]
  have v40 : v 40 = μ 40 := zfr_c fv (by decide)
  refine ⟨⟨zfr_c fv (by decide), zfr_c fv (by decide)⟩, ?_⟩
  have hv' := hU v (fv _ _ (by decide)) (by rw [hTd]; exact zfr_c fv (by decide)) v40
  refine zuse (L_rules hn hv') ?_
  rintro r w ⟨fw, w6, hr', w1, w2, w3⟩
  obtain ⟨p0, p1, p2, p3, p4, p5, p6, p7, p8, p9⟩ := rH_1.mp hr.1
  have cg := pR_cg hn (tT_P hT) 60 0 (fun y => v 40 (3 + y)) (μ 2) 1 (by omega) hL.1 (fun y hy => by rw [v40]; exact (p3 y hy.1 hy.2).2)
  have bd := pR_bd hn (tT_P hT) 60 0 (μ 2) 1 (by omega) hL.1 (by omega) (by omega) (fun y hy => (p3 y hy.1 hy.2).1)
  rw [cg.1] at hr' w1 w2
  rw [← hx] at hr' w1 w2 s2
  have FF : zfr ((0, 7) :: (0, 8) :: (2, -1) :: (29, 1) :: (40, -1) :: (39, 6) :: zTm) μ w := zfr_tr (zfr_up fv (by decide)) (zfr_up fw (by decide))
  refine ⟨hr', ?_, zfr_c FF (by decide), zfr_c FF (by decide)⟩
  have z1 : w 1 = μ 1 := zfr_c FF (by decide)
  have z2 : w 2 = u 2 := by rw [zfr_c fw (by decide), v2]
  have w29 : w 29 1 = 0 := by rw [zfr_c fw (by decide)]; exact v29
  have w7 : w 0 7 = 0 := by rw [zfr_c fw (by decide)]; exact v7
  have w8 : w 0 8 = 0 := by rw [zfr_c fw (by decide)]; exact v8
  have z40 : ∀ j, (j < 3 ∨ 128 ≤ j) → w 40 j = μ 40 j := fun j hj => by rw [w3 j hj, v40]
  have keep : ∀ c lo hi len off, rA c 40 lo hi len off μ → w c = μ c → (off + len ≤ 3 ∨ 128 ≤ off) → rA c 40 lo hi len off w := fun c lo hi len off h e ho i i0 i1 => by
    rw [e, z40 _ (by omega)]
    exact h i i0 i1
  refine ⟨rH_1.mpr ⟨?_, ?_, ?_, ?_, keep _ _ _ _ _ p4 (zfr_c FF (by decide)) (by omega), keep _ _ _ _ _ p5 (zfr_c FF (by decide)) (by omega), keep _ _ _ _ _ p6 (zfr_c FF (by decide)) (by omega), ?_, keep _ _ _ _ _ p8 (zfr_c FF (by decide)) (by omega), keep _ _ _ _ _ p9 (zfr_c FF (by decide)) (by omega)⟩, rI_fr FF (by decide) (by decide) (by decide) hr.2.1, ⟨by omega, by omega, fun i a b => by omega⟩, rP_fr FF (by decide) (by decide) (by decide) hr.2.2.2.1, rLs_fr FF (by decide) hr.2.2.2.2.1, rC_no w7 w8⟩
  · rw [z1, z40 _ (by omega)]; exact p0
  · rw [z1, z40 _ (by omega)]; exact p1
  · rw [z1, z40 _ (by omega)]; exact p2
  · intro y y0 y1
    rw [z2, s2 y ⟨y0, y1⟩]
    by_cases c : 0 ≤ x
    · rw [if_pos c, w1 c y ⟨y0, y1⟩]
      exact ⟨bd.2 y ⟨y0, y1⟩, cg.2 y ⟨y0, y1⟩⟩
    · rw [if_neg c, w2 c, v40]
      exact p3 y y0 y1
  · rw [z1, z40 _ (by omega)]; exact p7
