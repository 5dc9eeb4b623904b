/-! what sets give -/
noncomputable def bgv (N : Int → Int → Int → Int) (n i j : Int) : Int := mkB (fun k => k < n ∧ 0 < N i j k)
noncomputable def bga (N : Int → Int → Int → Int) (n x j : Int) : Int := mkB (fun k => k < n ∧ ∃ i, zrg n i ∧ tb x i ∧ 0 < N i j k)
noncomputable def gvb (N : Int → Int → Int → Int) (n x : Int) : Int := mkB (fun k => k < n ∧ ∃ i j, zrg n i ∧ zrg n j ∧ tb x i ∧ tb x j ∧ 0 < N i j k)
noncomputable def wag (N : Int → Int → Int → Int) (n x : Int) : Int := mkB (fun k => tb x k ∨ (k < n ∧ ∃ i j, zrg n i ∧ zrg n j ∧ tb x i ∧ tb x j ∧ 0 < N i j k))
/-- CLOSED -/
def clS (N : Int → Int → Int → Int) (n x : Int) : Prop := tb x 0 ∧ ∀ k, zrg n k → (∃ i j, zrg n i ∧ zrg n j ∧ tb x i ∧ tb x j ∧ 0 < N i j k) → tb x k
theorem tb0 {k : Int} (hk : 0 ≤ k ∧ k < 5) : ¬ tb 0 k := by
  obtain rfl | rfl | rfl | rfl | rfl : k = 0 ∨ k = 1 ∨ k = 2 ∨ k = 3 ∨ k = 4 := by omega
  all_goals (unfold tb; decide)
theorem K_bitsGiven {d : Nat} {i j : Int} {μ : zM} {P : Int → zM → Prop} (h : RF μ) (hi : zrg (μ 1 1) i) (hj : zrg (μ 1 1) j) : zC (d + 3) 24 [(2, 15), (0, i), (0, j)] μ P ↔ P (bgv (xF μ) (μ 1 1) i j) μ := by
  refine zC_is ?_
  have hn := (Rel_n h.1).1
  have hs : μ 15 0 = μ 1 1 := RF_s h
  have hat : ∀ {k : Int} {P : Int → zM → Prop}, zrg (μ 1 1) k → (zC (d + 2) 10 [(2, 15), (0, i), (0, j), (0, k)] μ P ↔ P (xF μ i j k) μ) := fun hk => K_at h hi hj hk
  generalize xF μ = N at hat ⊢
  generalize μ 1 1 = n at hat hn hs ⊢
  generalize hQ : (fun (r : Int) (u : zM) => r = bgv N n i j ∧ u = μ) = Q
  have hl : ∀ k (s : Int), 0 ≤ k → k ≤ n → ((0 ≤ s ∧ s < 32) ∧ ∀ m, 0 ≤ m ∧ m < 5 → (tb s m ↔ m < k ∧ 0 < N i j m)) → zR (d + 2) 24 Q 5 [(2, 15), (0, i), (0, j), (0, s), (0, k)] [] μ := by
    refine zloop (n := n) (Inv := fun k (s : Int) => (0 ≤ s ∧ s < 32) ∧ ∀ m, 0 ≤ m ∧ m < 5 → (tb s m ↔ m < k ∧ 0 < N i j m)) (R := fun k s => zR (d + 2) 24 Q 5 [(2, 15), (0, i), (0, j), (0, s), (0, k)] [] μ) ?_ ?_
    · rintro k s k0 k1 ⟨sb, hs2⟩ ih
      have k5 : 0 ≤ k ∧ k < 5 := by omega
      rw [u24_5]
      simp only [k24_5, e24, k24_0, u24_32, k24_32, u24_38, k24_38, zO_nop, zO_goto, zO_iload_n0, zO_iload_n1, zO_iload_n2, zO_iload_n3, zO_iload, zO_lload_n0, zO_lload_n1, zO_lload_n2, zO_lload_n3, zO_lload, zO_aload_n0, zO_aload_n1, zO_aload_n2, zO_aload_n3, zO_aload, zO_istore_n0, zO_istore_n1, zO_istore_n2, zO_istore_n3, zO_istore, zO_astore_n0, zO_astore_n1, zO_astore_n2, zO_astore_n3, zO_astore, zO_lstore, zO_iinc, zO_iconst, zO_bipush, zO_sipush, zO_lconst0, zO_lconst1, zO_ldc, zO_ldc2_w, zO_iadd, zO_isub, zO_imul, zO_idiv, zO_irem, zO_ineg, zO_iand, zO_ior, zO_ixor, zO_ishl, zO_ishr, zO_iushr, zO_ladd, zO_lmul, zO_land, zO_lor, zO_lshl, zO_lcmp, zO_i2l, zO_l2i, zO_i2b, zO_dup0, zO_dup2, zO_dup200, zO_dup202, zO_dup220, zO_dup222, zO_ifCond_eq, zO_ifCond_ne, zO_ifCond_lt, zO_ifCond_ge, zO_ifCond_gt, zO_ifCond_le, zO_if_icmp_eq, zO_if_icmp_ne, zO_if_icmp_lt, zO_if_icmp_ge, zO_if_icmp_gt, zO_if_icmp_le, zO_getfield, zO_putfield, zO_iaload, zO_baload, zO_laload, zO_iastore, zO_bastore, zO_lastore, zO_arraylength, zO_invokevirtual, zO_lreturn, zO_areturn, zO_return_, zO_tableswitch, zO_lookupswitch, zO_is0, zO_is1, zO_is2, zO_is3, zO_is4, zO_is9, zO_is10, zO_is11, zO_is12, zO_ir1, zO_ir4, zB_c, zLd_0, zLd_s, zSt_c, zSt2_c, zU_c, zD_c, zY_c, zSw_n, zSw_c, zCall_c, zVirt_c, zP_0, zP_1, zP_2, zP_3, zP_4, zGet_n, zGet_z, zPut_n, zPut_z, zcw_n, zcw_0, zcw_1, zcw_2, List.length_cons, List.length_nil, List.take_succ_cons, List.take_zero, List.drop_succ_cons, List.drop_zero, List.reverse_cons, List.reverse_nil, List.nil_append, List.cons_append, List.append_nil, List.set_cons_zero, List.set_cons_succ, List.getD_cons_zero, List.getD_cons_succ, true_and, and_true, ne_eq, not_false_eq_true, not_true_eq_false, zif, Nat.reduceAdd, Nat.reduceLeDiff, Nat.reduceLT, Nat.reduceSub, Nat.reduceEqDiff, Nat.zero_le, Nat.lt_add_one, Nat.reduceMod, false_implies, true_implies, implies_true, forall_const, Int.reduceLE, Int.reduceLT, Int.reduceEq, Int.reduceNeg, ite10_0, ite10_1, zem, zem2, Classical.not_not, and_self, or_true, true_or, or_false, false_or, zT_15, zN_15, zGf_32_15, zPf_32_15, zGf_33_15, zAl_16, zAs_16, hs, hat ⟨k0, k1⟩]
      rw [zw_e (z := k + 1) (by omega) (by omega)]
      refine ⟨fun _ => ⟨fun e => ih _ ⟨zor_b sb (zshl_b k5).1, fun m hm => ?_⟩, fun e => ih _ ⟨sb, fun m hm => ?_⟩⟩, fun e => absurd k1 e⟩
      · rw [tb_or sb (zshl_b k5).1 hm, tb_shl hm k5, hs2 m hm]
        refine ⟨fun q => ?_, fun q => ?_⟩
        · rcases q with q | q
          · exact ⟨by omega, q.2⟩
          · rw [q]; exact ⟨by omega, e⟩
        · by_cases c : m = k
          · exact Or.inr c
          · exact Or.inl ⟨by omega, q.2⟩
      · rw [hs2 m hm]
        refine ⟨fun q => ⟨by omega, q.2⟩, fun q => ⟨?_, q.2⟩⟩
        by_cases c : m = k
        · rw [c] at q; exact absurd q.2 e
        · omega
    · rintro s ⟨sb, hs2⟩
      rw [u24_5]
      simp only [k24_5, e24, k24_0, u24_32, k24_32, u24_38, k24_38, zO_nop, zO_goto, zO_iload_n0, zO_iload_n1, zO_iload_n2, zO_iload_n3, zO_iload, zO_lload_n0, zO_lload_n1, zO_lload_n2, zO_lload_n3, zO_lload, zO_aload_n0, zO_aload_n1, zO_aload_n2, zO_aload_n3, zO_aload, zO_istore_n0, zO_istore_n1, zO_istore_n2, zO_istore_n3, zO_istore, zO_astore_n0, zO_astore_n1, zO_astore_n2, zO_astore_n3, zO_astore, zO_lstore, zO_iinc, zO_iconst, zO_bipush, zO_sipush, zO_lconst0, zO_lconst1, zO_ldc, zO_ldc2_w, zO_iadd, zO_isub, zO_imul, zO_idiv, zO_irem, zO_ineg, zO_iand, zO_ior, zO_ixor, zO_ishl, zO_ishr, zO_iushr, zO_ladd, zO_lmul, zO_land, zO_lor, zO_lshl, zO_lcmp, zO_i2l, zO_l2i, zO_i2b, zO_dup0, zO_dup2, zO_dup200, zO_dup202, zO_dup220, zO_dup222, zO_ifCond_eq, zO_ifCond_ne, zO_ifCond_lt, zO_ifCond_ge, zO_ifCond_gt, zO_ifCond_le, zO_if_icmp_eq, zO_if_icmp_ne, zO_if_icmp_lt, zO_if_icmp_ge, zO_if_icmp_gt, zO_if_icmp_le, zO_getfield, zO_putfield, zO_iaload, zO_baload, zO_laload, zO_iastore, zO_bastore, zO_lastore, zO_arraylength, zO_invokevirtual, zO_lreturn, zO_areturn, zO_return_, zO_tableswitch, zO_lookupswitch, zO_is0, zO_is1, zO_is2, zO_is3, zO_is4, zO_is9, zO_is10, zO_is11, zO_is12, zO_ir1, zO_ir4, zB_c, zLd_0, zLd_s, zSt_c, zSt2_c, zU_c, zD_c, zY_c, zSw_n, zSw_c, zCall_c, zVirt_c, zP_0, zP_1, zP_2, zP_3, zP_4, zGet_n, zGet_z, zPut_n, zPut_z, zcw_n, zcw_0, zcw_1, zcw_2, List.length_cons, List.length_nil, List.take_succ_cons, List.take_zero, List.drop_succ_cons, List.drop_zero, List.reverse_cons, List.reverse_nil, List.nil_append, List.cons_append, List.append_nil, List.set_cons_zero, List.set_cons_succ, List.getD_cons_zero, List.getD_cons_succ, true_and, and_true, ne_eq, not_false_eq_true, not_true_eq_false, zif, Nat.reduceAdd, Nat.reduceLeDiff, Nat.reduceLT, Nat.reduceSub, Nat.reduceEqDiff, Nat.zero_le, Nat.lt_add_one, Nat.reduceMod, false_implies, true_implies, implies_true, forall_const, Int.reduceLE, Int.reduceLT, Int.reduceEq, Int.reduceNeg, ite10_0, ite10_1, zem, zem2, Classical.not_not, and_self, or_true, true_or, or_false, false_or, zT_15, zN_15, zGf_32_15, zPf_32_15, zGf_33_15, zAl_16, zAs_16, hs]
      refine ⟨fun e => absurd e (by omega), fun _ => ?_⟩
      rw [← hQ]
      exact ⟨mkB_of sb hs2, rfl⟩
  simp only [e24, k24_0, zO_nop, zO_goto, zO_iload_n0, zO_iload_n1, zO_iload_n2, zO_iload_n3, zO_iload, zO_lload_n0, zO_lload_n1, zO_lload_n2, zO_lload_n3, zO_lload, zO_aload_n0, zO_aload_n1, zO_aload_n2, zO_aload_n3, zO_aload, zO_istore_n0, zO_istore_n1, zO_istore_n2, zO_istore_n3, zO_istore, zO_astore_n0, zO_astore_n1, zO_astore_n2, zO_astore_n3, zO_astore, zO_lstore, zO_iinc, zO_iconst, zO_bipush, zO_sipush, zO_lconst0, zO_lconst1, zO_ldc, zO_ldc2_w, zO_iadd, zO_isub, zO_imul, zO_idiv, zO_irem, zO_ineg, zO_iand, zO_ior, zO_ixor, zO_ishl, zO_ishr, zO_iushr, zO_ladd, zO_lmul, zO_land, zO_lor, zO_lshl, zO_lcmp, zO_i2l, zO_l2i, zO_i2b, zO_dup0, zO_dup2, zO_dup200, zO_dup202, zO_dup220, zO_dup222, zO_ifCond_eq, zO_ifCond_ne, zO_ifCond_lt, zO_ifCond_ge, zO_ifCond_gt, zO_ifCond_le, zO_if_icmp_eq, zO_if_icmp_ne, zO_if_icmp_lt, zO_if_icmp_ge, zO_if_icmp_gt, zO_if_icmp_le, zO_getfield, zO_putfield, zO_iaload, zO_baload, zO_laload, zO_iastore, zO_bastore, zO_lastore, zO_arraylength, zO_invokevirtual, zO_lreturn, zO_areturn, zO_return_, zO_tableswitch, zO_lookupswitch, zO_is0, zO_is1, zO_is2, zO_is3, zO_is4, zO_is9, zO_is10, zO_is11, zO_is12, zO_ir1, zO_ir4, zB_c, zLd_0, zLd_s, zSt_c, zSt2_c, zU_c, zD_c, zY_c, zSw_n, zSw_c, zCall_c, zVirt_c, zP_0, zP_1, zP_2, zP_3, zP_4, zGet_n, zGet_z, zPut_n, zPut_z, zcw_n, zcw_0, zcw_1, zcw_2, List.length_cons, List.length_nil, List.take_succ_cons, List.take_zero, List.drop_succ_cons, List.drop_zero, List.reverse_cons, List.reverse_nil, List.nil_append, List.cons_append, List.append_nil, List.set_cons_zero, List.set_cons_succ, List.getD_cons_zero, List.getD_cons_succ, true_and, and_true, ne_eq, not_false_eq_true, not_true_eq_false, zif, Nat.reduceAdd, Nat.reduceLeDiff, Nat.reduceLT, Nat.reduceSub, Nat.reduceEqDiff, Nat.zero_le, Nat.lt_add_one, Nat.reduceMod, false_implies, true_implies, implies_true, forall_const, Int.reduceLE, Int.reduceLT, Int.reduceEq, Int.reduceNeg, ite10_0, ite10_1, zem, zem2, Classical.not_not, and_self, or_true, true_or, or_false, false_or]
  exact hl 0 0 (by omega) (by omega) ⟨by omega, fun m hm => ⟨fun q => absurd q (tb0 hm), fun q => by omega⟩⟩
theorem K_bitsGivenByAll {d : Nat} {x j : Int} {μ : zM} {P : Int → zM → Prop} (h : RF μ) (hx : 0 ≤ x ∧ x < 32) (hj : zrg (μ 1 1) j) : zC (d + 4) 25 [(2, 15), (0, x), (0, j)] μ P ↔ P (bga (xF μ) (μ 1 1) x j) μ := by
  refine zC_is ?_
  have hn := (Rel_n h.1).1
  have hs : μ 15 0 = μ 1 1 := RF_s h
  have hat : ∀ {k : Int} {P : Int → zM → Prop}, zrg (μ 1 1) k → (zC (d + 3) 24 [(2, 15), (0, k), (0, j)] μ P ↔ P (bgv (xF μ) (μ 1 1) k j) μ) := fun hk => K_bitsGiven h hk hj
  generalize xF μ = N at hat ⊢
  generalize μ 1 1 = n at hat hn hs ⊢
  generalize hQ : (fun (r : Int) (u : zM) => r = bga N n x j ∧ u = μ) = Q
  have hl : ∀ k (s : Int), 0 ≤ k → k ≤ n → ((0 ≤ s ∧ s < 32) ∧ ∀ m, 0 ≤ m ∧ m < 5 → (tb s m ↔ m < n ∧ ∃ i, zrg k i ∧ tb x i ∧ 0 < N i j m)) → zR (d + 3) 25 Q 5 [(2, 15), (0, x), (0, j), (0, s), (0, k)] [] μ := by
    refine zloop (n := n) (Inv := fun k (s : Int) => (0 ≤ s ∧ s < 32) ∧ ∀ m, 0 ≤ m ∧ m < 5 → (tb s m ↔ m < n ∧ ∃ i, zrg k i ∧ tb x i ∧ 0 < N i j m)) (R := fun k s => zR (d + 3) 25 Q 5 [(2, 15), (0, x), (0, j), (0, s), (0, k)] [] μ) ?_ ?_
    · rintro k s k0 k1 ⟨sb, hs2⟩ ih
      have k5 : 0 ≤ k ∧ k < 5 := by omega
      rw [u25_5]
      simp only [k25_5, e25, k25_0, u25_34, k25_34, u25_40, k25_40, zO_nop, zO_goto, zO_iload_n0, zO_iload_n1, zO_iload_n2, zO_iload_n3, zO_iload, zO_lload_n0, zO_lload_n1, zO_lload_n2, zO_lload_n3, zO_lload, zO_aload_n0, zO_aload_n1, zO_aload_n2, zO_aload_n3, zO_aload, zO_istore_n0, zO_istore_n1, zO_istore_n2, zO_istore_n3, zO_istore, zO_astore_n0, zO_astore_n1, zO_astore_n2, zO_astore_n3, zO_astore, zO_lstore, zO_iinc, zO_iconst, zO_bipush, zO_sipush, zO_lconst0, zO_lconst1, zO_ldc, zO_ldc2_w, zO_iadd, zO_isub, zO_imul, zO_idiv, zO_irem, zO_ineg, zO_iand, zO_ior, zO_ixor, zO_ishl, zO_ishr, zO_iushr, zO_ladd, zO_lmul, zO_land, zO_lor, zO_lshl, zO_lcmp, zO_i2l, zO_l2i, zO_i2b, zO_dup0, zO_dup2, zO_dup200, zO_dup202, zO_dup220, zO_dup222, zO_ifCond_eq, zO_ifCond_ne, zO_ifCond_lt, zO_ifCond_ge, zO_ifCond_gt, zO_ifCond_le, zO_if_icmp_eq, zO_if_icmp_ne, zO_if_icmp_lt, zO_if_icmp_ge, zO_if_icmp_gt, zO_if_icmp_le, zO_getfield, zO_putfield, zO_iaload, zO_baload, zO_laload, zO_iastore, zO_bastore, zO_lastore, zO_arraylength, zO_invokevirtual, zO_lreturn, zO_areturn, zO_return_, zO_tableswitch, zO_lookupswitch, zO_is0, zO_is1, zO_is2, zO_is3, zO_is4, zO_is9, zO_is10, zO_is11, zO_is12, zO_ir1, zO_ir4, zB_c, zLd_0, zLd_s, zSt_c, zSt2_c, zU_c, zD_c, zY_c, zSw_n, zSw_c, zCall_c, zVirt_c, zP_0, zP_1, zP_2, zP_3, zP_4, zGet_n, zGet_z, zPut_n, zPut_z, zcw_n, zcw_0, zcw_1, zcw_2, List.length_cons, List.length_nil, List.take_succ_cons, List.take_zero, List.drop_succ_cons, List.drop_zero, List.reverse_cons, List.reverse_nil, List.nil_append, List.cons_append, List.append_nil, List.set_cons_zero, List.set_cons_succ, List.getD_cons_zero, List.getD_cons_succ, true_and, and_true, ne_eq, not_false_eq_true, not_true_eq_false, zif, Nat.reduceAdd, Nat.reduceLeDiff, Nat.reduceLT, Nat.reduceSub, Nat.reduceEqDiff, Nat.zero_le, Nat.lt_add_one, Nat.reduceMod, false_implies, true_implies, implies_true, forall_const, Int.reduceLE, Int.reduceLT, Int.reduceEq, Int.reduceNeg, ite10_0, ite10_1, zem, zem2, Classical.not_not, and_self, or_true, true_or, or_false, false_or, zT_15, zN_15, zGf_32_15, zPf_32_15, zGf_33_15, zAl_16, zAs_16, hs, hat ⟨k0, k1⟩]
      rw [zw_e (z := k + 1) (by omega) (by omega)]
      refine ⟨fun _ => ⟨fun e => ih _ ⟨zor_b sb (mkB_b _), fun m hm => ?_⟩, fun e => ih _ ⟨sb, fun m hm => ?_⟩⟩, fun e => absurd k1 e⟩
      · rw [tb_or sb (show 0 ≤ bgv N n k j ∧ bgv N n k j < 32 from mkB_b _) hm, hs2 m hm]
        unfold bgv
        rw [mkB_t _ hm]
        refine ⟨fun q => ?_, fun q => ?_⟩
        · rcases q with ⟨q1, i, q2, q3⟩ | ⟨q1, q2⟩
          · exact ⟨q1, i, ⟨q2.1, by have := q2.2; omega⟩, q3⟩
          · exact ⟨q1, k, ⟨k0, by omega⟩, e, q2⟩
        · obtain ⟨q1, i, q2, q3, q4⟩ := q
          by_cases c : i = k
          · rw [c] at q4; exact Or.inr ⟨q1, q4⟩
          · exact Or.inl ⟨q1, i, ⟨q2.1, by have := q2.2; omega⟩, q3, q4⟩
      · rw [hs2 m hm]
        refine ⟨fun q => ?_, fun q => ?_⟩
        · obtain ⟨q1, i, q2, q3⟩ := q
          exact ⟨q1, i, ⟨q2.1, by have := q2.2; omega⟩, q3⟩
        · obtain ⟨q1, i, q2, q3, q4⟩ := q
          by_cases c : i = k
          · rw [c] at q3; exact absurd q3 e
          · exact ⟨q1, i, ⟨q2.1, by have := q2.2; omega⟩, q3, q4⟩
    · rintro s ⟨sb, hs2⟩
      rw [u25_5]
      simp only [k25_5, e25, k25_0, u25_34, k25_34, u25_40, k25_40, zO_nop, zO_goto, zO_iload_n0, zO_iload_n1, zO_iload_n2, zO_iload_n3, zO_iload, zO_lload_n0, zO_lload_n1, zO_lload_n2, zO_lload_n3, zO_lload, zO_aload_n0, zO_aload_n1, zO_aload_n2, zO_aload_n3, zO_aload, zO_istore_n0, zO_istore_n1, zO_istore_n2, zO_istore_n3, zO_istore, zO_astore_n0, zO_astore_n1, zO_astore_n2, zO_astore_n3, zO_astore, zO_lstore, zO_iinc, zO_iconst, zO_bipush, zO_sipush, zO_lconst0, zO_lconst1, zO_ldc, zO_ldc2_w, zO_iadd, zO_isub, zO_imul, zO_idiv, zO_irem, zO_ineg, zO_iand, zO_ior, zO_ixor, zO_ishl, zO_ishr, zO_iushr, zO_ladd, zO_lmul, zO_land, zO_lor, zO_lshl, zO_lcmp, zO_i2l, zO_l2i, zO_i2b, zO_dup0, zO_dup2, zO_dup200, zO_dup202, zO_dup220, zO_dup222, zO_ifCond_eq, zO_ifCond_ne, zO_ifCond_lt, zO_ifCond_ge, zO_ifCond_gt, zO_ifCond_le, zO_if_icmp_eq, zO_if_icmp_ne, zO_if_icmp_lt, zO_if_icmp_ge, zO_if_icmp_gt, zO_if_icmp_le, zO_getfield, zO_putfield, zO_iaload, zO_baload, zO_laload, zO_iastore, zO_bastore, zO_lastore, zO_arraylength, zO_invokevirtual, zO_lreturn, zO_areturn, zO_return_, zO_tableswitch, zO_lookupswitch, zO_is0, zO_is1, zO_is2, zO_is3, zO_is4, zO_is9, zO_is10, zO_is11, zO_is12, zO_ir1, zO_ir4, zB_c, zLd_0, zLd_s, zSt_c, zSt2_c, zU_c, zD_c, zY_c, zSw_n, zSw_c, zCall_c, zVirt_c, zP_0, zP_1, zP_2, zP_3, zP_4, zGet_n, zGet_z, zPut_n, zPut_z, zcw_n, zcw_0, zcw_1, zcw_2, List.length_cons, List.length_nil, List.take_succ_cons, List.take_zero, List.drop_succ_cons, List.drop_zero, List.reverse_cons, List.reverse_nil, List.nil_append, List.cons_append, List.append_nil, List.set_cons_zero, List.set_cons_succ, List.getD_cons_zero, List.getD_cons_succ, true_and, and_true, ne_eq, not_false_eq_true, not_true_eq_false, zif, Nat.reduceAdd, Nat.reduceLeDiff, Nat.reduceLT, Nat.reduceSub, Nat.reduceEqDiff, Nat.zero_le, Nat.lt_add_one, Nat.reduceMod, false_implies, true_implies, implies_true, forall_const, Int.reduceLE, Int.reduceLT, Int.reduceEq, Int.reduceNeg, ite10_0, ite10_1, zem, zem2, Classical.not_not, and_self, or_true, true_or, or_false, false_or, zT_15, zN_15, zGf_32_15, zPf_32_15, zGf_33_15, zAl_16, zAs_16, hs]
      refine ⟨fun e => absurd e (by omega), fun _ => ?_⟩
      rw [← hQ]
      exact ⟨mkB_of sb hs2, rfl⟩
  simp only [e25, k25_0, zO_nop, zO_goto, zO_iload_n0, zO_iload_n1, zO_iload_n2, zO_iload_n3, zO_iload, zO_lload_n0, zO_lload_n1, zO_lload_n2, zO_lload_n3, zO_lload, zO_aload_n0, zO_aload_n1, zO_aload_n2, zO_aload_n3, zO_aload, zO_istore_n0, zO_istore_n1, zO_istore_n2, zO_istore_n3, zO_istore, zO_astore_n0, zO_astore_n1, zO_astore_n2, zO_astore_n3, zO_astore, zO_lstore, zO_iinc, zO_iconst, zO_bipush, zO_sipush, zO_lconst0, zO_lconst1, zO_ldc, zO_ldc2_w, zO_iadd, zO_isub, zO_imul, zO_idiv, zO_irem, zO_ineg, zO_iand, zO_ior, zO_ixor, zO_ishl, zO_ishr, zO_iushr, zO_ladd, zO_lmul, zO_land, zO_lor, zO_lshl, zO_lcmp, zO_i2l, zO_l2i, zO_i2b, zO_dup0, zO_dup2, zO_dup200, zO_dup202, zO_dup220, zO_dup222, zO_ifCond_eq, zO_ifCond_ne, zO_ifCond_lt, zO_ifCond_ge, zO_ifCond_gt, zO_ifCond_le, zO_if_icmp_eq, zO_if_icmp_ne, zO_if_icmp_lt, zO_if_icmp_ge, zO_if_icmp_gt, zO_if_icmp_le, zO_getfield, zO_putfield, zO_iaload, zO_baload, zO_laload, zO_iastore, zO_bastore, zO_lastore, zO_arraylength, zO_invokevirtual, zO_lreturn, zO_areturn, zO_return_, zO_tableswitch, zO_lookupswitch, zO_is0, zO_is1, zO_is2, zO_is3, zO_is4, zO_is9, zO_is10, zO_is11, zO_is12, zO_ir1, zO_ir4, zB_c, zLd_0, zLd_s, zSt_c, zSt2_c, zU_c, zD_c, zY_c, zSw_n, zSw_c, zCall_c, zVirt_c, zP_0, zP_1, zP_2, zP_3, zP_4, zGet_n, zGet_z, zPut_n, zPut_z, zcw_n, zcw_0, zcw_1, zcw_2, List.length_cons, List.length_nil, List.take_succ_cons, List.take_zero, List.drop_succ_cons, List.drop_zero, List.reverse_cons, List.reverse_nil, List.nil_append, List.cons_append, List.append_nil, List.set_cons_zero, List.set_cons_succ, List.getD_cons_zero, List.getD_cons_succ, true_and, and_true, ne_eq, not_false_eq_true, not_true_eq_false, zif, Nat.reduceAdd, Nat.reduceLeDiff, Nat.reduceLT, Nat.reduceSub, Nat.reduceEqDiff, Nat.zero_le, Nat.lt_add_one, Nat.reduceMod, false_implies, true_implies, implies_true, forall_const, Int.reduceLE, Int.reduceLT, Int.reduceEq, Int.reduceNeg, ite10_0, ite10_1, zem, zem2, Classical.not_not, and_self, or_true, true_or, or_false, false_or]
  exact hl 0 0 (by omega) (by omega) ⟨by omega, fun m hm => ⟨fun q => absurd q (tb0 hm), fun q => by obtain ⟨-, i, q2, -⟩ := q; have := q2.1; have := q2.2; omega⟩⟩
theorem K_withAllGiven {d : Nat} {x : Int} {μ : zM} {P : Int → zM → Prop} (h : RF μ) (hx : 0 ≤ x ∧ x < 32) : zC (d + 5) 26 [(2, 15), (0, x)] μ P ↔ P (wag (xF μ) (μ 1 1) x) μ := by
  refine zC_is ?_
  have hn := (Rel_n h.1).1
  have hs : μ 15 0 = μ 1 1 := RF_s h
  have hat : ∀ {k : Int} {P : Int → zM → Prop}, zrg (μ 1 1) k → (zC (d + 4) 25 [(2, 15), (0, x), (0, k)] μ P ↔ P (bga (xF μ) (μ 1 1) x k) μ) := fun hk => K_bitsGivenByAll h hx hk
  generalize xF μ = N at hat ⊢
  generalize μ 1 1 = n at hat hn hs ⊢
  generalize hQ : (fun (r : Int) (u : zM) => r = wag N n x ∧ u = μ) = Q
  have hl : ∀ k (s : Int), 0 ≤ k → k ≤ n → ((0 ≤ s ∧ s < 32) ∧ ∀ m, 0 ≤ m ∧ m < 5 → (tb s m ↔ tb x m ∨ (m < n ∧ ∃ i j, zrg n i ∧ zrg k j ∧ tb x i ∧ tb x j ∧ 0 < N i j m))) → zR (d + 4) 26 Q 4 [(2, 15), (0, x), (0, s), (0, k)] [] μ := by
    refine zloop (n := n) (Inv := fun k (s : Int) => (0 ≤ s ∧ s < 32) ∧ ∀ m, 0 ≤ m ∧ m < 5 → (tb s m ↔ tb x m ∨ (m < n ∧ ∃ i j, zrg n i ∧ zrg k j ∧ tb x i ∧ tb x j ∧ 0 < N i j m))) (R := fun k s => zR (d + 4) 26 Q 4 [(2, 15), (0, x), (0, s), (0, k)] [] μ) ?_ ?_
    · rintro k s k0 k1 ⟨sb, hs2⟩ ih
      have k5 : 0 ≤ k ∧ k < 5 := by omega
      rw [u26_4]
      simp only [k26_4, e26, k26_0, u26_30, k26_30, u26_36, k26_36, zO_nop, zO_goto, zO_iload_n0, zO_iload_n1, zO_iload_n2, zO_iload_n3, zO_iload, zO_lload_n0, zO_lload_n1, zO_lload_n2, zO_lload_n3, zO_lload, zO_aload_n0, zO_aload_n1, zO_aload_n2, zO_aload_n3, zO_aload, zO_istore_n0, zO_istore_n1, zO_istore_n2, zO_istore_n3, zO_istore, zO_astore_n0, zO_astore_n1, zO_astore_n2, zO_astore_n3, zO_astore, zO_lstore, zO_iinc, zO_iconst, zO_bipush, zO_sipush, zO_lconst0, zO_lconst1, zO_ldc, zO_ldc2_w, zO_iadd, zO_isub, zO_imul, zO_idiv, zO_irem, zO_ineg, zO_iand, zO_ior, zO_ixor, zO_ishl, zO_ishr, zO_iushr, zO_ladd, zO_lmul, zO_land, zO_lor, zO_lshl, zO_lcmp, zO_i2l, zO_l2i, zO_i2b, zO_dup0, zO_dup2, zO_dup200, zO_dup202, zO_dup220, zO_dup222, zO_ifCond_eq, zO_ifCond_ne, zO_ifCond_lt, zO_ifCond_ge, zO_ifCond_gt, zO_ifCond_le, zO_if_icmp_eq, zO_if_icmp_ne, zO_if_icmp_lt, zO_if_icmp_ge, zO_if_icmp_gt, zO_if_icmp_le, zO_getfield, zO_putfield, zO_iaload, zO_baload, zO_laload, zO_iastore, zO_bastore, zO_lastore, zO_arraylength, zO_invokevirtual, zO_lreturn, zO_areturn, zO_return_, zO_tableswitch, zO_lookupswitch, zO_is0, zO_is1, zO_is2, zO_is3, zO_is4, zO_is9, zO_is10, zO_is11, zO_is12, zO_ir1, zO_ir4, zB_c, zLd_0, zLd_s, zSt_c, zSt2_c, zU_c, zD_c, zY_c, zSw_n, zSw_c, zCall_c, zVirt_c, zP_0, zP_1, zP_2, zP_3, zP_4, zGet_n, zGet_z, zPut_n, zPut_z, zcw_n, zcw_0, zcw_1, zcw_2, List.length_cons, List.length_nil, List.take_succ_cons, List.take_zero, List.drop_succ_cons, List.drop_zero, List.reverse_cons, List.reverse_nil, List.nil_append, List.cons_append, List.append_nil, List.set_cons_zero, List.set_cons_succ, List.getD_cons_zero, List.getD_cons_succ, true_and, and_true, ne_eq, not_false_eq_true, not_true_eq_false, zif, Nat.reduceAdd, Nat.reduceLeDiff, Nat.reduceLT, Nat.reduceSub, Nat.reduceEqDiff, Nat.zero_le, Nat.lt_add_one, Nat.reduceMod, false_implies, true_implies, implies_true, forall_const, Int.reduceLE, Int.reduceLT, Int.reduceEq, Int.reduceNeg, ite10_0, ite10_1, zem, zem2, Classical.not_not, and_self, or_true, true_or, or_false, false_or, zT_15, zN_15, zGf_32_15, zPf_32_15, zGf_33_15, zAl_16, zAs_16, hs, hat ⟨k0, k1⟩]
      rw [zw_e (z := k + 1) (by omega) (by omega)]
      refine ⟨fun _ => ⟨fun e => ih _ ⟨zor_b sb (mkB_b _), fun m hm => ?_⟩, fun e => ih _ ⟨sb, fun m hm => ?_⟩⟩, fun e => absurd k1 e⟩
      · rw [tb_or sb (show 0 ≤ bga N n x k ∧ bga N n x k < 32 from mkB_b _) hm, hs2 m hm]
        unfold bga
        rw [mkB_t _ hm]
        refine ⟨fun q => ?_, fun q => ?_⟩
        · rcases q with (q | ⟨q1, i, j, q2, q3, q4⟩) | ⟨q1, i, q2, q3, q4⟩
          · exact Or.inl q
          · exact Or.inr ⟨q1, i, j, q2, ⟨q3.1, by have := q3.2; omega⟩, q4⟩
          · exact Or.inr ⟨q1, i, k, q2, ⟨k0, by omega⟩, q3, e, q4⟩
        · rcases q with q | ⟨q1, i, j, q2, q3, q4, q5, q6⟩
          · exact Or.inl (Or.inl q)
          · by_cases c : j = k
            · rw [c] at q6; exact Or.inr ⟨q1, i, q2, q4, q6⟩
            · exact Or.inl (Or.inr ⟨q1, i, j, q2, ⟨q3.1, by have := q3.2; omega⟩, q4, q5, q6⟩)
      · rw [hs2 m hm]
        refine ⟨fun q => ?_, fun q => ?_⟩
        · rcases q with q | ⟨q1, i, j, q2, q3, q4⟩
          · exact Or.inl q
          · exact Or.inr ⟨q1, i, j, q2, ⟨q3.1, by have := q3.2; omega⟩, q4⟩
        · rcases q with q | ⟨q1, i, j, q2, q3, q4, q5, q6⟩
          · exact Or.inl q
          · by_cases c : j = k
            · rw [c] at q5; exact absurd q5 e
            · exact Or.inr ⟨q1, i, j, q2, ⟨q3.1, by have := q3.2; omega⟩, q4, q5, q6⟩
    · rintro s ⟨sb, hs2⟩
      rw [u26_4]
      simp only [k26_4, e26, k26_0, u26_30, k26_30, u26_36, k26_36, zO_nop, zO_goto, zO_iload_n0, zO_iload_n1, zO_iload_n2, zO_iload_n3, zO_iload, zO_lload_n0, zO_lload_n1, zO_lload_n2, zO_lload_n3, zO_lload, zO_aload_n0, zO_aload_n1, zO_aload_n2, zO_aload_n3, zO_aload, zO_istore_n0, zO_istore_n1, zO_istore_n2, zO_istore_n3, zO_istore, zO_astore_n0, zO_astore_n1, zO_astore_n2, zO_astore_n3, zO_astore, zO_lstore, zO_iinc, zO_iconst, zO_bipush, zO_sipush, zO_lconst0, zO_lconst1, zO_ldc, zO_ldc2_w, zO_iadd, zO_isub, zO_imul, zO_idiv, zO_irem, zO_ineg, zO_iand, zO_ior, zO_ixor, zO_ishl, zO_ishr, zO_iushr, zO_ladd, zO_lmul, zO_land, zO_lor, zO_lshl, zO_lcmp, zO_i2l, zO_l2i, zO_i2b, zO_dup0, zO_dup2, zO_dup200, zO_dup202, zO_dup220, zO_dup222, zO_ifCond_eq, zO_ifCond_ne, zO_ifCond_lt, zO_ifCond_ge, zO_ifCond_gt, zO_ifCond_le, zO_if_icmp_eq, zO_if_icmp_ne, zO_if_icmp_lt, zO_if_icmp_ge, zO_if_icmp_gt, zO_if_icmp_le, zO_getfield, zO_putfield, zO_iaload, zO_baload, zO_laload, zO_iastore, zO_bastore, zO_lastore, zO_arraylength, zO_invokevirtual, zO_lreturn, zO_areturn, zO_return_, zO_tableswitch, zO_lookupswitch, zO_is0, zO_is1, zO_is2, zO_is3, zO_is4, zO_is9, zO_is10, zO_is11, zO_is12, zO_ir1, zO_ir4, zB_c, zLd_0, zLd_s, zSt_c, zSt2_c, zU_c, zD_c, zY_c, zSw_n, zSw_c, zCall_c, zVirt_c, zP_0, zP_1, zP_2, zP_3, zP_4, zGet_n, zGet_z, zPut_n, zPut_z, zcw_n, zcw_0, zcw_1, zcw_2, List.length_cons, List.length_nil, List.take_succ_cons, List.take_zero, List.drop_succ_cons, List.drop_zero, List.reverse_cons, List.reverse_nil, List.nil_append, List.cons_append, List.append_nil, List.set_cons_zero, List.set_cons_succ, List.getD_cons_zero, List.getD_cons_succ, true_and, and_true, ne_eq, not_false_eq_true, not_true_eq_false, zif, Nat.reduceAdd, Nat.reduceLeDiff, Nat.reduceLT, Nat.reduceSub, Nat.reduceEqDiff, Nat.zero_le, Nat.lt_add_one, Nat.reduceMod, false_implies, true_implies, implies_true, forall_const, Int.reduceLE, Int.reduceLT, Int.reduceEq, Int.reduceNeg, ite10_0, ite10_1, zem, zem2, Classical.not_not, and_self, or_true, true_or, or_false, false_or, zT_15, zN_15, zGf_32_15, zPf_32_15, zGf_33_15, zAl_16, zAs_16, hs]
      refine ⟨fun e => absurd e (by omega), fun _ => ?_⟩
      rw [← hQ]
      exact ⟨mkB_of sb hs2, rfl⟩
  simp only [e26, k26_0, zO_nop, zO_goto, zO_iload_n0, zO_iload_n1, zO_iload_n2, zO_iload_n3, zO_iload, zO_lload_n0, zO_lload_n1, zO_lload_n2, zO_lload_n3, zO_lload, zO_aload_n0, zO_aload_n1, zO_aload_n2, zO_aload_n3, zO_aload, zO_istore_n0, zO_istore_n1, zO_istore_n2, zO_istore_n3, zO_istore, zO_astore_n0, zO_astore_n1, zO_astore_n2, zO_astore_n3, zO_astore, zO_lstore, zO_iinc, zO_iconst, zO_bipush, zO_sipush, zO_lconst0, zO_lconst1, zO_ldc, zO_ldc2_w, zO_iadd, zO_isub, zO_imul, zO_idiv, zO_irem, zO_ineg, zO_iand, zO_ior, zO_ixor, zO_ishl, zO_ishr, zO_iushr, zO_ladd, zO_lmul, zO_land, zO_lor, zO_lshl, zO_lcmp, zO_i2l, zO_l2i, zO_i2b, zO_dup0, zO_dup2, zO_dup200, zO_dup202, zO_dup220, zO_dup222, zO_ifCond_eq, zO_ifCond_ne, zO_ifCond_lt, zO_ifCond_ge, zO_ifCond_gt, zO_ifCond_le, zO_if_icmp_eq, zO_if_icmp_ne, zO_if_icmp_lt, zO_if_icmp_ge, zO_if_icmp_gt, zO_if_icmp_le, zO_getfield, zO_putfield, zO_iaload, zO_baload, zO_laload, zO_iastore, zO_bastore, zO_lastore, zO_arraylength, zO_invokevirtual, zO_lreturn, zO_areturn, zO_return_, zO_tableswitch, zO_lookupswitch, zO_is0, zO_is1, zO_is2, zO_is3, zO_is4, zO_is9, zO_is10, zO_is11, zO_is12, zO_ir1, zO_ir4, zB_c, zLd_0, zLd_s, zSt_c, zSt2_c, zU_c, zD_c, zY_c, zSw_n, zSw_c, zCall_c, zVirt_c, zP_0, zP_1, zP_2, zP_3, zP_4, zGet_n, zGet_z, zPut_n, zPut_z, zcw_n, zcw_0, zcw_1, zcw_2, List.length_cons, List.length_nil, List.take_succ_cons, List.take_zero, List.drop_succ_cons, List.drop_zero, List.reverse_cons, List.reverse_nil, List.nil_append, List.cons_append, List.append_nil, List.set_cons_zero, List.set_cons_succ, List.getD_cons_zero, List.getD_cons_succ, true_and, and_true, ne_eq, not_false_eq_true, not_true_eq_false, zif, Nat.reduceAdd, Nat.reduceLeDiff, Nat.reduceLT, Nat.reduceSub, Nat.reduceEqDiff, Nat.zero_le, Nat.lt_add_one, Nat.reduceMod, false_implies, true_implies, implies_true, forall_const, Int.reduceLE, Int.reduceLT, Int.reduceEq, Int.reduceNeg, ite10_0, ite10_1, zem, zem2, Classical.not_not, and_self, or_true, true_or, or_false, false_or]
  exact hl 0 x (by omega) (by omega) ⟨hx, fun m hm => ⟨fun q => Or.inl q, fun q => by
    rcases q with q | ⟨-, i, j, -, q3, -⟩
    · exact q
    · have := q3.1; have := q3.2; omega⟩⟩
theorem wag_cl {N : Int → Int → Int → Int} {n x : Int} (hx : 0 ≤ x ∧ x < 32) (hn : n ≤ 5) : (tb x 0 ∧ wag N n x = x) ↔ clS N n x := by
  refine ⟨fun h => ⟨h.1, fun k hk q => ?_⟩, fun h => ⟨h.1, ?_⟩⟩
  · have k5 : 0 ≤ k ∧ k < 5 := ⟨hk.1, by have := hk.2; omega⟩
    have := (mkB_t (fun k => tb x k ∨ (k < n ∧ ∃ i j, zrg n i ∧ zrg n j ∧ tb x i ∧ tb x j ∧ 0 < N i j k)) k5).mpr (Or.inr ⟨hk.2, q⟩)
    have e : mkB (fun k => tb x k ∨ (k < n ∧ ∃ i j, zrg n i ∧ zrg n j ∧ tb x i ∧ tb x j ∧ 0 < N i j k)) = x := h.2
    rw [e] at this
    exact this
  · refine (mkB_of hx (fun k hk => ⟨fun q => Or.inl q, fun q => ?_⟩)).symm
    rcases q with q | ⟨q1, q2⟩
    · exact q
    · exact h.2 k ⟨hk.1, q1⟩ q2
theorem K_isClosed {d : Nat} {x : Int} {μ : zM} {P : Int → zM → Prop} (h : RF μ) (hx : 0 ≤ x ∧ x < 32) : zC (d + 6) 27 [(2, 15), (0, x)] μ P ↔ P (b01 (clS (xF μ) (μ 1 1) x)) μ := by
  refine zC_is ?_
  have hn := (Rel_n h.1).1
  have hw := wag_cl (N := xF μ) hx hn.2
  simp only [e27, k27_0, u27_20, k27_20, u27_21, k27_21, zO_nop, zO_goto, zO_iload_n0, zO_iload_n1, zO_iload_n2, zO_iload_n3, zO_iload, zO_lload_n0, zO_lload_n1, zO_lload_n2, zO_lload_n3, zO_lload, zO_aload_n0, zO_aload_n1, zO_aload_n2, zO_aload_n3, zO_aload, zO_istore_n0, zO_istore_n1, zO_istore_n2, zO_istore_n3, zO_istore, zO_astore_n0, zO_astore_n1, zO_astore_n2, zO_astore_n3, zO_astore, zO_lstore, zO_iinc, zO_iconst, zO_bipush, zO_sipush, zO_lconst0, zO_lconst1, zO_ldc, zO_ldc2_w, zO_iadd, zO_isub, zO_imul, zO_idiv, zO_irem, zO_ineg, zO_iand, zO_ior, zO_ixor, zO_ishl, zO_ishr, zO_iushr, zO_ladd, zO_lmul, zO_land, zO_lor, zO_lshl, zO_lcmp, zO_i2l, zO_l2i, zO_i2b, zO_dup0, zO_dup2, zO_dup200, zO_dup202, zO_dup220, zO_dup222, zO_ifCond_eq, zO_ifCond_ne, zO_ifCond_lt, zO_ifCond_ge, zO_ifCond_gt, zO_ifCond_le, zO_if_icmp_eq, zO_if_icmp_ne, zO_if_icmp_lt, zO_if_icmp_ge, zO_if_icmp_gt, zO_if_icmp_le, zO_getfield, zO_putfield, zO_iaload, zO_baload, zO_laload, zO_iastore, zO_bastore, zO_lastore, zO_arraylength, zO_invokevirtual, zO_lreturn, zO_areturn, zO_return_, zO_tableswitch, zO_lookupswitch, zO_is0, zO_is1, zO_is2, zO_is3, zO_is4, zO_is9, zO_is10, zO_is11, zO_is12, zO_ir1, zO_ir4, zB_c, zLd_0, zLd_s, zSt_c, zSt2_c, zU_c, zD_c, zY_c, zSw_n, zSw_c, zCall_c, zVirt_c, zP_0, zP_1, zP_2, zP_3, zP_4, zGet_n, zGet_z, zPut_n, zPut_z, zcw_n, zcw_0, zcw_1, zcw_2, List.length_cons, List.length_nil, List.take_succ_cons, List.take_zero, List.drop_succ_cons, List.drop_zero, List.reverse_cons, List.reverse_nil, List.nil_append, List.cons_append, List.append_nil, List.set_cons_zero, List.set_cons_succ, List.getD_cons_zero, List.getD_cons_succ, true_and, and_true, ne_eq, not_false_eq_true, not_true_eq_false, zif, Nat.reduceAdd, Nat.reduceLeDiff, Nat.reduceLT, Nat.reduceSub, Nat.reduceEqDiff, Nat.zero_le, Nat.lt_add_one, Nat.reduceMod, false_implies, true_implies, implies_true, forall_const, Int.reduceLE, Int.reduceLT, Int.reduceEq, Int.reduceNeg, ite10_0, ite10_1, zem, zem2, Classical.not_not, and_self, or_true, true_or, or_false, false_or, zT_15, zN_15, zGf_32_15, zPf_32_15, zGf_33_15, zAl_16, zAs_16, K_withAllGiven h hx, tb_one hx]
  refine ⟨fun e => ⟨fun e2 => ?_, fun e2 => ?_⟩, fun e => ?_⟩
  · rw [b01_y (hw.mp ⟨e, e2⟩)]
  · rw [b01_n (fun z => e2 (hw.mpr z).2)]
  · rw [b01_n (fun z => e z.1)]
