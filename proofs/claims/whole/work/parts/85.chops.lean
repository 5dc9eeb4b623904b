/-! character, squares -/
theorem chp_one {N : Int → Int → Int → Int} {n : Int} {v : Int → (Int → Int → Int) → Int} (hv : ∀ f X Y, (∀ r k, zrg f r → zrg n k → X r k = Y r k) → v f X = v f Y) {r r' : Int} (h : ∃ f X, chL N n f X ∧ r = v f X) (h' : ∃ f X, chL N n f X ∧ r' = v f X) : r = r' := by
  obtain ⟨f, X, h, e⟩ := h
  obtain ⟨f', X', h', e'⟩ := h'
  obtain ⟨q, g⟩ := chL_eq h h'
  subst q
  rw [e, e', hv f X X' g]
theorem chL_bd {N : Int → Int → Int → Int} {n f : Int} {X : Int → Int → Int} (hn : 1 ≤ n) (h : chL N n f X) : 0 ≤ f ∧ f ≤ n := ⟨h.1, ch_max hn h.2.1 h.2.2.1⟩
def chv (n i k f : Int) (X : Int → Int → Int) : Int := if i = -1 then f else if 0 ≤ i ∧ i < f ∧ 0 ≤ k ∧ k < n then X i k else -5
theorem RC_bd {u : zM} (h : RC u) : (1 ≤ u 1 1 ∧ u 1 1 ≤ 5) ∧ 0 ≤ u 19 0 ∧ u 19 0 ≤ u 1 1 := ⟨(Rel_n h.1).1, chL_bd (Rel_n h.1).1.1 (RC_L h)⟩
theorem zCh_Ca {μ u : zM} (f : zfr zCh μ u) : zfr zCa μ u := zfr_up f (by unfold zCh zCa zTm; decide)
theorem RC_k {μ u : zM} (f : zfr zCh μ u) : xF u = xF μ ∧ u 1 = μ 1 := ⟨xF_fr f (by decide) (by decide), zfr_c f (by decide)⟩
theorem RC_ex {μ u : zM} (hu : RC u) (f : zfr zCh μ u) {r : Int} {v : Int → (Int → Int → Int) → Int} (h : r = v (u 19 0) (fun r k => u 20 (5 * r + k))) : ∃ f X, chL (xF μ) (μ 1 1) f X ∧ r = v f X := by
  obtain ⟨a, b⟩ := RC_k f
  exact ⟨_, _, by rw [← a, ← b]; exact RC_L hu, h⟩
theorem K_isThere {d : Nat} {i : Int} {μ : zM} {P : Int → zM → Prop} : zC (d + 1) 0 [(2, 19), (0, i)] μ P ↔ P (if 0 ≤ i ∧ i < μ 19 0 then 1 else 0) μ := by
  simp only [e0, k0_0, u0_16, k0_16, u0_17, k0_17, zO_nop, zO_goto, zO_iload_n0, zO_iload_n1, zO_iload_n2, zO_iload_n3, zO_iload, zO_lload_n0, zO_lload_n1, zO_lload_n2, zO_lload_n3, zO_lload, zO_aload_n0, zO_aload_n1, zO_aload_n2, zO_aload_n3, zO_aload, zO_istore_n0, zO_istore_n1, zO_istore_n2, zO_istore_n3, zO_istore, zO_astore_n0, zO_astore_n1, zO_astore_n2, zO_astore_n3, zO_astore, zO_lstore, zO_iinc, zO_iconst, zO_bipush, zO_sipush, zO_lconst0, zO_lconst1, zO_ldc, zO_ldc2_w, zO_iadd, zO_isub, zO_imul, zO_idiv, zO_irem, zO_ineg, zO_iand, zO_ior, zO_ixor, zO_ishl, zO_ishr, zO_iushr, zO_ladd, zO_lmul, zO_land, zO_lor, zO_lshl, zO_lcmp, zO_i2l, zO_l2i, zO_i2b, zO_dup0, zO_dup2, zO_dup200, zO_dup202, zO_dup220, zO_dup222, zO_ifCond_eq, zO_ifCond_ne, zO_ifCond_lt, zO_ifCond_ge, zO_ifCond_gt, zO_ifCond_le, zO_if_icmp_eq, zO_if_icmp_ne, zO_if_icmp_lt, zO_if_icmp_ge, zO_if_icmp_gt, zO_if_icmp_le, zO_getfield, zO_putfield, zO_iaload, zO_baload, zO_laload, zO_iastore, zO_bastore, zO_lastore, zO_arraylength, zO_invokevirtual, zO_lreturn, zO_areturn, zO_return_, zO_tableswitch, zO_lookupswitch, zO_is0, zO_is1, zO_is2, zO_is3, zO_is4, zO_is9, zO_is10, zO_is11, zO_is12, zO_ir1, zO_ir4, zB_c, zLd_0, zLd_s, zSt_c, zSt2_c, zU_c, zD_c, zY_c, zSw_n, zSw_c, zCall_c, zVirt_c, zP_0, zP_1, zP_2, zP_3, zP_4, zGet_n, zGet_z, zPut_n, zPut_z, zcw_n, zcw_0, zcw_1, zcw_2, List.length_cons, List.length_nil, List.take_succ_cons, List.take_zero, List.drop_succ_cons, List.drop_zero, List.reverse_cons, List.reverse_nil, List.nil_append, List.cons_append, List.append_nil, List.set_cons_zero, List.set_cons_succ, List.getD_cons_zero, List.getD_cons_succ, true_and, and_true, ne_eq, not_false_eq_true, not_true_eq_false, zif, Nat.reduceAdd, Nat.reduceLeDiff, Nat.reduceLT, Nat.reduceSub, Nat.reduceEqDiff, Nat.zero_le, Nat.lt_add_one, Nat.reduceMod, false_implies, true_implies, implies_true, forall_const, Int.reduceLE, Int.reduceLT, Int.reduceEq, Int.reduceNeg, ite10_0, ite10_1, zem, zem2, Classical.not_not, and_self, or_true, true_or, or_false, false_or, zT_19, zN_19, zGf_0_19, zPf_0_19, zGf_1_19, zGf_2_19, zGf_3_19, zGf_4_19]
  grind
theorem K_numberOf {d : Nat} {i k : Int} {μ : zM} {P : Int → zM → Prop} (hi : 0 ≤ i ∧ i ≤ 4) (hk : 0 ≤ k ∧ k ≤ 4) : zC (d + 1) 1 [(2, 19), (0, i), (0, k)] μ P ↔ P (μ 20 (5 * i + k)) μ := by
  have e : zw (zw (i * 5) + k) = 5 * i + k := by simp (disch := omega) only [zw_e]; omega
  simp only [e1, k1_0, zO_nop, zO_goto, zO_iload_n0, zO_iload_n1, zO_iload_n2, zO_iload_n3, zO_iload, zO_lload_n0, zO_lload_n1, zO_lload_n2, zO_lload_n3, zO_lload, zO_aload_n0, zO_aload_n1, zO_aload_n2, zO_aload_n3, zO_aload, zO_istore_n0, zO_istore_n1, zO_istore_n2, zO_istore_n3, zO_istore, zO_astore_n0, zO_astore_n1, zO_astore_n2, zO_astore_n3, zO_astore, zO_lstore, zO_iinc, zO_iconst, zO_bipush, zO_sipush, zO_lconst0, zO_lconst1, zO_ldc, zO_ldc2_w, zO_iadd, zO_isub, zO_imul, zO_idiv, zO_irem, zO_ineg, zO_iand, zO_ior, zO_ixor, zO_ishl, zO_ishr, zO_iushr, zO_ladd, zO_lmul, zO_land, zO_lor, zO_lshl, zO_lcmp, zO_i2l, zO_l2i, zO_i2b, zO_dup0, zO_dup2, zO_dup200, zO_dup202, zO_dup220, zO_dup222, zO_ifCond_eq, zO_ifCond_ne, zO_ifCond_lt, zO_ifCond_ge, zO_ifCond_gt, zO_ifCond_le, zO_if_icmp_eq, zO_if_icmp_ne, zO_if_icmp_lt, zO_if_icmp_ge, zO_if_icmp_gt, zO_if_icmp_le, zO_getfield, zO_putfield, zO_iaload, zO_baload, zO_laload, zO_iastore, zO_bastore, zO_lastore, zO_arraylength, zO_invokevirtual, zO_lreturn, zO_areturn, zO_return_, zO_tableswitch, zO_lookupswitch, zO_is0, zO_is1, zO_is2, zO_is3, zO_is4, zO_is9, zO_is10, zO_is11, zO_is12, zO_ir1, zO_ir4, zB_c, zLd_0, zLd_s, zSt_c, zSt2_c, zU_c, zD_c, zY_c, zSw_n, zSw_c, zCall_c, zVirt_c, zP_0, zP_1, zP_2, zP_3, zP_4, zGet_n, zGet_z, zPut_n, zPut_z, zcw_n, zcw_0, zcw_1, zcw_2, List.length_cons, List.length_nil, List.take_succ_cons, List.take_zero, List.drop_succ_cons, List.drop_zero, List.reverse_cons, List.reverse_nil, List.nil_append, List.cons_append, List.append_nil, List.set_cons_zero, List.set_cons_succ, List.getD_cons_zero, List.getD_cons_succ, true_and, and_true, ne_eq, not_false_eq_true, not_true_eq_false, zif, Nat.reduceAdd, Nat.reduceLeDiff, Nat.reduceLT, Nat.reduceSub, Nat.reduceEqDiff, Nat.zero_le, Nat.lt_add_one, Nat.reduceMod, false_implies, true_implies, implies_true, forall_const, Int.reduceLE, Int.reduceLT, Int.reduceEq, Int.reduceNeg, ite10_0, ite10_1, zem, zem2, Classical.not_not, and_self, or_true, true_or, or_false, false_or, zT_19, zN_19, zGf_0_19, zPf_0_19, zGf_1_19, zGf_2_19, zGf_3_19, zGf_4_19, zAl_20, zAs_20, e]
  refine ⟨fun h => h.2.2, fun h => ⟨by omega, by omega, h⟩⟩
theorem op_character (a1 a2 : Int) : zOp 66 151 [(0, a1), (0, a2)] := by
  refine zOp_q (fun μ r => rgd (0 ≤ a1 → 0 ≤ a2 ∧ a2 < μ 1 1) (fun r => ∃ f X, chL (xF μ) (μ 1 1) f X ∧ r = chv (μ 1 1) a1 a2 f X) (-1) r) (fun μ r r' => rgd_one fun r r' => chp_one fun f X Y g => ?_) ?_ ?_ ?_
  · unfold chv
    by_cases w : 0 ≤ a1 ∧ a1 < f ∧ 0 ≤ a2 ∧ a2 < μ 1 1
    · rw [if_pos w, if_pos w, g _ _ ⟨w.1, w.2.1⟩ w.2.2]
    · rw [if_neg w, if_neg w]
  · intro μ hr
    generalize hQ : (fun (r : Int) (u : zM) => rgd (0 ≤ a1 → 0 ≤ a2 ∧ a2 < μ 1 1) (fun r => ∃ f X, chL (xF μ) (μ 1 1) f X ∧ r = chv (μ 1 1) a1 a2 f X) (-1) r ∧ Rel u ∧ zfr zCa μ u) = Q
    have no : ¬ (0 ≤ a1 → 0 ≤ a2 ∧ a2 < μ 1 1) → Q (-1) μ := fun h => by rw [← hQ]; exact ⟨rgd_n h, hr, zfr_rf⟩
    have fin : (0 ≤ a1 → 0 ≤ a2 ∧ a2 < μ 1 1) → ∀ u, RC u → zfr zCh μ u → ∀ r, r = chv (μ 1 1) a1 a2 (u 19 0) (fun r k => u 20 (5 * r + k)) → Q r u := fun hv u hu f r h => by
      rw [← hQ]
      exact ⟨rgd_y hv (RC_ex hu f h), hu.1, zCh_Ca f⟩
    have cont : (0 ≤ a1 → 0 ≤ a2 ∧ a2 < μ 1 1) → ¬ a1 = -1 → zC 39 98 [(2, 0)] μ (fun r μ' => (zT r = 3 ∧ zN r = 0) ∧ zC 39 0 [(2, r), (0, a1)] μ' fun r_1 μ' => (r_1 = 0 → Q (-5) μ') ∧ (¬r_1 = 0 → (zT r = 3 ∧ zN r = 0) ∧ zC 39 1 [(2, r), (0, a1), (0, a2)] μ' Q)) := by
      intro hv h1
      refine zuse (K_cC (d := 26) hr) ?_
      rintro r u ⟨rfl, hu, f⟩
      have b := RC_bd hu
      have c1 := (RC_k f).2
      refine ⟨by decide, ?_⟩
      rw [K_isThere]
      refine ⟨fun e => fin hv u hu f _ ?_, fun e => ⟨by decide, ?_⟩⟩
      · unfold chv
        rw [if_neg h1, if_neg (fun z => by rw [if_pos ⟨z.1, z.2.1⟩] at e; exact absurd e (by decide))]
      · have e2 : 0 ≤ a1 ∧ a1 < u 19 0 := by
          refine Classical.byContradiction fun z => e ?_
          rw [if_neg z]
        have h2 := hv e2.1
        rw [c1] at b
        rw [K_numberOf ⟨e2.1, by omega⟩ ⟨h2.1, by omega⟩]
        refine fin hv u hu f _ ?_
        unfold chv
        rw [if_neg h1, if_pos ⟨e2.1, e2.2, h2⟩]
    simp only [e66, k66_0, u66_13, k66_13, u66_27, k66_27, u66_49, k66_49, u66_51, k66_51, zO_nop, zO_goto, zO_iload_n0, zO_iload_n1, zO_iload_n2, zO_iload_n3, zO_iload, zO_lload_n0, zO_lload_n1, zO_lload_n2, zO_lload_n3, zO_lload, zO_aload_n0, zO_aload_n1, zO_aload_n2, zO_aload_n3, zO_aload, zO_istore_n0, zO_istore_n1, zO_istore_n2, zO_istore_n3, zO_istore, zO_astore_n0, zO_astore_n1, zO_astore_n2, zO_astore_n3, zO_astore, zO_lstore, zO_iinc, zO_iconst, zO_bipush, zO_sipush, zO_lconst0, zO_lconst1, zO_ldc, zO_ldc2_w, zO_iadd, zO_isub, zO_imul, zO_idiv, zO_irem, zO_ineg, zO_iand, zO_ior, zO_ixor, zO_ishl, zO_ishr, zO_iushr, zO_ladd, zO_lmul, zO_land, zO_lor, zO_lshl, zO_lcmp, zO_i2l, zO_l2i, zO_i2b, zO_dup0, zO_dup2, zO_dup200, zO_dup202, zO_dup220, zO_dup222, zO_ifCond_eq, zO_ifCond_ne, zO_ifCond_lt, zO_ifCond_ge, zO_ifCond_gt, zO_ifCond_le, zO_if_icmp_eq, zO_if_icmp_ne, zO_if_icmp_lt, zO_if_icmp_ge, zO_if_icmp_gt, zO_if_icmp_le, zO_getfield, zO_putfield, zO_iaload, zO_baload, zO_laload, zO_iastore, zO_bastore, zO_lastore, zO_arraylength, zO_invokevirtual, zO_lreturn, zO_areturn, zO_return_, zO_tableswitch, zO_lookupswitch, zO_is0, zO_is1, zO_is2, zO_is3, zO_is4, zO_is9, zO_is10, zO_is11, zO_is12, zO_ir1, zO_ir4, zB_c, zLd_0, zLd_s, zSt_c, zSt2_c, zU_c, zD_c, zY_c, zSw_n, zSw_c, zCall_c, zVirt_c, zP_0, zP_1, zP_2, zP_3, zP_4, zGet_n, zGet_z, zPut_n, zPut_z, zcw_n, zcw_0, zcw_1, zcw_2, List.length_cons, List.length_nil, List.take_succ_cons, List.take_zero, List.drop_succ_cons, List.drop_zero, List.reverse_cons, List.reverse_nil, List.nil_append, List.cons_append, List.append_nil, List.set_cons_zero, List.set_cons_succ, List.getD_cons_zero, List.getD_cons_succ, true_and, and_true, ne_eq, not_false_eq_true, not_true_eq_false, zif, Nat.reduceAdd, Nat.reduceLeDiff, Nat.reduceLT, Nat.reduceSub, Nat.reduceEqDiff, Nat.zero_le, Nat.lt_add_one, Nat.reduceMod, false_implies, true_implies, implies_true, forall_const, Int.reduceLE, Int.reduceLT, Int.reduceEq, Int.reduceNeg, ite10_0, ite10_1, zem, zem2, Classical.not_not, and_self, or_true, true_or, or_false, false_or, zT_0, zN_0, zGf_160_0, zGf_161_0, zGf_162_0, zPf_162_0, zGf_163_0, zGf_164_0, zGf_165_0, zGf_166_0, zGf_167_0, zPf_167_0, zGf_168_0, zPf_168_0, zGf_169_0, zGf_170_0, zGf_171_0, zPf_171_0, zGf_172_0, zGf_173_0, zGf_174_0, zGf_175_0, zGf_176_0, K_isSort]
    refine ⟨fun h1 => zuse (K_cC (d := 26) hr) ?_, fun h1 => ⟨fun h2 => cont (by omega) h1, fun h2 => ⟨fun h3 => no fun z => h3 (z (by omega)), fun h3 => cont (fun _ => h3) h1⟩⟩⟩
    rintro r u ⟨rfl, hu, f⟩
    simp only [zO_nop, zO_goto, zO_iload_n0, zO_iload_n1, zO_iload_n2, zO_iload_n3, zO_iload, zO_lload_n0, zO_lload_n1, zO_lload_n2, zO_lload_n3, zO_lload, zO_aload_n0, zO_aload_n1, zO_aload_n2, zO_aload_n3, zO_aload, zO_istore_n0, zO_istore_n1, zO_istore_n2, zO_istore_n3, zO_istore, zO_astore_n0, zO_astore_n1, zO_astore_n2, zO_astore_n3, zO_astore, zO_lstore, zO_iinc, zO_iconst, zO_bipush, zO_sipush, zO_lconst0, zO_lconst1, zO_ldc, zO_ldc2_w, zO_iadd, zO_isub, zO_imul, zO_idiv, zO_irem, zO_ineg, zO_iand, zO_ior, zO_ixor, zO_ishl, zO_ishr, zO_iushr, zO_ladd, zO_lmul, zO_land, zO_lor, zO_lshl, zO_lcmp, zO_i2l, zO_l2i, zO_i2b, zO_dup0, zO_dup2, zO_dup200, zO_dup202, zO_dup220, zO_dup222, zO_ifCond_eq, zO_ifCond_ne, zO_ifCond_lt, zO_ifCond_ge, zO_ifCond_gt, zO_ifCond_le, zO_if_icmp_eq, zO_if_icmp_ne, zO_if_icmp_lt, zO_if_icmp_ge, zO_if_icmp_gt, zO_if_icmp_le, zO_getfield, zO_putfield, zO_iaload, zO_baload, zO_laload, zO_iastore, zO_bastore, zO_lastore, zO_arraylength, zO_invokevirtual, zO_lreturn, zO_areturn, zO_return_, zO_tableswitch, zO_lookupswitch, zO_is0, zO_is1, zO_is2, zO_is3, zO_is4, zO_is9, zO_is10, zO_is11, zO_is12, zO_ir1, zO_ir4, zB_c, zLd_0, zLd_s, zSt_c, zSt2_c, zU_c, zD_c, zY_c, zSw_n, zSw_c, zCall_c, zVirt_c, zP_0, zP_1, zP_2, zP_3, zP_4, zGet_n, zGet_z, zPut_n, zPut_z, zcw_n, zcw_0, zcw_1, zcw_2, List.length_cons, List.length_nil, List.take_succ_cons, List.take_zero, List.drop_succ_cons, List.drop_zero, List.reverse_cons, List.reverse_nil, List.nil_append, List.cons_append, List.append_nil, List.set_cons_zero, List.set_cons_succ, List.getD_cons_zero, List.getD_cons_succ, true_and, and_true, ne_eq, not_false_eq_true, not_true_eq_false, zif, Nat.reduceAdd, Nat.reduceLeDiff, Nat.reduceLT, Nat.reduceSub, Nat.reduceEqDiff, Nat.zero_le, Nat.lt_add_one, Nat.reduceMod, false_implies, true_implies, implies_true, forall_const, Int.reduceLE, Int.reduceLT, Int.reduceEq, Int.reduceNeg, ite10_0, ite10_1, zem, zem2, Classical.not_not, and_self, or_true, true_or, or_false, false_or, zT_19, zN_19, zGf_0_19, zPf_0_19, zGf_1_19, zGf_2_19, zGf_3_19, zGf_4_19]
    refine fin (by omega) u hu f _ ?_
    unfold chv
    rw [if_pos h1]
  · intro μ hr
    generalize hQ : (fun (r : Int) (u : zM) => rgd (0 ≤ a1 → 0 ≤ a2 ∧ a2 < μ 1 1) (fun r => ∃ f X, chL (xF μ) (μ 1 1) f X ∧ r = chv (μ 1 1) a1 a2 f X) (-1) r ∧ zfr zTm μ u) = Q
    have no : ¬ (0 ≤ a1 → 0 ≤ a2 ∧ a2 < μ 1 1) → Q (-1) μ := fun h => by rw [← hQ]; exact ⟨rgd_n h, zfr_rf⟩
    have fin : (0 ≤ a1 → 0 ≤ a2 ∧ a2 < μ 1 1) → ∀ u, zfr trF μ u → chL (xF μ) (μ 1 1) (u 39 12) (xs u) → ∀ r, r = chv (μ 1 1) a1 a2 (u 39 12) (xs u) → Q r u := fun hv u f hL r h => by
      rw [← hQ]
      exact ⟨rgd_y hv ⟨_, _, hL, h⟩, zfr_up f (by unfold trF zTm; decide)⟩
    have hn := (Rel_n hr).1
    have cont : (0 ≤ a1 → 0 ≤ a2 ∧ a2 < μ 1 1) → zC 39 150 [(2, 39)] μ (fun r μ' => (a1 = -1 → Q (μ' 39 12) μ') ∧ (¬a1 = -1 → zC 39 108 [(1, a1), (1, 0), (1, zw (μ' 39 12 - 1))] μ' fun r μ' => (r = 0 → Q (-5) μ') ∧ (¬r = 0 → zAld 0 46 (zw (zw (5 * a1) + a2)) μ' fun v => Q v μ'))) := by
      intro hv
      refine zuse (L_finds (d := 28) (RN_of hr)) ?_
      rintro r u ⟨f, hL⟩
      have b := chL_bd hn.1 hL
      refine ⟨fun h1 => fin hv u f hL _ (by unfold chv; rw [if_pos h1]), fun h1 => ?_⟩
      rw [L_in, zw_e (z := u 39 12 - 1) (by omega) (by omega)]
      refine ⟨fun e => fin hv u f hL _ ?_, fun e => ?_⟩
      · unfold chv
        rw [if_neg h1, if_neg (fun z => by rw [if_pos ⟨z.1, by omega⟩] at e; exact absurd e (by decide))]
      · have e2 : 0 ≤ a1 ∧ a1 ≤ u 39 12 - 1 := by
          refine Classical.byContradiction fun z => e ?_
          rw [if_neg z]
        have h2 := hv e2.1
        have e3 : zw (zw (5 * a1) + a2) = 5 * a1 + a2 := by simp (disch := omega) only [zw_e]
        simp only [zAl_46, zAs_46, e3]
        refine ⟨by omega, by omega, fin hv u f hL _ ?_⟩
        unfold chv xs
        rw [if_neg h1, if_pos ⟨e2.1, by omega, h2⟩, if_pos (by omega)]
    simp only [e151, k151_0, u151_14, k151_14, u151_30, k151_30, u151_59, k151_59, u151_61, k151_61, zO_nop, zO_goto, zO_iload_n0, zO_iload_n1, zO_iload_n2, zO_iload_n3, zO_iload, zO_lload_n0, zO_lload_n1, zO_lload_n2, zO_lload_n3, zO_lload, zO_aload_n0, zO_aload_n1, zO_aload_n2, zO_aload_n3, zO_aload, zO_istore_n0, zO_istore_n1, zO_istore_n2, zO_istore_n3, zO_istore, zO_astore_n0, zO_astore_n1, zO_astore_n2, zO_astore_n3, zO_astore, zO_lstore, zO_iinc, zO_iconst, zO_bipush, zO_sipush, zO_lconst0, zO_lconst1, zO_ldc, zO_ldc2_w, zO_iadd, zO_isub, zO_imul, zO_idiv, zO_irem, zO_ineg, zO_iand, zO_ior, zO_ixor, zO_ishl, zO_ishr, zO_iushr, zO_ladd, zO_lmul, zO_land, zO_lor, zO_lshl, zO_lcmp, zO_i2l, zO_l2i, zO_i2b, zO_dup0, zO_dup2, zO_dup200, zO_dup202, zO_dup220, zO_dup222, zO_ifCond_eq, zO_ifCond_ne, zO_ifCond_lt, zO_ifCond_ge, zO_ifCond_gt, zO_ifCond_le, zO_if_icmp_eq, zO_if_icmp_ne, zO_if_icmp_lt, zO_if_icmp_ge, zO_if_icmp_gt, zO_if_icmp_le, zO_getfield, zO_putfield, zO_iaload, zO_baload, zO_laload, zO_iastore, zO_bastore, zO_lastore, zO_arraylength, zO_invokevirtual, zO_lreturn, zO_areturn, zO_return_, zO_tableswitch, zO_lookupswitch, zO_is0, zO_is1, zO_is2, zO_is3, zO_is4, zO_is9, zO_is10, zO_is11, zO_is12, zO_ir1, zO_ir4, zB_c, zLd_0, zLd_s, zSt_c, zSt2_c, zU_c, zD_c, zY_c, zSw_n, zSw_c, zCall_c, zVirt_c, zP_0, zP_1, zP_2, zP_3, zP_4, zGet_n, zGet_z, zPut_n, zPut_z, zcw_n, zcw_0, zcw_1, zcw_2, List.length_cons, List.length_nil, List.take_succ_cons, List.take_zero, List.drop_succ_cons, List.drop_zero, List.reverse_cons, List.reverse_nil, List.nil_append, List.cons_append, List.append_nil, List.set_cons_zero, List.set_cons_succ, List.getD_cons_zero, List.getD_cons_succ, true_and, and_true, ne_eq, not_false_eq_true, not_true_eq_false, zif, Nat.reduceAdd, Nat.reduceLeDiff, Nat.reduceLT, Nat.reduceSub, Nat.reduceEqDiff, Nat.zero_le, Nat.lt_add_one, Nat.reduceMod, false_implies, true_implies, implies_true, forall_const, Int.reduceLE, Int.reduceLT, Int.reduceEq, Int.reduceNeg, ite10_0, ite10_1, zem, zem2, Classical.not_not, and_self, or_true, true_or, or_false, false_or, zT_39, zN_39, zGf_192_39, zGf_193_39, zGf_194_39, zPf_194_39, zGf_195_39, zGf_196_39, zGf_197_39, zGf_198_39, zPf_198_39, zGf_199_39, zPf_199_39, zGf_200_39, zPf_200_39, zGf_201_39, zGf_202_39, zPf_202_39, zGf_203_39, zGf_204_39, zPf_204_39, zGf_205_39, zGf_206_39, zGf_207_39, zGf_208_39, zGf_209_39, zGf_210_39, zGf_211_39, zGf_212_39, zGf_213_39, zGf_214_39, zPf_214_39, zGf_215_39, zGf_216_39, L_isSort2 hr]
    exact ⟨fun h2 => cont (by omega), fun h2 => ⟨fun h3 => no fun z => h3 (z (by omega)), fun h3 => cont (fun _ => h3)⟩⟩
  · intro μ u r f h
    have e1 : u 1 = μ 1 := zfr_c f (by decide)
    have e2 : xF u = xF μ := xF_fr f (by decide) (by decide)
    rw [e1, e2] at h
    exact h
