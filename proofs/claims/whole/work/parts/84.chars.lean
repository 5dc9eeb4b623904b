/-! characters: both sides' lists; character, squares -/
theorem zfr_wd {S T : List (Int × Int)} {μ u : zM} (h : zfr S μ u) (hs : ∀ x ∈ S, x ∈ T ∨ (x.1, -1) ∈ T) : zfr T μ u := fun a i ha => h a i (by
  unfold zfq at ha ⊢
  rw [List.any_eq_false] at ha ⊢
  intro x hx hb
  rcases hs x hx with q | q
  · exact ha x q hb
  · simp only [Bool.and_eq_true, beq_iff_eq] at hb
    refine ha _ q ?_
    simp [hb.1])
theorem K_find {d : Nat} {n : Int} {N : Int → Int → Int → Int} {μ : zM} (hn : 1 ≤ n ∧ n ≤ 5) (hN : ∀ i j k, zrg n i → zrg n j → zrg n k → 0 ≤ N i j k ∧ N i j k ≤ 9) (N1 : zN1 n N) (hm : μ 15 0 = n) (hF : zFu 16 n N μ) : zC (d + 11) 3 [(2, 19), (2, 15)] μ (fun _ u => zfr chF μ u ∧ chL N n (u 19 0) (xr u)) := by
  simp only [e3, k3_0, zO_nop, zO_goto, zO_iload_n0, zO_iload_n1, zO_iload_n2, zO_iload_n3, zO_iload, zO_lload_n0, zO_lload_n1, zO_lload_n2, zO_lload_n3, zO_lload, zO_aload_n0, zO_aload_n1, zO_aload_n2, zO_aload_n3, zO_aload, zO_istore_n0, zO_istore_n1, zO_istore_n2, zO_istore_n3, zO_istore, zO_astore_n0, zO_astore_n1, zO_astore_n2, zO_astore_n3, zO_astore, zO_lstore, zO_iinc, zO_iconst, zO_bipush, zO_sipush, zO_lconst0, zO_lconst1, zO_ldc, zO_ldc2_w, zO_iadd, zO_isub, zO_imul, zO_idiv, zO_irem, zO_ineg, zO_iand, zO_ior, zO_ixor, zO_ishl, zO_ishr, zO_iushr, zO_ladd, zO_lmul, zO_land, zO_lor, zO_lshl, zO_lcmp, zO_i2l, zO_l2i, zO_i2b, zO_dup0, zO_dup2, zO_dup200, zO_dup202, zO_dup220, zO_dup222, zO_ifCond_eq, zO_ifCond_ne, zO_ifCond_lt, zO_ifCond_ge, zO_ifCond_gt, zO_ifCond_le, zO_if_icmp_eq, zO_if_icmp_ne, zO_if_icmp_lt, zO_if_icmp_ge, zO_if_icmp_gt, zO_if_icmp_le, zO_getfield, zO_putfield, zO_iaload, zO_baload, zO_laload, zO_iastore, zO_bastore, zO_lastore, zO_arraylength, zO_invokevirtual, zO_lreturn, zO_areturn, zO_return_, zO_tableswitch, zO_lookupswitch, zO_is0, zO_is1, zO_is2, zO_is3, zO_is4, zO_is9, zO_is10, zO_is11, zO_is12, zO_ir1, zO_ir4, zB_c, zLd_0, zLd_s, zSt_c, zSt2_c, zU_c, zD_c, zY_c, zSw_n, zSw_c, zCall_c, zVirt_c, zP_0, zP_1, zP_2, zP_3, zP_4, zGet_n, zGet_z, zPut_n, zPut_z, zcw_n, zcw_0, zcw_1, zcw_2, List.length_cons, List.length_nil, List.take_succ_cons, List.take_zero, List.drop_succ_cons, List.drop_zero, List.reverse_cons, List.reverse_nil, List.nil_append, List.cons_append, List.append_nil, List.set_cons_zero, List.set_cons_succ, List.getD_cons_zero, List.getD_cons_succ, true_and, and_true, ne_eq, not_false_eq_true, not_true_eq_false, zif, Nat.reduceAdd, Nat.reduceLeDiff, Nat.reduceLT, Nat.reduceSub, Nat.reduceEqDiff, Nat.zero_le, Nat.lt_add_one, Nat.reduceMod, false_implies, true_implies, implies_true, forall_const, Int.reduceLE, Int.reduceLT, Int.reduceEq, Int.reduceNeg, ite10_0, ite10_1, zem, zem2, Classical.not_not, and_self, or_true, true_or, or_false, false_or, zT_19, zN_19, zGf_0_19, zPf_0_19, zGf_1_19, zGf_2_19, zGf_3_19, zGf_4_19, zAl_21, zAs_21]
  generalize hu1 : zu (zu μ 19 0 0) 21 0 1 = u1
  have f1 : zfr chF μ u1 := by rw [← hu1]; exact zfr_u (zfr_u zfr_rf (by decide)) (by unfold chF; decide)
  have a19 : u1 19 0 = 0 := by rw [← hu1, zu_ne (by omega), zu_at]
  have a21 : u1 21 0 = 1 := by rw [← hu1, zu_at]
  refine zuse (K_fillI23 (d := d + 9)) ?_
  rintro r u ⟨_, f, g⟩
  obtain ⟨m, hm1, hm2⟩ : ∃ m : Nat, (1 : Int) = n - m ∧ m ≤ 4 := ⟨(n - 1).toNat, by omega, by omega⟩
  have b19 : u 19 0 = 0 := by rw [zfr_c f (by decide)]; exact a19
  have b21 : u 21 0 = 1 := by rw [zfr_c f (by decide)]; exact a21
  have ff : zfr chF μ u := zfr_tr f1 (zfr_up f (by decide))
  have h := K_choose hn hN N1 m (d + 5 - m) 1 (fun _ => 1) u hm1 (by omega) (by rw [zfr_c ff (by decide)]; exact hm) (by unfold zFu at hF ⊢; rw [zfr_c ff (by decide)]; exact hF) (by
    refine ⟨fun i hi => ?_, fun s a b => Or.inl ?_⟩
    · have h1 := hi.1
      have h2 := hi.2
      show 0 ≤ u 23 _ ∧ u 23 _ ≤ 30
      rw [g _ (by omega) (by omega)]; omega
    · show u 23 _ = 0
      exact g _ (by omega) (by omega)) (fun χ _ => ⟨fun _ k a b => by omega, fun _ s a b => Or.inl (g _ (by omega) (by omega))⟩) rfl (fun k k0 k1 => ⟨by omega, by rw [show k = 0 by omega]; exact b21⟩) (by rw [b19]; exact ⟨by omega, fun r hr => by have := hr.1; have := hr.2; omega, fun r s a b c => by omega⟩)
  rw [show d + 5 - m + 5 + m = d + 10 by omega] at h
  refine zuse h ?_
  rintro x w ⟨f2, _, _, _, hW⟩
  rw [b19] at hW
  refine ⟨zfr_tr ff f2, chW_L hW fun χ h k a b => ?_⟩
  rw [show k = 0 by omega]
  exact h.1
def RC (μ : zM) : Prop := Rel μ ∧ μ 0 8 = 1
theorem RC_L {μ : zM} (h : RC μ) : chL (xF μ) (μ 1 1) (μ 19 0) (fun r k => μ 20 (5 * r + k)) := (h.1.2.2.2.2.2.2.2.2 h.2).2
def zCh : List (Int × Int) := (0, 7) :: (0, 8) :: (15, -1) :: (16, -1) :: (19, -1) :: (20, -1) :: (21, -1) :: (22, -1) :: (23, -1) :: []
theorem K_cC {d : Nat} {μ : zM} (hr : Rel μ) : zC (d + 13) 98 [(2, 0)] μ (fun r u => r = 19 ∧ RC u ∧ zfr zCh μ u) := by
  have h8 := hr.2.2.2.2.2.2.1
  by_cases h : μ 0 8 = 1
  · simp only [e98, k98_0, u98_23, k98_23, zO_nop, zO_goto, zO_iload_n0, zO_iload_n1, zO_iload_n2, zO_iload_n3, zO_iload, zO_lload_n0, zO_lload_n1, zO_lload_n2, zO_lload_n3, zO_lload, zO_aload_n0, zO_aload_n1, zO_aload_n2, zO_aload_n3, zO_aload, zO_istore_n0, zO_istore_n1, zO_istore_n2, zO_istore_n3, zO_istore, zO_astore_n0, zO_astore_n1, zO_astore_n2, zO_astore_n3, zO_astore, zO_lstore, zO_iinc, zO_iconst, zO_bipush, zO_sipush, zO_lconst0, zO_lconst1, zO_ldc, zO_ldc2_w, zO_iadd, zO_isub, zO_imul, zO_idiv, zO_irem, zO_ineg, zO_iand, zO_ior, zO_ixor, zO_ishl, zO_ishr, zO_iushr, zO_ladd, zO_lmul, zO_land, zO_lor, zO_lshl, zO_lcmp, zO_i2l, zO_l2i, zO_i2b, zO_dup0, zO_dup2, zO_dup200, zO_dup202, zO_dup220, zO_dup222, zO_ifCond_eq, zO_ifCond_ne, zO_ifCond_lt, zO_ifCond_ge, zO_ifCond_gt, zO_ifCond_le, zO_if_icmp_eq, zO_if_icmp_ne, zO_if_icmp_lt, zO_if_icmp_ge, zO_if_icmp_gt, zO_if_icmp_le, zO_getfield, zO_putfield, zO_iaload, zO_baload, zO_laload, zO_iastore, zO_bastore, zO_lastore, zO_arraylength, zO_invokevirtual, zO_lreturn, zO_areturn, zO_return_, zO_tableswitch, zO_lookupswitch, zO_is0, zO_is1, zO_is2, zO_is3, zO_is4, zO_is9, zO_is10, zO_is11, zO_is12, zO_ir1, zO_ir4, zB_c, zLd_0, zLd_s, zSt_c, zSt2_c, zU_c, zD_c, zY_c, zSw_n, zSw_c, zCall_c, zVirt_c, zP_0, zP_1, zP_2, zP_3, zP_4, zGet_n, zGet_z, zPut_n, zPut_z, zcw_n, zcw_0, zcw_1, zcw_2, List.length_cons, List.length_nil, List.take_succ_cons, List.take_zero, List.drop_succ_cons, List.drop_zero, List.reverse_cons, List.reverse_nil, List.nil_append, List.cons_append, List.append_nil, List.set_cons_zero, List.set_cons_succ, List.getD_cons_zero, List.getD_cons_succ, true_and, and_true, ne_eq, not_false_eq_true, not_true_eq_false, zif, Nat.reduceAdd, Nat.reduceLeDiff, Nat.reduceLT, Nat.reduceSub, Nat.reduceEqDiff, Nat.zero_le, Nat.lt_add_one, Nat.reduceMod, false_implies, true_implies, implies_true, forall_const, Int.reduceLE, Int.reduceLT, Int.reduceEq, Int.reduceNeg, ite10_0, ite10_1, zem, zem2, Classical.not_not, and_self, or_true, true_or, or_false, false_or, zT_0, zN_0, zGf_160_0, zGf_161_0, zGf_162_0, zPf_162_0, zGf_163_0, zGf_164_0, zGf_165_0, zGf_166_0, zGf_167_0, zPf_167_0, zGf_168_0, zPf_168_0, zGf_169_0, zGf_170_0, zGf_171_0, zPf_171_0, zGf_172_0, zGf_173_0, zGf_174_0, zGf_175_0, zGf_176_0, h]
    exact ⟨⟨hr, h⟩, zfr_rf⟩
  · have h0 : μ 0 8 = 0 := by omega
    simp only [e98, k98_0, zO_nop, zO_goto, zO_iload_n0, zO_iload_n1, zO_iload_n2, zO_iload_n3, zO_iload, zO_lload_n0, zO_lload_n1, zO_lload_n2, zO_lload_n3, zO_lload, zO_aload_n0, zO_aload_n1, zO_aload_n2, zO_aload_n3, zO_aload, zO_istore_n0, zO_istore_n1, zO_istore_n2, zO_istore_n3, zO_istore, zO_astore_n0, zO_astore_n1, zO_astore_n2, zO_astore_n3, zO_astore, zO_lstore, zO_iinc, zO_iconst, zO_bipush, zO_sipush, zO_lconst0, zO_lconst1, zO_ldc, zO_ldc2_w, zO_iadd, zO_isub, zO_imul, zO_idiv, zO_irem, zO_ineg, zO_iand, zO_ior, zO_ixor, zO_ishl, zO_ishr, zO_iushr, zO_ladd, zO_lmul, zO_land, zO_lor, zO_lshl, zO_lcmp, zO_i2l, zO_l2i, zO_i2b, zO_dup0, zO_dup2, zO_dup200, zO_dup202, zO_dup220, zO_dup222, zO_ifCond_eq, zO_ifCond_ne, zO_ifCond_lt, zO_ifCond_ge, zO_ifCond_gt, zO_ifCond_le, zO_if_icmp_eq, zO_if_icmp_ne, zO_if_icmp_lt, zO_if_icmp_ge, zO_if_icmp_gt, zO_if_icmp_le, zO_getfield, zO_putfield, zO_iaload, zO_baload, zO_laload, zO_iastore, zO_bastore, zO_lastore, zO_arraylength, zO_invokevirtual, zO_lreturn, zO_areturn, zO_return_, zO_tableswitch, zO_lookupswitch, zO_is0, zO_is1, zO_is2, zO_is3, zO_is4, zO_is9, zO_is10, zO_is11, zO_is12, zO_ir1, zO_ir4, zB_c, zLd_0, zLd_s, zSt_c, zSt2_c, zU_c, zD_c, zY_c, zSw_n, zSw_c, zCall_c, zVirt_c, zP_0, zP_1, zP_2, zP_3, zP_4, zGet_n, zGet_z, zPut_n, zPut_z, zcw_n, zcw_0, zcw_1, zcw_2, List.length_cons, List.length_nil, List.take_succ_cons, List.take_zero, List.drop_succ_cons, List.drop_zero, List.reverse_cons, List.reverse_nil, List.nil_append, List.cons_append, List.append_nil, List.set_cons_zero, List.set_cons_succ, List.getD_cons_zero, List.getD_cons_succ, true_and, and_true, ne_eq, not_false_eq_true, not_true_eq_false, zif, Nat.reduceAdd, Nat.reduceLeDiff, Nat.reduceLT, Nat.reduceSub, Nat.reduceEqDiff, Nat.zero_le, Nat.lt_add_one, Nat.reduceMod, false_implies, true_implies, implies_true, forall_const, Int.reduceLE, Int.reduceLT, Int.reduceEq, Int.reduceNeg, ite10_0, ite10_1, zem, zem2, Classical.not_not, and_self, or_true, true_or, or_false, false_or, zT_0, zN_0, zGf_160_0, zGf_161_0, zGf_162_0, zPf_162_0, zGf_163_0, zGf_164_0, zGf_165_0, zGf_166_0, zGf_167_0, zPf_167_0, zGf_168_0, zPf_168_0, zGf_169_0, zGf_170_0, zGf_171_0, zPf_171_0, zGf_172_0, zGf_173_0, zGf_174_0, zGf_175_0, zGf_176_0, h0]
    refine zuse (K_cF (d := d + 6) hr) ?_
    rintro r u ⟨rfl, hu, f⟩
    have hn := (Rel_n hu.1).1
    refine ⟨by decide, ?_⟩
    refine zuse (K_find (d := d + 1) hn (xF_nb hu.1) xF_1 (RF_s hu) (RF_F hu)) ?_
    rintro x w ⟨f2, hL⟩
    simp only [e98, k98_0, u98_23, k98_23, zO_nop, zO_goto, zO_iload_n0, zO_iload_n1, zO_iload_n2, zO_iload_n3, zO_iload, zO_lload_n0, zO_lload_n1, zO_lload_n2, zO_lload_n3, zO_lload, zO_aload_n0, zO_aload_n1, zO_aload_n2, zO_aload_n3, zO_aload, zO_istore_n0, zO_istore_n1, zO_istore_n2, zO_istore_n3, zO_istore, zO_astore_n0, zO_astore_n1, zO_astore_n2, zO_astore_n3, zO_astore, zO_lstore, zO_iinc, zO_iconst, zO_bipush, zO_sipush, zO_lconst0, zO_lconst1, zO_ldc, zO_ldc2_w, zO_iadd, zO_isub, zO_imul, zO_idiv, zO_irem, zO_ineg, zO_iand, zO_ior, zO_ixor, zO_ishl, zO_ishr, zO_iushr, zO_ladd, zO_lmul, zO_land, zO_lor, zO_lshl, zO_lcmp, zO_i2l, zO_l2i, zO_i2b, zO_dup0, zO_dup2, zO_dup200, zO_dup202, zO_dup220, zO_dup222, zO_ifCond_eq, zO_ifCond_ne, zO_ifCond_lt, zO_ifCond_ge, zO_ifCond_gt, zO_ifCond_le, zO_if_icmp_eq, zO_if_icmp_ne, zO_if_icmp_lt, zO_if_icmp_ge, zO_if_icmp_gt, zO_if_icmp_le, zO_getfield, zO_putfield, zO_iaload, zO_baload, zO_laload, zO_iastore, zO_bastore, zO_lastore, zO_arraylength, zO_invokevirtual, zO_lreturn, zO_areturn, zO_return_, zO_tableswitch, zO_lookupswitch, zO_is0, zO_is1, zO_is2, zO_is3, zO_is4, zO_is9, zO_is10, zO_is11, zO_is12, zO_ir1, zO_ir4, zB_c, zLd_0, zLd_s, zSt_c, zSt2_c, zU_c, zD_c, zY_c, zSw_n, zSw_c, zCall_c, zVirt_c, zP_0, zP_1, zP_2, zP_3, zP_4, zGet_n, zGet_z, zPut_n, zPut_z, zcw_n, zcw_0, zcw_1, zcw_2, List.length_cons, List.length_nil, List.take_succ_cons, List.take_zero, List.drop_succ_cons, List.drop_zero, List.reverse_cons, List.reverse_nil, List.nil_append, List.cons_append, List.append_nil, List.set_cons_zero, List.set_cons_succ, List.getD_cons_zero, List.getD_cons_succ, true_and, and_true, ne_eq, not_false_eq_true, not_true_eq_false, zif, Nat.reduceAdd, Nat.reduceLeDiff, Nat.reduceLT, Nat.reduceSub, Nat.reduceEqDiff, Nat.zero_le, Nat.lt_add_one, Nat.reduceMod, false_implies, true_implies, implies_true, forall_const, Int.reduceLE, Int.reduceLT, Int.reduceEq, Int.reduceNeg, ite10_0, ite10_1, zem, zem2, Classical.not_not, and_self, or_true, true_or, or_false, false_or, zT_0, zN_0, zGf_160_0, zGf_161_0, zGf_162_0, zPf_162_0, zGf_163_0, zGf_164_0, zGf_165_0, zGf_166_0, zGf_167_0, zPf_167_0, zGf_168_0, zPf_168_0, zGf_169_0, zGf_170_0, zGf_171_0, zPf_171_0, zGf_172_0, zGf_173_0, zGf_174_0, zGf_175_0, zGf_176_0]
    generalize hy : zu w 0 8 1 = y
    have f3 : zfr ((0, 8) :: chF) u y := by rw [← hy]; exact zfr_u (zfr_up f2 (by decide)) (by decide)
    have y8 : y 0 8 = 1 := by rw [← hy, zu_at]
    have y7 : y 0 7 = 1 := by rw [f3 0 7 (by decide)]; exact hu.2
    have y19 : y 19 = w 19 := by rw [← hy]; exact zu_c (by decide)
    have y20 : y 20 = w 20 := by rw [← hy]; exact zu_c (by decide)
    have c1 : y 1 = u 1 := zfr_c f3 (by decide)
    have c2 : y 2 = u 2 := zfr_c f3 (by decide)
    have c3 : y 3 = u 3 := zfr_c f3 (by decide)
    have c4 : y 4 = u 4 := zfr_c f3 (by decide)
    have c5 : y 5 = u 5 := zfr_c f3 (by decide)
    have c6 : y 6 = u 6 := zfr_c f3 (by decide)
    have c7 : y 7 = u 7 := zfr_c f3 (by decide)
    have c15 : y 15 = u 15 := zfr_c f3 (by decide)
    have c16 : y 16 = u 16 := zfr_c f3 (by decide)
    have c40 : y 40 = u 40 := zfr_c f3 (by decide)
    have ex : xF y = xF u := xF_fr f3 (by decide) (by decide)
    have hH : rH 1 40 y := by
      have q1 := hu.1.1
      simp only [rH, rA, Int.reduceAdd, c1, c2, c3, c4, c5, c6, c7, c40] at q1 ⊢
      exact q1
    have hC : rC y := by
      refine ⟨Or.inr y7, Or.inr y8, fun _ => ⟨by rw [c15, c1]; exact RF_s hu, ?_⟩, fun _ => ⟨y7, ?_⟩⟩
      · have := RF_F hu
        simp only [zFu, ex, c1, c16] at this ⊢
        exact this
      · rw [ex, c1, y19]
        refine chL_cg hn.1 hL fun r k hr hk => ?_
        have h1 := hk.1
        have h2 := hk.2
        show y 20 (5 * r + k) = xr w r k
        unfold xr
        rw [if_pos ⟨by omega, by omega⟩, y20]
    exact ⟨⟨Rel_pt hu.1 f3 (by decide) hH hC, y8⟩, zfr_tr (zfr_up f (by decide)) (zfr_wd f3 (by decide))⟩
