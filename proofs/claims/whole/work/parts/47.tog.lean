/-! together -/
theorem zs_bd2 {f : Int → Int} {b n : Int} (hn : 0 ≤ n) (hf : ∀ i, zrg n i → 0 ≤ f i ∧ f i ≤ b) : 0 ≤ zs f n ∧ zs f n ≤ b * n := zs_bd (n := n) (fun i a c => hf i ⟨a, c⟩) n hn (by omega)
theorem vS_bd {N : Int → Int → Int → Int} {n : Int} {l r : Int → Int} {k : Int} (hn : 1 ≤ n ∧ n ≤ 5) (hb : zNb n N) (hl : ∀ i, zrg n i → 0 ≤ l i ∧ l i ≤ 999) (hr : ∀ i, zrg n i → 0 ≤ r i ∧ r i ≤ 999) (hk : zrg n k) : 0 ≤ vS N n l r k ∧ vS N n l r k ≤ 224550225 := by
  have h1 : ∀ i j, zrg n i → zrg n j → 0 ≤ l i * r j * N i j k ∧ l i * r j * N i j k ≤ 8982009 := fun i j hi hj => by
    have p1 := zmul_bd (hl i hi) (hr j hj)
    have p2 := zmul_bd p1 (hb i j k hi hj hk)
    omega
  have h2 : ∀ i, zrg n i → 0 ≤ zs (fun j => l i * r j * N i j k) n ∧ zs (fun j => l i * r j * N i j k) n ≤ 44910045 := fun i hi => by
    have := zs_bd2 (f := fun j => l i * r j * N i j k) (b := 8982009) (by omega) (fun j hj => h1 i j hi hj)
    omega
  have := zs_bd2 (f := fun i => zs (fun j => l i * r j * N i j k) n) (b := 44910045) (by omega) h2
  unfold vS
  omega
theorem K_together {d : Nat} {a b : Int} {v : Int → Int} {μ : zM} (hr : Rel μ) (ha : 0 ≤ a ∧ a < 4) (hb : 0 ≤ b ∧ b < 4) (hv : v = fun k => vS (xF μ) (μ 1 1) (fun i => μ 3 (5 * a + i)) (fun j => μ 3 (5 * b + j)) k) (hvb : ∀ k, zrg (μ 1 1) k → 0 ≤ v k ∧ v k ≤ 224550225) : zC (d + 7) 62 [(2, 0), (0, a), (0, b)] μ (fun r u => ((∃ k, zrg (μ 1 1) k ∧ 999 < v k) ∧ r = -3 ∧ Rel u ∧ zfr zCa μ u) ∨ ((∀ k, zrg (μ 1 1) k → v k ≤ 999) ∧ r = zs v (μ 1 1) ∧ ∃ u0, Rel u0 ∧ zfr zCa μ u0 ∧ zfr [(3, -1)] u0 u ∧ ∀ i, u 3 i = if 5 * a ≤ i ∧ i < 5 * a + μ 1 1 then v (i - 5 * a) else μ 3 i)) := by
  have hn := (Rel_n hr).1
  generalize hQ : (fun (r : Int) (u : zM) => ((∃ k, zrg (μ 1 1) k ∧ 999 < v k) ∧ r = -3 ∧ Rel u ∧ zfr zCa μ u) ∨ ((∀ k, zrg (μ 1 1) k → v k ≤ 999) ∧ r = zs v (μ 1 1) ∧ ∃ u0, Rel u0 ∧ zfr zCa μ u0 ∧ zfr [(3, -1)] u0 u ∧ ∀ i, u 3 i = if 5 * a ≤ i ∧ i < 5 * a + μ 1 1 then v (i - 5 * a) else μ 3 i)) = Q
  simp only [e62, k62_0, e62, k62_0, u62_14, k62_14, u62_16, k62_16, u62_82, k62_82, u62_88, k62_88, u62_144, k62_144, zO_nop, zO_goto, zO_iload_n0, zO_iload_n1, zO_iload_n2, zO_iload_n3, zO_iload, zO_lload_n0, zO_lload_n1, zO_lload_n2, zO_lload_n3, zO_lload, zO_aload_n0, zO_aload_n1, zO_aload_n2, zO_aload_n3, zO_aload, zO_istore_n0, zO_istore_n1, zO_istore_n2, zO_istore_n3, zO_istore, zO_astore_n0, zO_astore_n1, zO_astore_n2, zO_astore_n3, zO_astore, zO_lstore, zO_iinc, zO_iconst, zO_bipush, zO_sipush, zO_lconst0, zO_lconst1, zO_ldc, zO_ldc2_w, zO_iadd, zO_isub, zO_imul, zO_idiv, zO_irem, zO_ineg, zO_iand, zO_ior, zO_ixor, zO_ishl, zO_ishr, zO_iushr, zO_ladd, zO_lmul, zO_land, zO_lor, zO_lshl, zO_lcmp, zO_i2l, zO_l2i, zO_i2b, zO_dup0, zO_dup2, zO_dup200, zO_dup202, zO_dup220, zO_dup222, zO_ifCond_eq, zO_ifCond_ne, zO_ifCond_lt, zO_ifCond_ge, zO_ifCond_gt, zO_ifCond_le, zO_if_icmp_eq, zO_if_icmp_ne, zO_if_icmp_lt, zO_if_icmp_ge, zO_if_icmp_gt, zO_if_icmp_le, zO_getfield, zO_putfield, zO_iaload, zO_baload, zO_laload, zO_iastore, zO_bastore, zO_lastore, zO_arraylength, zO_invokevirtual, zO_lreturn, zO_areturn, zO_return_, zO_tableswitch, zO_lookupswitch, zO_is0, zO_is1, zO_is2, zO_is3, zO_is4, zO_is9, zO_is10, zO_is11, zO_is12, zO_ir1, zO_ir4, zB_c, zLd_0, zLd_s, zSt_c, zSt2_c, zU_c, zD_c, zY_c, zSw_n, zSw_c, zCall_c, zVirt_c, zP_0, zP_1, zP_2, zP_3, zP_4, zGet_n, zGet_z, zPut_n, zPut_z, zcw_n, zcw_0, zcw_1, zcw_2, List.length_cons, List.length_nil, List.take_succ_cons, List.take_zero, List.drop_succ_cons, List.drop_zero, List.reverse_cons, List.reverse_nil, List.nil_append, List.cons_append, List.append_nil, List.set_cons_zero, List.set_cons_succ, List.getD_cons_zero, List.getD_cons_succ, true_and, and_true, ne_eq, not_false_eq_true, not_true_eq_false, zif, Nat.reduceAdd, Nat.reduceLeDiff, Nat.reduceLT, Nat.reduceSub, Nat.reduceEqDiff, Nat.zero_le, Nat.lt_add_one, Nat.reduceMod, false_implies, true_implies, implies_true, forall_const, Int.reduceLE, Int.reduceLT, Int.reduceEq, Int.reduceNeg, ite10_0, ite10_1, zem, zem2, Classical.not_not, and_self, or_true, true_or, or_false, false_or, zT_0, zN_0, zGf_160_0, zGf_161_0, zGf_162_0, zPf_162_0, zGf_163_0, zGf_164_0, zGf_165_0, zGf_166_0, zGf_167_0, zPf_167_0, zGf_168_0, zPf_168_0, zGf_169_0, zGf_170_0, zGf_171_0, zPf_171_0, zGf_172_0, zGf_173_0, zGf_174_0, zGf_175_0, zGf_176_0, zT_1, zN_1, zGf_64_1, zPf_64_1, zGf_65_1, zPf_65_1, zGf_66_1, zPf_66_1, zGf_67_1, zGf_68_1, zGf_69_1, zGf_70_1, zGf_71_1, zGf_72_1, zGf_73_1, zPf_73_1, zAl_3, zAs_3, zAl_36, zAs_36, zAl_37, zAs_37, zAl_38, zAs_38, K_isElement, ha, hb]
  refine zuse (K_becomeElement36 (d := d + 4) hr ha) ?_
  rintro r u1 ⟨rfl, f1, g1⟩
  have hr1 := Rel_fr hr (zfr_up f1 (by decide))
  refine zuse (K_becomeElement37 (d := d + 4) hr1 hb) ?_
  rintro r u2 ⟨rfl, f2, g2⟩
  have hr2 := Rel_fr hr1 (zfr_up f2 (by decide))
  refine zuse (K_cF (d := d) hr2) ?_
  rintro r u3 ⟨rfl, hf, f3⟩
  refine ⟨⟨zT_15, zN_15⟩, ?_⟩
  refine zuse (K_putTogether (d := d + 2) hf) ?_
  rintro r u ⟨rfl, f4, g4⟩
  have fA : zfr [(36, -1), (37, -1)] μ u2 := zfr_tr (zfr_up f1 (by decide)) (zfr_up f2 (by decide))
  have fB : zfr [(36, -1), (37, -1), (0, 7), (15, -1), (16, -1)] μ u3 := zfr_tr (zfr_up fA (by decide)) (zfr_up f3 (by decide))
  have fu : zfr zCa μ u := zfr_tr (zfr_up fB (by decide)) (zfr_up f4 (by decide))
  have hru : Rel u := Rel_fr hf.1 (zfr_up f4 (by decide))
  have e1 : u 1 = μ 1 := zfr_c fu (by decide)
  have e3 : u 3 = μ 3 := zfr_c fu (by decide)
  have gv : ∀ k, zrg (μ 1 1) k → u 38 k = v k := by
    intro k hk
    have e1u : u3 1 = μ 1 := zfr_c fB (by decide)
    have eN : xF u3 = xF μ := xF_fr fB (by decide) (by decide)
    have h := g4 k (by rw [e1u]; exact hk)
    rw [e1u, eN] at h
    have e36 : ∀ i, zrg (μ 1 1) i → u3 36 i = μ 3 (5 * a + i) := fun i hi => by
      rw [zfr_c f3 (by decide), zfr_c f2 (by decide)]; exact g1 i hi.1 hi.2
    have e37 : ∀ i, zrg (μ 1 1) i → u3 37 i = μ 3 (5 * b + i) := fun i hi => by
      have e11 : u1 1 = μ 1 := zfr_c f1 (by decide)
      have e31 : u1 3 = μ 3 := zfr_c f1 (by decide)
      rw [zfr_c f3 (by decide), g2 i hi.1 (by rw [e11]; exact hi.2), e31]
    have e : vS (xF μ) (μ 1 1) (u3 36) (u3 37) k = v k := by
      rw [hv]
      unfold vS
      exact zs_cg (by omega) (fun i hi => zs_cg (by omega) (fun j hj => by rw [e36 i hi, e37 j hj]))
    rw [h, e]
    have := hvb k hk
    exact zx_e (by omega) (by omega)
  generalize hnn : μ 1 1 = n at hn gv hvb hQ
  have hun : u 1 1 = n := by rw [e1, hnn]
  have hl2 : (∀ k, zrg n k → v k ≤ 999) → ∀ k w, 0 ≤ k → k ≤ n → (zfr [(3, -1)] u w ∧ ∀ i, w 3 i = if 5 * a ≤ i ∧ i < 5 * a + k then v (i - 5 * a) else μ 3 i) → zR (d + 6) 62 Q 93 [(2, 0), (0, a), (0, b), (0, zs v k), (0, k)] [] w := by
    intro hall
    refine zloop (n := n) (Inv := fun k w => zfr [(3, -1)] u w ∧ ∀ i, w 3 i = if 5 * a ≤ i ∧ i < 5 * a + k then v (i - 5 * a) else μ 3 i) (R := fun k w => zR (d + 6) 62 Q 93 [(2, 0), (0, a), (0, b), (0, zs v k), (0, k)] [] w) ?_ ?_
    · rintro k w k0 k1 ⟨f, g⟩ ih
      have w1 : w 1 1 = n := by rw [zfr_c f (by decide), hun]
      have w38 : w 38 k = v k := by rw [zfr_c f (by decide), gv k ⟨k0, k1⟩]
      have b1 := zs_bd (f := v) (b := 999) (n := n) (fun i i0 i1 => ⟨(hvb i ⟨i0, i1⟩).1, hall i ⟨i0, i1⟩⟩) k k0 (by omega)
      have b2 := hvb k ⟨k0, k1⟩
      have b3 := hall k ⟨k0, k1⟩
      have e2 : zw (zw (a * 5) + k) = 5 * a + k := by simp (disch := omega) only [zw_e]; omega
      have e4 : zw (v k) = v k := zw_e (by omega) (by omega)
      have e5 : zw (zs v k + v k) = zs v (k + 1) := by rw [zs_s _ k0, zw_e (by omega) (by omega)]
      rw [u62_93]
      simp only [k62_93, e62, k62_0, u62_14, k62_14, u62_16, k62_16, u62_82, k62_82, u62_88, k62_88, u62_144, k62_144, zO_nop, zO_goto, zO_iload_n0, zO_iload_n1, zO_iload_n2, zO_iload_n3, zO_iload, zO_lload_n0, zO_lload_n1, zO_lload_n2, zO_lload_n3, zO_lload, zO_aload_n0, zO_aload_n1, zO_aload_n2, zO_aload_n3, zO_aload, zO_istore_n0, zO_istore_n1, zO_istore_n2, zO_istore_n3, zO_istore, zO_astore_n0, zO_astore_n1, zO_astore_n2, zO_astore_n3, zO_astore, zO_lstore, zO_iinc, zO_iconst, zO_bipush, zO_sipush, zO_lconst0, zO_lconst1, zO_ldc, zO_ldc2_w, zO_iadd, zO_isub, zO_imul, zO_idiv, zO_irem, zO_ineg, zO_iand, zO_ior, zO_ixor, zO_ishl, zO_ishr, zO_iushr, zO_ladd, zO_lmul, zO_land, zO_lor, zO_lshl, zO_lcmp, zO_i2l, zO_l2i, zO_i2b, zO_dup0, zO_dup2, zO_dup200, zO_dup202, zO_dup220, zO_dup222, zO_ifCond_eq, zO_ifCond_ne, zO_ifCond_lt, zO_ifCond_ge, zO_ifCond_gt, zO_ifCond_le, zO_if_icmp_eq, zO_if_icmp_ne, zO_if_icmp_lt, zO_if_icmp_ge, zO_if_icmp_gt, zO_if_icmp_le, zO_getfield, zO_putfield, zO_iaload, zO_baload, zO_laload, zO_iastore, zO_bastore, zO_lastore, zO_arraylength, zO_invokevirtual, zO_lreturn, zO_areturn, zO_return_, zO_tableswitch, zO_lookupswitch, zO_is0, zO_is1, zO_is2, zO_is3, zO_is4, zO_is9, zO_is10, zO_is11, zO_is12, zO_ir1, zO_ir4, zB_c, zLd_0, zLd_s, zSt_c, zSt2_c, zU_c, zD_c, zY_c, zSw_n, zSw_c, zCall_c, zVirt_c, zP_0, zP_1, zP_2, zP_3, zP_4, zGet_n, zGet_z, zPut_n, zPut_z, zcw_n, zcw_0, zcw_1, zcw_2, List.length_cons, List.length_nil, List.take_succ_cons, List.take_zero, List.drop_succ_cons, List.drop_zero, List.reverse_cons, List.reverse_nil, List.nil_append, List.cons_append, List.append_nil, List.set_cons_zero, List.set_cons_succ, List.getD_cons_zero, List.getD_cons_succ, true_and, and_true, ne_eq, not_false_eq_true, not_true_eq_false, zif, Nat.reduceAdd, Nat.reduceLeDiff, Nat.reduceLT, Nat.reduceSub, Nat.reduceEqDiff, Nat.zero_le, Nat.lt_add_one, Nat.reduceMod, false_implies, true_implies, implies_true, forall_const, Int.reduceLE, Int.reduceLT, Int.reduceEq, Int.reduceNeg, ite10_0, ite10_1, zem, zem2, Classical.not_not, and_self, or_true, true_or, or_false, false_or, zT_0, zN_0, zGf_160_0, zGf_161_0, zGf_162_0, zPf_162_0, zGf_163_0, zGf_164_0, zGf_165_0, zGf_166_0, zGf_167_0, zPf_167_0, zGf_168_0, zPf_168_0, zGf_169_0, zGf_170_0, zGf_171_0, zPf_171_0, zGf_172_0, zGf_173_0, zGf_174_0, zGf_175_0, zGf_176_0, zT_1, zN_1, zGf_64_1, zPf_64_1, zGf_65_1, zPf_65_1, zGf_66_1, zPf_66_1, zGf_67_1, zGf_68_1, zGf_69_1, zGf_70_1, zGf_71_1, zGf_72_1, zGf_73_1, zPf_73_1, zAl_3, zAs_3, zAl_36, zAs_36, zAl_37, zAs_37, zAl_38, zAs_38, w1, w38, e2, e4, zu_d, Int.reduceEq, false_and, if_false, e5]
      rw [zw_e (by omega) (by omega)]
      refine ⟨fun _ => ⟨k0, by omega, by omega, by omega, k0, by omega, ih _ ⟨zfr_w f (by decide), fun i => ?_⟩⟩, fun e => absurd k1 e⟩
      rw [zu_d, g]
      by_cases e : i = 5 * a + k
      · rw [if_pos ⟨rfl, e⟩, if_pos (by omega), e]; congr 1; omega
      · rw [if_neg (fun z => e z.2)]; grind
    · rintro w ⟨f, g⟩
      have w1 : w 1 1 = n := by rw [zfr_c f (by decide), hun]
      rw [u62_93]
      simp only [k62_93, e62, k62_0, u62_14, k62_14, u62_16, k62_16, u62_82, k62_82, u62_88, k62_88, u62_144, k62_144, zO_nop, zO_goto, zO_iload_n0, zO_iload_n1, zO_iload_n2, zO_iload_n3, zO_iload, zO_lload_n0, zO_lload_n1, zO_lload_n2, zO_lload_n3, zO_lload, zO_aload_n0, zO_aload_n1, zO_aload_n2, zO_aload_n3, zO_aload, zO_istore_n0, zO_istore_n1, zO_istore_n2, zO_istore_n3, zO_istore, zO_astore_n0, zO_astore_n1, zO_astore_n2, zO_astore_n3, zO_astore, zO_lstore, zO_iinc, zO_iconst, zO_bipush, zO_sipush, zO_lconst0, zO_lconst1, zO_ldc, zO_ldc2_w, zO_iadd, zO_isub, zO_imul, zO_idiv, zO_irem, zO_ineg, zO_iand, zO_ior, zO_ixor, zO_ishl, zO_ishr, zO_iushr, zO_ladd, zO_lmul, zO_land, zO_lor, zO_lshl, zO_lcmp, zO_i2l, zO_l2i, zO_i2b, zO_dup0, zO_dup2, zO_dup200, zO_dup202, zO_dup220, zO_dup222, zO_ifCond_eq, zO_ifCond_ne, zO_ifCond_lt, zO_ifCond_ge, zO_ifCond_gt, zO_ifCond_le, zO_if_icmp_eq, zO_if_icmp_ne, zO_if_icmp_lt, zO_if_icmp_ge, zO_if_icmp_gt, zO_if_icmp_le, zO_getfield, zO_putfield, zO_iaload, zO_baload, zO_laload, zO_iastore, zO_bastore, zO_lastore, zO_arraylength, zO_invokevirtual, zO_lreturn, zO_areturn, zO_return_, zO_tableswitch, zO_lookupswitch, zO_is0, zO_is1, zO_is2, zO_is3, zO_is4, zO_is9, zO_is10, zO_is11, zO_is12, zO_ir1, zO_ir4, zB_c, zLd_0, zLd_s, zSt_c, zSt2_c, zU_c, zD_c, zY_c, zSw_n, zSw_c, zCall_c, zVirt_c, zP_0, zP_1, zP_2, zP_3, zP_4, zGet_n, zGet_z, zPut_n, zPut_z, zcw_n, zcw_0, zcw_1, zcw_2, List.length_cons, List.length_nil, List.take_succ_cons, List.take_zero, List.drop_succ_cons, List.drop_zero, List.reverse_cons, List.reverse_nil, List.nil_append, List.cons_append, List.append_nil, List.set_cons_zero, List.set_cons_succ, List.getD_cons_zero, List.getD_cons_succ, true_and, and_true, ne_eq, not_false_eq_true, not_true_eq_false, zif, Nat.reduceAdd, Nat.reduceLeDiff, Nat.reduceLT, Nat.reduceSub, Nat.reduceEqDiff, Nat.zero_le, Nat.lt_add_one, Nat.reduceMod, false_implies, true_implies, implies_true, forall_const, Int.reduceLE, Int.reduceLT, Int.reduceEq, Int.reduceNeg, ite10_0, ite10_1, zem, zem2, Classical.not_not, and_self, or_true, true_or, or_false, false_or, zT_0, zN_0, zGf_160_0, zGf_161_0, zGf_162_0, zPf_162_0, zGf_163_0, zGf_164_0, zGf_165_0, zGf_166_0, zGf_167_0, zPf_167_0, zGf_168_0, zPf_168_0, zGf_169_0, zGf_170_0, zGf_171_0, zPf_171_0, zGf_172_0, zGf_173_0, zGf_174_0, zGf_175_0, zGf_176_0, zT_1, zN_1, zGf_64_1, zPf_64_1, zGf_65_1, zPf_65_1, zGf_66_1, zPf_66_1, zGf_67_1, zGf_68_1, zGf_69_1, zGf_70_1, zGf_71_1, zGf_72_1, zGf_73_1, zPf_73_1, zAl_3, zAs_3, zAl_36, zAs_36, zAl_37, zAs_37, zAl_38, zAs_38, w1]
      refine ⟨fun e => absurd e (by omega), fun _ => ?_⟩
      rw [← hQ]
      exact Or.inr ⟨hall, rfl, u, hru, fu, f, g⟩
  have hl1 : ∀ k (s : zV), 0 ≤ k → k ≤ n → (∀ c, 0 ≤ c → c < k → v c ≤ 999) → zR (d + 6) 62 Q 55 [(2, 0), (0, a), (0, b), (0, k), s] [] u := by
    refine zloop (n := n) (Inv := fun k (_ : zV) => ∀ c, 0 ≤ c → c < k → v c ≤ 999) (R := fun k s => zR (d + 6) 62 Q 55 [(2, 0), (0, a), (0, b), (0, k), s] [] u) ?_ ?_
    · intro k s k0 k1 hw ih
      rw [u62_55]
      simp only [k62_55, e62, k62_0, u62_14, k62_14, u62_16, k62_16, u62_82, k62_82, u62_88, k62_88, u62_144, k62_144, zO_nop, zO_goto, zO_iload_n0, zO_iload_n1, zO_iload_n2, zO_iload_n3, zO_iload, zO_lload_n0, zO_lload_n1, zO_lload_n2, zO_lload_n3, zO_lload, zO_aload_n0, zO_aload_n1, zO_aload_n2, zO_aload_n3, zO_aload, zO_istore_n0, zO_istore_n1, zO_istore_n2, zO_istore_n3, zO_istore, zO_astore_n0, zO_astore_n1, zO_astore_n2, zO_astore_n3, zO_astore, zO_lstore, zO_iinc, zO_iconst, zO_bipush, zO_sipush, zO_lconst0, zO_lconst1, zO_ldc, zO_ldc2_w, zO_iadd, zO_isub, zO_imul, zO_idiv, zO_irem, zO_ineg, zO_iand, zO_ior, zO_ixor, zO_ishl, zO_ishr, zO_iushr, zO_ladd, zO_lmul, zO_land, zO_lor, zO_lshl, zO_lcmp, zO_i2l, zO_l2i, zO_i2b, zO_dup0, zO_dup2, zO_dup200, zO_dup202, zO_dup220, zO_dup222, zO_ifCond_eq, zO_ifCond_ne, zO_ifCond_lt, zO_ifCond_ge, zO_ifCond_gt, zO_ifCond_le, zO_if_icmp_eq, zO_if_icmp_ne, zO_if_icmp_lt, zO_if_icmp_ge, zO_if_icmp_gt, zO_if_icmp_le, zO_getfield, zO_putfield, zO_iaload, zO_baload, zO_laload, zO_iastore, zO_bastore, zO_lastore, zO_arraylength, zO_invokevirtual, zO_lreturn, zO_areturn, zO_return_, zO_tableswitch, zO_lookupswitch, zO_is0, zO_is1, zO_is2, zO_is3, zO_is4, zO_is9, zO_is10, zO_is11, zO_is12, zO_ir1, zO_ir4, zB_c, zLd_0, zLd_s, zSt_c, zSt2_c, zU_c, zD_c, zY_c, zSw_n, zSw_c, zCall_c, zVirt_c, zP_0, zP_1, zP_2, zP_3, zP_4, zGet_n, zGet_z, zPut_n, zPut_z, zcw_n, zcw_0, zcw_1, zcw_2, List.length_cons, List.length_nil, List.take_succ_cons, List.take_zero, List.drop_succ_cons, List.drop_zero, List.reverse_cons, List.reverse_nil, List.nil_append, List.cons_append, List.append_nil, List.set_cons_zero, List.set_cons_succ, List.getD_cons_zero, List.getD_cons_succ, true_and, and_true, ne_eq, not_false_eq_true, not_true_eq_false, zif, Nat.reduceAdd, Nat.reduceLeDiff, Nat.reduceLT, Nat.reduceSub, Nat.reduceEqDiff, Nat.zero_le, Nat.lt_add_one, Nat.reduceMod, false_implies, true_implies, implies_true, forall_const, Int.reduceLE, Int.reduceLT, Int.reduceEq, Int.reduceNeg, ite10_0, ite10_1, zem, zem2, Classical.not_not, and_self, or_true, true_or, or_false, false_or, zT_0, zN_0, zGf_160_0, zGf_161_0, zGf_162_0, zPf_162_0, zGf_163_0, zGf_164_0, zGf_165_0, zGf_166_0, zGf_167_0, zPf_167_0, zGf_168_0, zPf_168_0, zGf_169_0, zGf_170_0, zGf_171_0, zPf_171_0, zGf_172_0, zGf_173_0, zGf_174_0, zGf_175_0, zGf_176_0, zT_1, zN_1, zGf_64_1, zPf_64_1, zGf_65_1, zPf_65_1, zGf_66_1, zPf_66_1, zGf_67_1, zGf_68_1, zGf_69_1, zGf_70_1, zGf_71_1, zGf_72_1, zGf_73_1, zPf_73_1, zAl_3, zAs_3, zAl_36, zAs_36, zAl_37, zAs_37, zAl_38, zAs_38, hun, gv k ⟨k0, k1⟩, zcmp_gt]
      rw [zw_e (by omega) (by omega)]
      refine ⟨fun _ => ⟨k0, by omega, fun e => ?_, fun e => ih _ (fun c c0 c1 => ?_)⟩, fun e => absurd k1 e⟩
      · rw [← hQ]
        exact Or.inl ⟨⟨k, ⟨k0, k1⟩, e⟩, rfl, hru, fu⟩
      · by_cases q : c = k
        · rw [q]; omega
        · exact hw c c0 (by omega)
    · intro s hw
      rw [u62_55]
      simp only [k62_55, e62, k62_0, u62_14, k62_14, u62_16, k62_16, u62_82, k62_82, u62_88, k62_88, u62_144, k62_144, zO_nop, zO_goto, zO_iload_n0, zO_iload_n1, zO_iload_n2, zO_iload_n3, zO_iload, zO_lload_n0, zO_lload_n1, zO_lload_n2, zO_lload_n3, zO_lload, zO_aload_n0, zO_aload_n1, zO_aload_n2, zO_aload_n3, zO_aload, zO_istore_n0, zO_istore_n1, zO_istore_n2, zO_istore_n3, zO_istore, zO_astore_n0, zO_astore_n1, zO_astore_n2, zO_astore_n3, zO_astore, zO_lstore, zO_iinc, zO_iconst, zO_bipush, zO_sipush, zO_lconst0, zO_lconst1, zO_ldc, zO_ldc2_w, zO_iadd, zO_isub, zO_imul, zO_idiv, zO_irem, zO_ineg, zO_iand, zO_ior, zO_ixor, zO_ishl, zO_ishr, zO_iushr, zO_ladd, zO_lmul, zO_land, zO_lor, zO_lshl, zO_lcmp, zO_i2l, zO_l2i, zO_i2b, zO_dup0, zO_dup2, zO_dup200, zO_dup202, zO_dup220, zO_dup222, zO_ifCond_eq, zO_ifCond_ne, zO_ifCond_lt, zO_ifCond_ge, zO_ifCond_gt, zO_ifCond_le, zO_if_icmp_eq, zO_if_icmp_ne, zO_if_icmp_lt, zO_if_icmp_ge, zO_if_icmp_gt, zO_if_icmp_le, zO_getfield, zO_putfield, zO_iaload, zO_baload, zO_laload, zO_iastore, zO_bastore, zO_lastore, zO_arraylength, zO_invokevirtual, zO_lreturn, zO_areturn, zO_return_, zO_tableswitch, zO_lookupswitch, zO_is0, zO_is1, zO_is2, zO_is3, zO_is4, zO_is9, zO_is10, zO_is11, zO_is12, zO_ir1, zO_ir4, zB_c, zLd_0, zLd_s, zSt_c, zSt2_c, zU_c, zD_c, zY_c, zSw_n, zSw_c, zCall_c, zVirt_c, zP_0, zP_1, zP_2, zP_3, zP_4, zGet_n, zGet_z, zPut_n, zPut_z, zcw_n, zcw_0, zcw_1, zcw_2, List.length_cons, List.length_nil, List.take_succ_cons, List.take_zero, List.drop_succ_cons, List.drop_zero, List.reverse_cons, List.reverse_nil, List.nil_append, List.cons_append, List.append_nil, List.set_cons_zero, List.set_cons_succ, List.getD_cons_zero, List.getD_cons_succ, true_and, and_true, ne_eq, not_false_eq_true, not_true_eq_false, zif, Nat.reduceAdd, Nat.reduceLeDiff, Nat.reduceLT, Nat.reduceSub, Nat.reduceEqDiff, Nat.zero_le, Nat.lt_add_one, Nat.reduceMod, false_implies, true_implies, implies_true, forall_const, Int.reduceLE, Int.reduceLT, Int.reduceEq, Int.reduceNeg, ite10_0, ite10_1, zem, zem2, Classical.not_not, and_self, or_true, true_or, or_false, false_or, zT_0, zN_0, zGf_160_0, zGf_161_0, zGf_162_0, zPf_162_0, zGf_163_0, zGf_164_0, zGf_165_0, zGf_166_0, zGf_167_0, zPf_167_0, zGf_168_0, zPf_168_0, zGf_169_0, zGf_170_0, zGf_171_0, zPf_171_0, zGf_172_0, zGf_173_0, zGf_174_0, zGf_175_0, zGf_176_0, zT_1, zN_1, zGf_64_1, zPf_64_1, zGf_65_1, zPf_65_1, zGf_66_1, zPf_66_1, zGf_67_1, zGf_68_1, zGf_69_1, zGf_70_1, zGf_71_1, zGf_72_1, zGf_73_1, zPf_73_1, zAl_3, zAs_3, zAl_36, zAs_36, zAl_37, zAs_37, zAl_38, zAs_38, hun]
      refine ⟨fun e => absurd e (by omega), fun _ => ?_⟩
      exact hl2 (fun k hk => hw k hk.1 hk.2) 0 u (by omega) (by omega) ⟨zfr_rf, fun i => by rw [if_neg (by omega), e3]⟩
  exact hl1 0 _ (by omega) (by omega) (fun c c0 c1 => by omega)
