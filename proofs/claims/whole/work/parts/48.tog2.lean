theorem nF_fr {μ u : zM} (e : u 40 = μ 40) : nF u = nF μ := by
  funext i j k
  unfold nF
  rw [e]
theorem L_together {d : Nat} {a b n : Int} {v : Int → Int} {μ : zM} (hn : 1 ≤ n ∧ n ≤ 5) (hz : μ 40 1 = n) (ha : 0 ≤ a ∧ a < 4) (hb : 0 ≤ b ∧ b < 4) (hv : v = fun k => vS (nF μ) n (fun i => μ 40 (128 + (5 * a + i))) (fun j => μ 40 (128 + (5 * b + j))) k) (hvb : ∀ k, zrg n k → 0 ≤ v k ∧ v k ≤ 224550225) : zC (d + 5) 140 [(2, 39), (0, a), (0, b)] μ (fun r u => ((∃ k, zrg n k ∧ 999 < v k) ∧ r = -3 ∧ zfr [(43, -1)] μ u) ∨ ((∀ k, zrg n k → v k ≤ 999) ∧ r = zs v n ∧ zfr [(40, -1), (43, -1)] μ u ∧ ∀ i, u 40 i = if 128 + 5 * a ≤ i ∧ i < 128 + 5 * a + n then v (i - (128 + 5 * a)) else μ 40 i)) := by
  generalize hQ : (fun (r : Int) (u : zM) => ((∃ k, zrg n k ∧ 999 < v k) ∧ r = -3 ∧ zfr [(43, -1)] μ u) ∨ ((∀ k, zrg n k → v k ≤ 999) ∧ r = zs v n ∧ zfr [(40, -1), (43, -1)] μ u ∧ ∀ i, u 40 i = if 128 + 5 * a ≤ i ∧ i < 128 + 5 * a + n then v (i - (128 + 5 * a)) else μ 40 i)) = Q
  have hat : ∀ {w : zM} {i j k : Int} {P : Int → zM → Prop}, zfr [(43, -1)] μ w → zrg n i → zrg n j → zrg n k → (zC (d + 4) 117 [(2, 39), (0, i), (0, j), (0, k)] w P ↔ P (nF μ i j k) w) := by
    intro w i j k P f hi hj hk
    have e40 : w 40 = μ 40 := zfr_c f (by decide)
    have e1 : w 40 1 = n := by rw [e40, hz]
    rw [L_n2 (d := d + 1) (by rw [e1]; exact hn) (by rw [e1]; exact hi) (by rw [e1]; exact hj) (by rw [e1]; exact hk), nF_fr e40]
  generalize hN : nF μ = N at hat hv
  obtain ⟨l, hl⟩ : ∃ l : Int → Int, l = fun i => μ 40 (128 + (5 * a + i)) := ⟨_, rfl⟩
  obtain ⟨m, hm⟩ : ∃ m : Int → Int, m = fun j => μ 40 (128 + (5 * b + j)) := ⟨_, rfl⟩
  rw [← hl, ← hm] at hv
  have hle : ∀ i, zrg n i → ∀ {dd : Nat} {w : zM} {P : Int → zM → Prop}, (zC (dd + 1) 136 [(0, a), (0, i)] w P ↔ P (128 + (5 * a + i)) w) := fun i hi _ _ _ => L_ofE (by omega) ⟨hi.1, by have := hi.2; omega⟩
  have hme : ∀ i, zrg n i → ∀ {dd : Nat} {w : zM} {P : Int → zM → Prop}, (zC (dd + 1) 136 [(0, b), (0, i)] w P ↔ P (128 + (5 * b + i)) w) := fun i hi _ _ _ => L_ofE (by omega) ⟨hi.1, by have := hi.2; omega⟩
  -- the inmost loop
  have hj : ∀ k i s, zrg n k → zrg n i → (∀ w, zfr [(43, -1)] μ w → w 43 k = zx (vT N n l m (i + 1) 0 k) → ∀ x, zR (d + 4) 140 Q 43 [(2, 39), (0, a), (0, b), (0, s), (0, k), (0, i + 1), x] [] w) → (∀ w w', zfr [(43, -1)] w w' → True) → ∀ j w, 0 ≤ j → j ≤ n → (zfr [(43, -1)] μ w ∧ w 43 k = zx (vT N n l m i j k)) → zR (d + 4) 140 Q 57 [(2, 39), (0, a), (0, b), (0, s), (0, k), (0, i), (0, j)] [] w := by
    intro k i s hk hi hnext _
    refine zloop (n := n) (Inv := fun j w => zfr [(43, -1)] μ w ∧ w 43 k = zx (vT N n l m i j k)) ?_ ?_
    · rintro j w j0 j1 ⟨f, g⟩ ih
      have e40 : w 40 = μ 40 := zfr_c f (by decide)
      have e1 : w 40 1 = n := by rw [e40, hz]
      have el : w 40 (128 + (5 * a + i)) = l i := by rw [e40, hl]
      have em : w 40 (128 + (5 * b + j)) = m j := by rw [e40, hm]
      have k0 := hk.1
      have k1 := hk.2
      have i0 := hi.1
      have i1 := hi.2
      rw [u140_57]
      simp only [k140_57, e140, k140_0, u140_14, k140_14, u140_16, k140_16, u140_121, k140_121, u140_127, k140_127, u140_149, k140_149, u140_150, k140_150, u140_157, k140_157, u140_217, k140_217, u140_226, k140_226, u140_228, k140_228, zO_nop, zO_goto, zO_iload_n0, zO_iload_n1, zO_iload_n2, zO_iload_n3, zO_iload, zO_lload_n0, zO_lload_n1, zO_lload_n2, zO_lload_n3, zO_lload, zO_aload_n0, zO_aload_n1, zO_aload_n2, zO_aload_n3, zO_aload, zO_istore_n0, zO_istore_n1, zO_istore_n2, zO_istore_n3, zO_istore, zO_astore_n0, zO_astore_n1, zO_astore_n2, zO_astore_n3, zO_astore, zO_lstore, zO_iinc, zO_iconst, zO_bipush, zO_sipush, zO_lconst0, zO_lconst1, zO_ldc, zO_ldc2_w, zO_iadd, zO_isub, zO_imul, zO_idiv, zO_irem, zO_ineg, zO_iand, zO_ior, zO_ixor, zO_ishl, zO_ishr, zO_iushr, zO_ladd, zO_lmul, zO_land, zO_lor, zO_lshl, zO_lcmp, zO_i2l, zO_l2i, zO_i2b, zO_dup0, zO_dup2, zO_dup200, zO_dup202, zO_dup220, zO_dup222, zO_ifCond_eq, zO_ifCond_ne, zO_ifCond_lt, zO_ifCond_ge, zO_ifCond_gt, zO_ifCond_le, zO_if_icmp_eq, zO_if_icmp_ne, zO_if_icmp_lt, zO_if_icmp_ge, zO_if_icmp_gt, zO_if_icmp_le, zO_getfield, zO_putfield, zO_iaload, zO_baload, zO_laload, zO_iastore, zO_bastore, zO_lastore, zO_arraylength, zO_invokevirtual, zO_lreturn, zO_areturn, zO_return_, zO_tableswitch, zO_lookupswitch, zO_is0, zO_is1, zO_is2, zO_is3, zO_is4, zO_is9, zO_is10, zO_is11, zO_is12, zO_ir1, zO_ir4, zB_c, zLd_0, zLd_s, zSt_c, zSt2_c, zU_c, zD_c, zY_c, zSw_n, zSw_c, zCall_c, zVirt_c, zP_0, zP_1, zP_2, zP_3, zP_4, zGet_n, zGet_z, zPut_n, zPut_z, zcw_n, zcw_0, zcw_1, zcw_2, List.length_cons, List.length_nil, List.take_succ_cons, List.take_zero, List.drop_succ_cons, List.drop_zero, List.reverse_cons, List.reverse_nil, List.nil_append, List.cons_append, List.append_nil, List.set_cons_zero, List.set_cons_succ, List.getD_cons_zero, List.getD_cons_succ, true_and, and_true, ne_eq, not_false_eq_true, not_true_eq_false, zif, Nat.reduceAdd, Nat.reduceLeDiff, Nat.reduceLT, Nat.reduceSub, Nat.reduceEqDiff, Nat.zero_le, Nat.lt_add_one, Nat.reduceMod, false_implies, true_implies, implies_true, forall_const, Int.reduceLE, Int.reduceLT, Int.reduceEq, Int.reduceNeg, ite10_0, ite10_1, zem, zem2, Classical.not_not, and_self, or_true, true_or, or_false, false_or, zT_39, zN_39, zGf_192_39, zGf_193_39, zGf_194_39, zPf_194_39, zGf_195_39, zGf_196_39, zGf_197_39, zGf_198_39, zPf_198_39, zGf_199_39, zPf_199_39, zGf_200_39, zPf_200_39, zGf_201_39, zGf_202_39, zPf_202_39, zGf_203_39, zGf_204_39, zPf_204_39, zGf_205_39, zGf_206_39, zGf_207_39, zGf_208_39, zGf_209_39, zGf_210_39, zGf_211_39, zGf_212_39, zGf_213_39, zGf_214_39, zPf_214_39, zGf_215_39, zGf_216_39, zAl_40, zAs_40, zAl_43, zAs_43, e1, hle i hi, hme j ⟨j0, j1⟩, el, em, hat f hi ⟨j0, j1⟩ hk]
      rw [zw_e (by omega) (by omega)]
      refine ⟨fun _ => ⟨k0, by omega, by omega, by omega, by omega, by omega, k0, by omega, ih _ ⟨zfr_w f (by decide), ?_⟩⟩, fun e => absurd j1 e⟩
      rw [zu_at, g, zx_ml, zx_ar, zx_al]
      unfold vT
      rw [zs_s _ j0, Int.add_assoc]
    · rintro w ⟨f, g⟩
      have e40 : w 40 = μ 40 := zfr_c f (by decide)
      have e1 : w 40 1 = n := by rw [e40, hz]
      rw [u140_57]
      simp only [k140_57, e140, k140_0, u140_14, k140_14, u140_16, k140_16, u140_121, k140_121, u140_127, k140_127, u140_149, k140_149, u140_150, k140_150, u140_157, k140_157, u140_217, k140_217, u140_226, k140_226, u140_228, k140_228, zO_nop, zO_goto, zO_iload_n0, zO_iload_n1, zO_iload_n2, zO_iload_n3, zO_iload, zO_lload_n0, zO_lload_n1, zO_lload_n2, zO_lload_n3, zO_lload, zO_aload_n0, zO_aload_n1, zO_aload_n2, zO_aload_n3, zO_aload, zO_istore_n0, zO_istore_n1, zO_istore_n2, zO_istore_n3, zO_istore, zO_astore_n0, zO_astore_n1, zO_astore_n2, zO_astore_n3, zO_astore, zO_lstore, zO_iinc, zO_iconst, zO_bipush, zO_sipush, zO_lconst0, zO_lconst1, zO_ldc, zO_ldc2_w, zO_iadd, zO_isub, zO_imul, zO_idiv, zO_irem, zO_ineg, zO_iand, zO_ior, zO_ixor, zO_ishl, zO_ishr, zO_iushr, zO_ladd, zO_lmul, zO_land, zO_lor, zO_lshl, zO_lcmp, zO_i2l, zO_l2i, zO_i2b, zO_dup0, zO_dup2, zO_dup200, zO_dup202, zO_dup220, zO_dup222, zO_ifCond_eq, zO_ifCond_ne, zO_ifCond_lt, zO_ifCond_ge, zO_ifCond_gt, zO_ifCond_le, zO_if_icmp_eq, zO_if_icmp_ne, zO_if_icmp_lt, zO_if_icmp_ge, zO_if_icmp_gt, zO_if_icmp_le, zO_getfield, zO_putfield, zO_iaload, zO_baload, zO_laload, zO_iastore, zO_bastore, zO_lastore, zO_arraylength, zO_invokevirtual, zO_lreturn, zO_areturn, zO_return_, zO_tableswitch, zO_lookupswitch, zO_is0, zO_is1, zO_is2, zO_is3, zO_is4, zO_is9, zO_is10, zO_is11, zO_is12, zO_ir1, zO_ir4, zB_c, zLd_0, zLd_s, zSt_c, zSt2_c, zU_c, zD_c, zY_c, zSw_n, zSw_c, zCall_c, zVirt_c, zP_0, zP_1, zP_2, zP_3, zP_4, zGet_n, zGet_z, zPut_n, zPut_z, zcw_n, zcw_0, zcw_1, zcw_2, List.length_cons, List.length_nil, List.take_succ_cons, List.take_zero, List.drop_succ_cons, List.drop_zero, List.reverse_cons, List.reverse_nil, List.nil_append, List.cons_append, List.append_nil, List.set_cons_zero, List.set_cons_succ, List.getD_cons_zero, List.getD_cons_succ, true_and, and_true, ne_eq, not_false_eq_true, not_true_eq_false, zif, Nat.reduceAdd, Nat.reduceLeDiff, Nat.reduceLT, Nat.reduceSub, Nat.reduceEqDiff, Nat.zero_le, Nat.lt_add_one, Nat.reduceMod, false_implies, true_implies, implies_true, forall_const, Int.reduceLE, Int.reduceLT, Int.reduceEq, Int.reduceNeg, ite10_0, ite10_1, zem, zem2, Classical.not_not, and_self, or_true, true_or, or_false, false_or, zT_39, zN_39, zGf_192_39, zGf_193_39, zGf_194_39, zPf_194_39, zGf_195_39, zGf_196_39, zGf_197_39, zGf_198_39, zPf_198_39, zGf_199_39, zPf_199_39, zGf_200_39, zPf_200_39, zGf_201_39, zGf_202_39, zPf_202_39, zGf_203_39, zGf_204_39, zPf_204_39, zGf_205_39, zGf_206_39, zGf_207_39, zGf_208_39, zGf_209_39, zGf_210_39, zGf_211_39, zGf_212_39, zGf_213_39, zGf_214_39, zPf_214_39, zGf_215_39, zGf_216_39, zAl_40, zAs_40, zAl_43, zAs_43, e1]
      refine ⟨fun e => absurd e (by omega), fun _ => ?_⟩
      rw [zw_e (by have := hi.1; omega) (by have := hi.2; omega)]
      refine hnext w f ?_ _
      rw [g]
      unfold vT
      rw [zs_s _ hi.1, zs_0, Int.add_zero]
  sorry
