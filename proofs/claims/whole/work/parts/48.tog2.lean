theorem nF_fr {μ u : zM} (e : u 40 = μ 40) : nF u = nF μ := by
  funext i j k
  unfold nF
  rw [e]
theorem L_together {d : Nat} {a b n : Int} {v : Int → Int} {μ : zM} (hn : 1 ≤ n ∧ n ≤ 5) (hz : μ 40 1 = n) (ha : 0 ≤ a ∧ a < 4) (hb : 0 ≤ b ∧ b < 4) (hv : v = fun k => vS (nF μ) n (fun i => μ 40 (128 + (5 * a + i))) (fun j => μ 40 (128 + (5 * b + j))) k) (hvb : ∀ k, zrg n k → 0 ≤ v k ∧ v k ≤ 224550225) : zC (d + 5) 140 [(2, 39), (0, a), (0, b)] μ (fun r u => ((∃ k, zrg n k ∧ 999 < v k) ∧ r = -3 ∧ zfr [(43, -1)] μ u) ∨ ((∀ k, zrg n k → v k ≤ 999) ∧ r = zs v n ∧ zfr [(40, -1), (43, -1)] μ u ∧ ∀ i, u 40 i = if 128 + 5 * a ≤ i ∧ i < 128 + 5 * a + n then v (i - (128 + 5 * a)) else μ 40 i)) := by
  generalize hQ : (fun (r : Int) (u : zM) => ((∃ k, zrg n k ∧ 999 < v k) ∧ r = -3 ∧ zfr [(43, -1)] μ u) ∨ ((∀ k, zrg n k → v k ≤ 999) ∧ r = zs v n ∧ zfr [(40, -1), (43, -1)] μ u ∧ ∀ i, u 40 i = if 128 + 5 * a ≤ i ∧ i < 128 + 5 * a + n then v (i - (128 + 5 * a)) else μ 40 i)) = Q
  have hat : ∀ {w : zM} {i j k : Int} {P : Int → zM → Prop}, zfr [(43, -1)] μ w → zrg n i → zrg n j → zrg n k → (zC (d + 4) 117 [(2, 39), (0, i), (0, j), (0, k)] w P ↔ P (nF μ i j k) w) := by
    intro w i j k P f hi hj hk
    have e40 : w 40 = μ 40 := zfr_c f (by decide)
    have e1 : w 40 1 = n := by rw [e40, hz]
    rw [L_n2 (d := d + 1) (by rw [e1]; exact hn) (by rw [e1]; exact hi) (by rw [e1]; exact hj) (by rw [e1]; exact hk), nF_fr e40]
  generalize hN : nF μ = N at hat hv
  obtain ⟨l, hl⟩ : ∃ l : Int → Int, l = fun i => μ 40 (128 + (5 * a + i)) := ⟨_, rfl⟩
  obtain ⟨m, hm⟩ : ∃ m : Int → Int, m = fun j => μ 40 (128 + (5 * b + j)) := ⟨_, rfl⟩
  rw [← hl, ← hm] at hv
  have hle : ∀ i, zrg n i → ∀ {dd : Nat} {w : zM} {P : Int → zM → Prop}, (zC (dd + 1) 136 [(0, a), (0, i)] w P ↔ P (128 + (5 * a + i)) w) := fun i hi _ _ _ => L_ofE (by omega) ⟨hi.1, by have := hi.2; omega⟩
  have hme : ∀ i, zrg n i → ∀ {dd : Nat} {w : zM} {P : Int → zM → Prop}, (zC (dd + 1) 136 [(0, b), (0, i)] w P ↔ P (128 + (5 * b + i)) w) := fun i hi _ _ _ => L_ofE (by omega) ⟨hi.1, by have := hi.2; omega⟩
  obtain ⟨G, hG⟩ : ∃ G : Int → zM → Prop, G = fun k w => zfr [(43, -1)] μ w ∧ ∀ c, 0 ≤ c → c < k → w 43 c = v c := ⟨_, rfl⟩
  have G1 : ∀ {k w}, G k w → zfr [(43, -1)] μ w := fun {k w} h => by rw [hG] at h; exact h.1
  have Gu : ∀ {k w x}, G k w → G k (zu w 43 k x) := fun {k w x} h => by
    rw [hG] at h ⊢
    exact ⟨zfr_w h.1 (by decide), fun c c0 c1 => by rw [zu_ne (by omega)]; exact h.2 c c0 c1⟩
  have hj : ∀ k i s, zrg n k → zrg n i → (∀ w, G k w → w 43 k = zx (vT N n l m (i + 1) 0 k) → ∀ x, zR (d + 4) 140 Q 43 [(2, 39), (0, a), (0, b), (0, s), (0, k), (0, i + 1), x] [] w) → ∀ j w, 0 ≤ j → j ≤ n → (G k w ∧ w 43 k = zx (vT N n l m i j k)) → zR (d + 4) 140 Q 57 [(2, 39), (0, a), (0, b), (0, s), (0, k), (0, i), (0, j)] [] w := by
    intro k i s hk hi hnext
    refine zloop (n := n) (Inv := fun j w => G k w ∧ w 43 k = zx (vT N n l m i j k)) ?_ ?_
    · rintro j w j0 j1 ⟨hg, g⟩ ih
      have f := G1 hg
      have e40 : w 40 = μ 40 := zfr_c f (by decide)
      have e1 : w 40 1 = n := by rw [e40, hz]
      have el : w 40 (128 + (5 * a + i)) = l i := by rw [e40, hl]
      have em : w 40 (128 + (5 * b + j)) = m j := by rw [e40, hm]
      have k0 := hk.1
      have k1 := hk.2
      have i0 := hi.1
      have i1 := hi.2
      rw [u140_57]
      simp only [k140_57, e140, k140_0, u140_14, k140_14, u140_16, k140_16, u140_121, k140_121, u140_127, k140_127, u140_149, k140_149, u140_150, k140_150, u140_157, k140_157, u140_217, k140_217, u140_226, k140_226, u140_228, k140_228, zO_nop, zO_goto, zO_iload_n0, zO_iload_n1, zO_iload_n2, zO_iload_n3, zO_iload, zO_lload_n0, zO_lload_n1, zO_lload_n2, zO_lload_n3, zO_lload, zO_aload_n0, zO_aload_n1, zO_aload_n2, zO_aload_n3, zO_aload, zO_istore_n0, zO_istore_n1, zO_istore_n2, zO_istore_n3, zO_istore, zO_astore_n0, zO_astore_n1, zO_astore_n2, zO_astore_n3, zO_astore, zO_lstore, zO_iinc, zO_iconst, zO_bipush, zO_sipush, zO_lconst0, zO_lconst1, zO_ldc, zO_ldc2_w, zO_iadd, zO_isub, zO_imul, zO_idiv, zO_irem, zO_ineg, zO_iand, zO_ior, zO_ixor, zO_ishl, zO_ishr, zO_iushr, zO_ladd, zO_lmul, zO_land, zO_lor, zO_lshl, zO_lcmp, zO_i2l, zO_l2i, zO_i2b, zO_dup0, zO_dup2, zO_dup200, zO_dup202, zO_dup220, zO_dup222, zO_ifCond_eq, zO_ifCond_ne, zO_ifCond_lt, zO_ifCond_ge, zO_ifCond_gt, zO_ifCond_le, zO_if_icmp_eq, zO_if_icmp_ne, zO_if_icmp_lt, zO_if_icmp_ge, zO_if_icmp_gt, zO_if_icmp_le, zO_getfield, zO_putfield, zO_iaload, zO_baload, zO_laload, zO_iastore, zO_bastore, zO_lastore, zO_arraylength, zO_invokevirtual, zO_lreturn, zO_areturn, zO_return_, zO_tableswitch, zO_lookupswitch, zO_is0, zO_is1, zO_is2, zO_is3, zO_is4, zO_is9, zO_is10, zO_is11, zO_is12, zO_ir1, zO_ir4, zB_c, zLd_0, zLd_s, zSt_c, zSt2_c, zU_c, zD_c, zY_c, zSw_n, zSw_c, zCall_c, zVirt_c, zP_0, zP_1, zP_2, zP_3, zP_4, zGet_n, zGet_z, zPut_n, zPut_z, zcw_n, zcw_0, zcw_1, zcw_2, List.length_cons, List.length_nil, List.take_succ_cons, List.take_zero, List.drop_succ_cons, List.drop_zero, List.reverse_cons, List.reverse_nil, List.nil_append, List.cons_append, List.append_nil, List.set_cons_zero, List.set_cons_succ, List.getD_cons_zero, List.getD_cons_succ, true_and, and_true, ne_eq, not_false_eq_true, not_true_eq_false, zif, Nat.reduceAdd, Nat.reduceLeDiff, Nat.reduceLT, Nat.reduceSub, Nat.reduceEqDiff, Nat.zero_le, Nat.lt_add_one, Nat.reduceMod, false_implies, true_implies, implies_true, forall_const, Int.reduceLE, Int.reduceLT, Int.reduceEq, Int.reduceNeg, ite10_0, ite10_1, zem, zem2, Classical.not_not, and_self, or_true, true_or, or_false, false_or, zT_39, zN_39, zGf_192_39, zGf_193_39, zGf_194_39, zPf_194_39, zGf_195_39, zGf_196_39, zGf_197_39, zGf_198_39, zPf_198_39, zGf_199_39, zPf_199_39, zGf_200_39, zPf_200_39, zGf_201_39, zGf_202_39, zPf_202_39, zGf_203_39, zGf_204_39, zPf_204_39, zGf_205_39, zGf_206_39, zGf_207_39, zGf_208_39, zGf_209_39, zGf_210_39, zGf_211_39, zGf_212_39, zGf_213_39, zGf_214_39, zPf_214_39, zGf_215_39, zGf_216_39, zAl_40, zAs_40, zAl_43, zAs_43, e1, hle i hi, hme j ⟨j0, j1⟩, el, em, hat f hi ⟨j0, j1⟩ hk]
      rw [zw_e (by omega) (by omega)]
      have ih2 := ih (zu w 43 k (zx (w 43 k + zx (zx (l i * m j) * N i j k)))) ⟨Gu hg, by
        rw [zu_at, g, zx_ml, zx_ar, zx_al]
        unfold vT
        rw [zs_s _ j0, Int.add_assoc]⟩
      refine ⟨fun _ => ?_, fun e => absurd j1 e⟩
      (repeat' (first | assumption | (with_reducible refine And.intro ?_ ?_) | (intro hh; first | subst hh | skip)))
      all_goals omega
    · rintro w ⟨hg, g⟩
      have e40 : w 40 = μ 40 := zfr_c (G1 hg) (by decide)
      have e1 : w 40 1 = n := by rw [e40, hz]
      rw [u140_57]
      simp only [k140_57, e140, k140_0, u140_14, k140_14, u140_16, k140_16, u140_121, k140_121, u140_127, k140_127, u140_149, k140_149, u140_150, k140_150, u140_157, k140_157, u140_217, k140_217, u140_226, k140_226, u140_228, k140_228, zO_nop, zO_goto, zO_iload_n0, zO_iload_n1, zO_iload_n2, zO_iload_n3, zO_iload, zO_lload_n0, zO_lload_n1, zO_lload_n2, zO_lload_n3, zO_lload, zO_aload_n0, zO_aload_n1, zO_aload_n2, zO_aload_n3, zO_aload, zO_istore_n0, zO_istore_n1, zO_istore_n2, zO_istore_n3, zO_istore, zO_astore_n0, zO_astore_n1, zO_astore_n2, zO_astore_n3, zO_astore, zO_lstore, zO_iinc, zO_iconst, zO_bipush, zO_sipush, zO_lconst0, zO_lconst1, zO_ldc, zO_ldc2_w, zO_iadd, zO_isub, zO_imul, zO_idiv, zO_irem, zO_ineg, zO_iand, zO_ior, zO_ixor, zO_ishl, zO_ishr, zO_iushr, zO_ladd, zO_lmul, zO_land, zO_lor, zO_lshl, zO_lcmp, zO_i2l, zO_l2i, zO_i2b, zO_dup0, zO_dup2, zO_dup200, zO_dup202, zO_dup220, zO_dup222, zO_ifCond_eq, zO_ifCond_ne, zO_ifCond_lt, zO_ifCond_ge, zO_ifCond_gt, zO_ifCond_le, zO_if_icmp_eq, zO_if_icmp_ne, zO_if_icmp_lt, zO_if_icmp_ge, zO_if_icmp_gt, zO_if_icmp_le, zO_getfield, zO_putfield, zO_iaload, zO_baload, zO_laload, zO_iastore, zO_bastore, zO_lastore, zO_arraylength, zO_invokevirtual, zO_lreturn, zO_areturn, zO_return_, zO_tableswitch, zO_lookupswitch, zO_is0, zO_is1, zO_is2, zO_is3, zO_is4, zO_is9, zO_is10, zO_is11, zO_is12, zO_ir1, zO_ir4, zB_c, zLd_0, zLd_s, zSt_c, zSt2_c, zU_c, zD_c, zY_c, zSw_n, zSw_c, zCall_c, zVirt_c, zP_0, zP_1, zP_2, zP_3, zP_4, zGet_n, zGet_z, zPut_n, zPut_z, zcw_n, zcw_0, zcw_1, zcw_2, List.length_cons, List.length_nil, List.take_succ_cons, List.take_zero, List.drop_succ_cons, List.drop_zero, List.reverse_cons, List.reverse_nil, List.nil_append, List.cons_append, List.append_nil, List.set_cons_zero, List.set_cons_succ, List.getD_cons_zero, List.getD_cons_succ, true_and, and_true, ne_eq, not_false_eq_true, not_true_eq_false, zif, Nat.reduceAdd, Nat.reduceLeDiff, Nat.reduceLT, Nat.reduceSub, Nat.reduceEqDiff, Nat.zero_le, Nat.lt_add_one, Nat.reduceMod, false_implies, true_implies, implies_true, forall_const, Int.reduceLE, Int.reduceLT, Int.reduceEq, Int.reduceNeg, ite10_0, ite10_1, zem, zem2, Classical.not_not, and_self, or_true, true_or, or_false, false_or, zT_39, zN_39, zGf_192_39, zGf_193_39, zGf_194_39, zPf_194_39, zGf_195_39, zGf_196_39, zGf_197_39, zGf_198_39, zPf_198_39, zGf_199_39, zPf_199_39, zGf_200_39, zPf_200_39, zGf_201_39, zGf_202_39, zPf_202_39, zGf_203_39, zGf_204_39, zPf_204_39, zGf_205_39, zGf_206_39, zGf_207_39, zGf_208_39, zGf_209_39, zGf_210_39, zGf_211_39, zGf_212_39, zGf_213_39, zGf_214_39, zPf_214_39, zGf_215_39, zGf_216_39, zAl_40, zAs_40, zAl_43, zAs_43, e1]
      refine ⟨fun e => absurd e (by omega), fun _ => ?_⟩
      rw [zw_e (by have := hi.1; omega) (by have := hi.2; omega)]
      refine hnext w hg ?_ _
      rw [g]
      unfold vT
      rw [zs_s _ hi.1, zs_0, Int.add_zero]
  have vT0 : ∀ k, vT N n l m n 0 k = v k := fun k => by
    rw [hv]
    unfold vT vS
    rw [zs_0, Int.add_zero]
  obtain ⟨B, hB⟩ : ∃ B : Int → Int → Prop, B = fun k s => (s = 1 ∧ ∀ c, 0 ≤ c → c < k → v c ≤ 999) ∨ (s = 0 ∧ ∃ c, zrg n c ∧ 999 < v c) := ⟨_, rfl⟩
  have hi : ∀ k s, zrg n k → B k s → (∀ w s', G (k + 1) w → B (k + 1) s' → ∀ x y, zR (d + 4) 140 Q 21 [(2, 39), (0, a), (0, b), (0, s'), (0, k + 1), x, y] [] w) → ∀ i w, 0 ≤ i → i ≤ n → (G k w ∧ w 43 k = zx (vT N n l m i 0 k)) → ∀ x, zR (d + 4) 140 Q 43 [(2, 39), (0, a), (0, b), (0, s), (0, k), (0, i), x] [] w := by
    intro k s hk hs hnext
    refine zloop (n := n) (Inv := fun i w => G k w ∧ w 43 k = zx (vT N n l m i 0 k)) (R := fun i w => ∀ x, zR (d + 4) 140 Q 43 [(2, 39), (0, a), (0, b), (0, s), (0, k), (0, i), x] [] w) ?_ ?_
    · rintro i w i0 i1 ⟨hg, g⟩ ih x
      have e40 : w 40 = μ 40 := zfr_c (G1 hg) (by decide)
      have e1 : w 40 1 = n := by rw [e40, hz]
      rw [u140_43]
      simp only [k140_43, zO_nop, zO_goto, zO_iload_n0, zO_iload_n1, zO_iload_n2, zO_iload_n3, zO_iload, zO_lload_n0, zO_lload_n1, zO_lload_n2, zO_lload_n3, zO_lload, zO_aload_n0, zO_aload_n1, zO_aload_n2, zO_aload_n3, zO_aload, zO_istore_n0, zO_istore_n1, zO_istore_n2, zO_istore_n3, zO_istore, zO_astore_n0, zO_astore_n1, zO_astore_n2, zO_astore_n3, zO_astore, zO_lstore, zO_iinc, zO_iconst, zO_bipush, zO_sipush, zO_lconst0, zO_lconst1, zO_ldc, zO_ldc2_w, zO_iadd, zO_isub, zO_imul, zO_idiv, zO_irem, zO_ineg, zO_iand, zO_ior, zO_ixor, zO_ishl, zO_ishr, zO_iushr, zO_ladd, zO_lmul, zO_land, zO_lor, zO_lshl, zO_lcmp, zO_i2l, zO_l2i, zO_i2b, zO_dup0, zO_dup2, zO_dup200, zO_dup202, zO_dup220, zO_dup222, zO_ifCond_eq, zO_ifCond_ne, zO_ifCond_lt, zO_ifCond_ge, zO_ifCond_gt, zO_ifCond_le, zO_if_icmp_eq, zO_if_icmp_ne, zO_if_icmp_lt, zO_if_icmp_ge, zO_if_icmp_gt, zO_if_icmp_le, zO_getfield, zO_putfield, zO_iaload, zO_baload, zO_laload, zO_iastore, zO_bastore, zO_lastore, zO_arraylength, zO_invokevirtual, zO_lreturn, zO_areturn, zO_return_, zO_tableswitch, zO_lookupswitch, zO_is0, zO_is1, zO_is2, zO_is3, zO_is4, zO_is9, zO_is10, zO_is11, zO_is12, zO_ir1, zO_ir4, zB_c, zLd_0, zLd_s, zSt_c, zSt2_c, zU_c, zD_c, zY_c, zSw_n, zSw_c, zCall_c, zVirt_c, zP_0, zP_1, zP_2, zP_3, zP_4, zGet_n, zGet_z, zPut_n, zPut_z, zcw_n, zcw_0, zcw_1, zcw_2, List.length_cons, List.length_nil, List.take_succ_cons, List.take_zero, List.drop_succ_cons, List.drop_zero, List.reverse_cons, List.reverse_nil, List.nil_append, List.cons_append, List.append_nil, List.set_cons_zero, List.set_cons_succ, List.getD_cons_zero, List.getD_cons_succ, true_and, and_true, ne_eq, not_false_eq_true, not_true_eq_false, zif, Nat.reduceAdd, Nat.reduceLeDiff, Nat.reduceLT, Nat.reduceSub, Nat.reduceEqDiff, Nat.zero_le, Nat.lt_add_one, Nat.reduceMod, false_implies, true_implies, implies_true, forall_const, Int.reduceLE, Int.reduceLT, Int.reduceEq, Int.reduceNeg, ite10_0, ite10_1, zem, zem2, Classical.not_not, and_self, or_true, true_or, or_false, false_or, zT_39, zN_39, zGf_192_39, zGf_193_39, zGf_194_39, zPf_194_39, zGf_195_39, zGf_196_39, zGf_197_39, zGf_198_39, zPf_198_39, zGf_199_39, zPf_199_39, zGf_200_39, zPf_200_39, zGf_201_39, zGf_202_39, zPf_202_39, zGf_203_39, zGf_204_39, zPf_204_39, zGf_205_39, zGf_206_39, zGf_207_39, zGf_208_39, zGf_209_39, zGf_210_39, zGf_211_39, zGf_212_39, zGf_213_39, zGf_214_39, zPf_214_39, zGf_215_39, zGf_216_39, zAl_40, zAs_40, zAl_43, zAs_43, e1]
      exact ⟨fun _ => hj k i s hk ⟨i0, i1⟩ (fun w h1 h2 x => ih w ⟨h1, h2⟩ x) 0 w (by omega) (by omega) ⟨hg, g⟩, fun e => absurd i1 e⟩
    · rintro w ⟨hg, g⟩ x
      have e40 : w 40 = μ 40 := zfr_c (G1 hg) (by decide)
      have e1 : w 40 1 = n := by rw [e40, hz]
      have hvk := hvb k hk
      have gk : w 43 k = v k := by rw [g, vT0]; exact zx_e (by omega) (by omega)
      have hg2 : G (k + 1) w := by
        rw [hG] at hg ⊢
        refine ⟨hg.1, fun c c0 c1 => ?_⟩
        by_cases q : c = k
        · rw [q]; exact gk
        · exact hg.2 c c0 (by omega)
      have k0 := hk.1
      have k1 := hk.2
      rw [hB] at hs
      have h1 : s = 1 → v k ≤ 999 → zR (d + 4) 140 Q 21 [(2, 39), (0, a), (0, b), (0, 1), (0, k + 1), (0, n), x] [] w := fun q1 q2 => hnext w 1 hg2 (by
        rw [hB]
        rcases hs with ⟨-, q⟩ | ⟨q, -⟩
        · refine Or.inl ⟨rfl, fun c c0 c1 => ?_⟩
          by_cases q3 : c = k
          · rw [q3]; exact q2
          · exact q c c0 (by omega)
        · omega) _ _
      have h0 : (s = 0 ∨ 999 < v k) → zR (d + 4) 140 Q 21 [(2, 39), (0, a), (0, b), (0, 0), (0, k + 1), (0, n), x] [] w := fun q1 => hnext w 0 hg2 (by
        rw [hB]
        refine Or.inr ⟨rfl, ?_⟩
        rcases q1 with q1 | q1
        · rcases hs with ⟨q, -⟩ | ⟨-, q⟩
          · omega
          · exact q
        · exact ⟨k, hk, q1⟩) _ _
      rw [u140_43]
      simp only [k140_43, e140, k140_0, u140_14, k140_14, u140_16, k140_16, u140_121, k140_121, u140_127, k140_127, u140_149, k140_149, u140_150, k140_150, u140_157, k140_157, u140_217, k140_217, u140_226, k140_226, u140_228, k140_228, zO_nop, zO_goto, zO_iload_n0, zO_iload_n1, zO_iload_n2, zO_iload_n3, zO_iload, zO_lload_n0, zO_lload_n1, zO_lload_n2, zO_lload_n3, zO_lload, zO_aload_n0, zO_aload_n1, zO_aload_n2, zO_aload_n3, zO_aload, zO_istore_n0, zO_istore_n1, zO_istore_n2, zO_istore_n3, zO_istore, zO_astore_n0, zO_astore_n1, zO_astore_n2, zO_astore_n3, zO_astore, zO_lstore, zO_iinc, zO_iconst, zO_bipush, zO_sipush, zO_lconst0, zO_lconst1, zO_ldc, zO_ldc2_w, zO_iadd, zO_isub, zO_imul, zO_idiv, zO_irem, zO_ineg, zO_iand, zO_ior, zO_ixor, zO_ishl, zO_ishr, zO_iushr, zO_ladd, zO_lmul, zO_land, zO_lor, zO_lshl, zO_lcmp, zO_i2l, zO_l2i, zO_i2b, zO_dup0, zO_dup2, zO_dup200, zO_dup202, zO_dup220, zO_dup222, zO_ifCond_eq, zO_ifCond_ne, zO_ifCond_lt, zO_ifCond_ge, zO_ifCond_gt, zO_ifCond_le, zO_if_icmp_eq, zO_if_icmp_ne, zO_if_icmp_lt, zO_if_icmp_ge, zO_if_icmp_gt, zO_if_icmp_le, zO_getfield, zO_putfield, zO_iaload, zO_baload, zO_laload, zO_iastore, zO_bastore, zO_lastore, zO_arraylength, zO_invokevirtual, zO_lreturn, zO_areturn, zO_return_, zO_tableswitch, zO_lookupswitch, zO_is0, zO_is1, zO_is2, zO_is3, zO_is4, zO_is9, zO_is10, zO_is11, zO_is12, zO_ir1, zO_ir4, zB_c, zLd_0, zLd_s, zSt_c, zSt2_c, zU_c, zD_c, zY_c, zSw_n, zSw_c, zCall_c, zVirt_c, zP_0, zP_1, zP_2, zP_3, zP_4, zGet_n, zGet_z, zPut_n, zPut_z, zcw_n, zcw_0, zcw_1, zcw_2, List.length_cons, List.length_nil, List.take_succ_cons, List.take_zero, List.drop_succ_cons, List.drop_zero, List.reverse_cons, List.reverse_nil, List.nil_append, List.cons_append, List.append_nil, List.set_cons_zero, List.set_cons_succ, List.getD_cons_zero, List.getD_cons_succ, true_and, and_true, ne_eq, not_false_eq_true, not_true_eq_false, zif, Nat.reduceAdd, Nat.reduceLeDiff, Nat.reduceLT, Nat.reduceSub, Nat.reduceEqDiff, Nat.zero_le, Nat.lt_add_one, Nat.reduceMod, false_implies, true_implies, implies_true, forall_const, Int.reduceLE, Int.reduceLT, Int.reduceEq, Int.reduceNeg, ite10_0, ite10_1, zem, zem2, Classical.not_not, and_self, or_true, true_or, or_false, false_or, zT_39, zN_39, zGf_192_39, zGf_193_39, zGf_194_39, zPf_194_39, zGf_195_39, zGf_196_39, zGf_197_39, zGf_198_39, zPf_198_39, zGf_199_39, zPf_199_39, zGf_200_39, zPf_200_39, zGf_201_39, zGf_202_39, zPf_202_39, zGf_203_39, zGf_204_39, zPf_204_39, zGf_205_39, zGf_206_39, zGf_207_39, zGf_208_39, zGf_209_39, zGf_210_39, zGf_211_39, zGf_212_39, zGf_213_39, zGf_214_39, zPf_214_39, zGf_215_39, zGf_216_39, zAl_40, zAs_40, zAl_43, zAs_43, e1, gk, zcmp_gt]
      rw [zw_e (by omega) (by omega)]
      have hs01 : s = 0 ∨ s = 1 := by rcases hs with ⟨q, -⟩ | ⟨q, -⟩ <;> omega
      refine ⟨fun e => absurd e (by omega), fun _ => ⟨fun e => h0 (Or.inl e), fun e => ⟨k0, by omega, fun e2 => h0 (Or.inr e2), fun e2 => h1 (by omega) (by omega)⟩⟩⟩
  have hlast : (∀ c, zrg n c → v c ≤ 999) → ∀ u0, G n u0 → ∀ k w, 0 ≤ k → k ≤ n → (zfr [(40, -1)] u0 w ∧ ∀ i, w 40 i = if 128 + 5 * a ≤ i ∧ i < 128 + 5 * a + k then v (i - (128 + 5 * a)) else μ 40 i) → ∀ x, zR (d + 4) 140 Q 163 [(2, 39), (0, a), (0, b), (0, 1), (0, zs v k), (0, k), x] [] w := by
    intro hall u0 hg0
    have f0 := G1 hg0
    refine zloop (n := n) (Inv := fun k w => zfr [(40, -1)] u0 w ∧ ∀ i, w 40 i = if 128 + 5 * a ≤ i ∧ i < 128 + 5 * a + k then v (i - (128 + 5 * a)) else μ 40 i) (R := fun k w => ∀ x, zR (d + 4) 140 Q 163 [(2, 39), (0, a), (0, b), (0, 1), (0, zs v k), (0, k), x] [] w) ?_ ?_
    · rintro k w k0 k1 ⟨f, g⟩ ih x
      have w1 : w 40 1 = n := by rw [g, if_neg (by omega), hz]
      have w43 : w 43 k = v k := by rw [zfr_c f (by decide)]; rw [hG] at hg0; exact hg0.2 k k0 k1
      have b1 := zs_bd (f := v) (b := 999) (n := n) (fun i i0 i1 => ⟨(hvb i ⟨i0, i1⟩).1, hall i ⟨i0, i1⟩⟩) k k0 (by omega)
      have b2 := hvb k ⟨k0, k1⟩
      have b3 := hall k ⟨k0, k1⟩
      have e4 : zw (v k) = v k := zw_e (by omega) (by omega)
      have e5 : zw (zx (zs v k + v k)) = zs v (k + 1) := by rw [zs_s _ k0, zx_e (by omega) (by omega), zw_e (by omega) (by omega)]
      rw [u140_163]
      simp only [k140_163, e140, k140_0, u140_14, k140_14, u140_16, k140_16, u140_121, k140_121, u140_127, k140_127, u140_149, k140_149, u140_150, k140_150, u140_157, k140_157, u140_217, k140_217, u140_226, k140_226, u140_228, k140_228, zO_nop, zO_goto, zO_iload_n0, zO_iload_n1, zO_iload_n2, zO_iload_n3, zO_iload, zO_lload_n0, zO_lload_n1, zO_lload_n2, zO_lload_n3, zO_lload, zO_aload_n0, zO_aload_n1, zO_aload_n2, zO_aload_n3, zO_aload, zO_istore_n0, zO_istore_n1, zO_istore_n2, zO_istore_n3, zO_istore, zO_astore_n0, zO_astore_n1, zO_astore_n2, zO_astore_n3, zO_astore, zO_lstore, zO_iinc, zO_iconst, zO_bipush, zO_sipush, zO_lconst0, zO_lconst1, zO_ldc, zO_ldc2_w, zO_iadd, zO_isub, zO_imul, zO_idiv, zO_irem, zO_ineg, zO_iand, zO_ior, zO_ixor, zO_ishl, zO_ishr, zO_iushr, zO_ladd, zO_lmul, zO_land, zO_lor, zO_lshl, zO_lcmp, zO_i2l, zO_l2i, zO_i2b, zO_dup0, zO_dup2, zO_dup200, zO_dup202, zO_dup220, zO_dup222, zO_ifCond_eq, zO_ifCond_ne, zO_ifCond_lt, zO_ifCond_ge, zO_ifCond_gt, zO_ifCond_le, zO_if_icmp_eq, zO_if_icmp_ne, zO_if_icmp_lt, zO_if_icmp_ge, zO_if_icmp_gt, zO_if_icmp_le, zO_getfield, zO_putfield, zO_iaload, zO_baload, zO_laload, zO_iastore, zO_bastore, zO_lastore, zO_arraylength, zO_invokevirtual, zO_lreturn, zO_areturn, zO_return_, zO_tableswitch, zO_lookupswitch, zO_is0, zO_is1, zO_is2, zO_is3, zO_is4, zO_is9, zO_is10, zO_is11, zO_is12, zO_ir1, zO_ir4, zB_c, zLd_0, zLd_s, zSt_c, zSt2_c, zU_c, zD_c, zY_c, zSw_n, zSw_c, zCall_c, zVirt_c, zP_0, zP_1, zP_2, zP_3, zP_4, zGet_n, zGet_z, zPut_n, zPut_z, zcw_n, zcw_0, zcw_1, zcw_2, List.length_cons, List.length_nil, List.take_succ_cons, List.take_zero, List.drop_succ_cons, List.drop_zero, List.reverse_cons, List.reverse_nil, List.nil_append, List.cons_append, List.append_nil, List.set_cons_zero, List.set_cons_succ, List.getD_cons_zero, List.getD_cons_succ, true_and, and_true, ne_eq, not_false_eq_true, not_true_eq_false, zif, Nat.reduceAdd, Nat.reduceLeDiff, Nat.reduceLT, Nat.reduceSub, Nat.reduceEqDiff, Nat.zero_le, Nat.lt_add_one, Nat.reduceMod, false_implies, true_implies, implies_true, forall_const, Int.reduceLE, Int.reduceLT, Int.reduceEq, Int.reduceNeg, ite10_0, ite10_1, zem, zem2, Classical.not_not, and_self, or_true, true_or, or_false, false_or, zT_39, zN_39, zGf_192_39, zGf_193_39, zGf_194_39, zPf_194_39, zGf_195_39, zGf_196_39, zGf_197_39, zGf_198_39, zPf_198_39, zGf_199_39, zPf_199_39, zGf_200_39, zPf_200_39, zGf_201_39, zGf_202_39, zPf_202_39, zGf_203_39, zGf_204_39, zPf_204_39, zGf_205_39, zGf_206_39, zGf_207_39, zGf_208_39, zGf_209_39, zGf_210_39, zGf_211_39, zGf_212_39, zGf_213_39, zGf_214_39, zPf_214_39, zGf_215_39, zGf_216_39, zAl_40, zAs_40, zAl_43, zAs_43, w1, w43, e4, hle k ⟨k0, k1⟩, zu_d, Int.reduceEq, false_and, if_false, e5]
      rw [zw_e (by omega) (by omega)]
      have ih2 := ih (zu w 40 (128 + (5 * a + k)) (v k)) ⟨zfr_w f (by decide), fun i => by
        rw [zu_d, g]
        by_cases e : i = 128 + (5 * a + k)
        · rw [if_pos ⟨rfl, e⟩, if_pos (by omega), e]; congr 1; omega
        · rw [if_neg (fun z => e z.2)]; grind⟩ x
      (repeat' (first | assumption | (with_reducible refine And.intro ?_ ?_) | (intro hh; first | subst hh | skip)))
      all_goals omega
    · rintro w ⟨f, g⟩ x
      have w1 : w 40 1 = n := by rw [g, if_neg (by omega), hz]
      rw [u140_163]
      simp only [k140_163, e140, k140_0, u140_14, k140_14, u140_16, k140_16, u140_121, k140_121, u140_127, k140_127, u140_149, k140_149, u140_150, k140_150, u140_157, k140_157, u140_217, k140_217, u140_226, k140_226, u140_228, k140_228, zO_nop, zO_goto, zO_iload_n0, zO_iload_n1, zO_iload_n2, zO_iload_n3, zO_iload, zO_lload_n0, zO_lload_n1, zO_lload_n2, zO_lload_n3, zO_lload, zO_aload_n0, zO_aload_n1, zO_aload_n2, zO_aload_n3, zO_aload, zO_istore_n0, zO_istore_n1, zO_istore_n2, zO_istore_n3, zO_istore, zO_astore_n0, zO_astore_n1, zO_astore_n2, zO_astore_n3, zO_astore, zO_lstore, zO_iinc, zO_iconst, zO_bipush, zO_sipush, zO_lconst0, zO_lconst1, zO_ldc, zO_ldc2_w, zO_iadd, zO_isub, zO_imul, zO_idiv, zO_irem, zO_ineg, zO_iand, zO_ior, zO_ixor, zO_ishl, zO_ishr, zO_iushr, zO_ladd, zO_lmul, zO_land, zO_lor, zO_lshl, zO_lcmp, zO_i2l, zO_l2i, zO_i2b, zO_dup0, zO_dup2, zO_dup200, zO_dup202, zO_dup220, zO_dup222, zO_ifCond_eq, zO_ifCond_ne, zO_ifCond_lt, zO_ifCond_ge, zO_ifCond_gt, zO_ifCond_le, zO_if_icmp_eq, zO_if_icmp_ne, zO_if_icmp_lt, zO_if_icmp_ge, zO_if_icmp_gt, zO_if_icmp_le, zO_getfield, zO_putfield, zO_iaload, zO_baload, zO_laload, zO_iastore, zO_bastore, zO_lastore, zO_arraylength, zO_invokevirtual, zO_lreturn, zO_areturn, zO_return_, zO_tableswitch, zO_lookupswitch, zO_is0, zO_is1, zO_is2, zO_is3, zO_is4, zO_is9, zO_is10, zO_is11, zO_is12, zO_ir1, zO_ir4, zB_c, zLd_0, zLd_s, zSt_c, zSt2_c, zU_c, zD_c, zY_c, zSw_n, zSw_c, zCall_c, zVirt_c, zP_0, zP_1, zP_2, zP_3, zP_4, zGet_n, zGet_z, zPut_n, zPut_z, zcw_n, zcw_0, zcw_1, zcw_2, List.length_cons, List.length_nil, List.take_succ_cons, List.take_zero, List.drop_succ_cons, List.drop_zero, List.reverse_cons, List.reverse_nil, List.nil_append, List.cons_append, List.append_nil, List.set_cons_zero, List.set_cons_succ, List.getD_cons_zero, List.getD_cons_succ, true_and, and_true, ne_eq, not_false_eq_true, not_true_eq_false, zif, Nat.reduceAdd, Nat.reduceLeDiff, Nat.reduceLT, Nat.reduceSub, Nat.reduceEqDiff, Nat.zero_le, Nat.lt_add_one, Nat.reduceMod, false_implies, true_implies, implies_true, forall_const, Int.reduceLE, Int.reduceLT, Int.reduceEq, Int.reduceNeg, ite10_0, ite10_1, zem, zem2, Classical.not_not, and_self, or_true, true_or, or_false, false_or, zT_39, zN_39, zGf_192_39, zGf_193_39, zGf_194_39, zPf_194_39, zGf_195_39, zGf_196_39, zGf_197_39, zGf_198_39, zPf_198_39, zGf_199_39, zPf_199_39, zGf_200_39, zPf_200_39, zGf_201_39, zGf_202_39, zPf_202_39, zGf_203_39, zGf_204_39, zPf_204_39, zGf_205_39, zGf_206_39, zGf_207_39, zGf_208_39, zGf_209_39, zGf_210_39, zGf_211_39, zGf_212_39, zGf_213_39, zGf_214_39, zPf_214_39, zGf_215_39, zGf_216_39, zAl_40, zAs_40, zAl_43, zAs_43, w1]
      refine ⟨fun e => absurd e (by omega), fun _ => ?_⟩
      rw [← hQ]
      exact Or.inr ⟨hall, rfl, zfr_tr (zfr_up f0 (by decide)) (zfr_up f (by decide)), g⟩
  have hk : ∀ k (s : Int × zM), 0 ≤ k → k ≤ n → (G k s.2 ∧ B k s.1) → ∀ x y, zR (d + 4) 140 Q 21 [(2, 39), (0, a), (0, b), (0, s.1), (0, k), x, y] [] s.2 := by
    refine zloop (n := n) (Inv := fun k (s : Int × zM) => G k s.2 ∧ B k s.1) (R := fun k s => ∀ x y, zR (d + 4) 140 Q 21 [(2, 39), (0, a), (0, b), (0, s.1), (0, k), x, y] [] s.2) ?_ ?_
    · rintro k ⟨s, w⟩ k0 k1 ⟨hg, hb1⟩ ih x y
      simp only at hg hb1
      have e40 : w 40 = μ 40 := zfr_c (G1 hg) (by decide)
      have e1 : w 40 1 = n := by rw [e40, hz]
      rw [u140_21]
      simp only [k140_21, zO_nop, zO_goto, zO_iload_n0, zO_iload_n1, zO_iload_n2, zO_iload_n3, zO_iload, zO_lload_n0, zO_lload_n1, zO_lload_n2, zO_lload_n3, zO_lload, zO_aload_n0, zO_aload_n1, zO_aload_n2, zO_aload_n3, zO_aload, zO_istore_n0, zO_istore_n1, zO_istore_n2, zO_istore_n3, zO_istore, zO_astore_n0, zO_astore_n1, zO_astore_n2, zO_astore_n3, zO_astore, zO_lstore, zO_iinc, zO_iconst, zO_bipush, zO_sipush, zO_lconst0, zO_lconst1, zO_ldc, zO_ldc2_w, zO_iadd, zO_isub, zO_imul, zO_idiv, zO_irem, zO_ineg, zO_iand, zO_ior, zO_ixor, zO_ishl, zO_ishr, zO_iushr, zO_ladd, zO_lmul, zO_land, zO_lor, zO_lshl, zO_lcmp, zO_i2l, zO_l2i, zO_i2b, zO_dup0, zO_dup2, zO_dup200, zO_dup202, zO_dup220, zO_dup222, zO_ifCond_eq, zO_ifCond_ne, zO_ifCond_lt, zO_ifCond_ge, zO_ifCond_gt, zO_ifCond_le, zO_if_icmp_eq, zO_if_icmp_ne, zO_if_icmp_lt, zO_if_icmp_ge, zO_if_icmp_gt, zO_if_icmp_le, zO_getfield, zO_putfield, zO_iaload, zO_baload, zO_laload, zO_iastore, zO_bastore, zO_lastore, zO_arraylength, zO_invokevirtual, zO_lreturn, zO_areturn, zO_return_, zO_tableswitch, zO_lookupswitch, zO_is0, zO_is1, zO_is2, zO_is3, zO_is4, zO_is9, zO_is10, zO_is11, zO_is12, zO_ir1, zO_ir4, zB_c, zLd_0, zLd_s, zSt_c, zSt2_c, zU_c, zD_c, zY_c, zSw_n, zSw_c, zCall_c, zVirt_c, zP_0, zP_1, zP_2, zP_3, zP_4, zGet_n, zGet_z, zPut_n, zPut_z, zcw_n, zcw_0, zcw_1, zcw_2, List.length_cons, List.length_nil, List.take_succ_cons, List.take_zero, List.drop_succ_cons, List.drop_zero, List.reverse_cons, List.reverse_nil, List.nil_append, List.cons_append, List.append_nil, List.set_cons_zero, List.set_cons_succ, List.getD_cons_zero, List.getD_cons_succ, true_and, and_true, ne_eq, not_false_eq_true, not_true_eq_false, zif, Nat.reduceAdd, Nat.reduceLeDiff, Nat.reduceLT, Nat.reduceSub, Nat.reduceEqDiff, Nat.zero_le, Nat.lt_add_one, Nat.reduceMod, false_implies, true_implies, implies_true, forall_const, Int.reduceLE, Int.reduceLT, Int.reduceEq, Int.reduceNeg, ite10_0, ite10_1, zem, zem2, Classical.not_not, and_self, or_true, true_or, or_false, false_or, zT_39, zN_39, zGf_192_39, zGf_193_39, zGf_194_39, zPf_194_39, zGf_195_39, zGf_196_39, zGf_197_39, zGf_198_39, zPf_198_39, zGf_199_39, zPf_199_39, zGf_200_39, zPf_200_39, zGf_201_39, zGf_202_39, zPf_202_39, zGf_203_39, zGf_204_39, zPf_204_39, zGf_205_39, zGf_206_39, zGf_207_39, zGf_208_39, zGf_209_39, zGf_210_39, zGf_211_39, zGf_212_39, zGf_213_39, zGf_214_39, zPf_214_39, zGf_215_39, zGf_216_39, zAl_40, zAs_40, zAl_43, zAs_43, e1]
      refine ⟨fun _ => ⟨k0, by omega, ?_⟩, fun e => absurd k1 e⟩
      refine hi k s ⟨k0, k1⟩ hb1 (fun w s' h1 h2 x y => ih (s', w) ⟨h1, h2⟩ x y) 0 _ (by omega) (by omega) ⟨Gu hg, ?_⟩ _
      rw [zu_at]
      unfold vT
      rw [zs_0, zs_0]
      decide
    · rintro ⟨s, w⟩ ⟨hg, hb1⟩ x y
      simp only at hg hb1
      have e40 : w 40 = μ 40 := zfr_c (G1 hg) (by decide)
      have e1 : w 40 1 = n := by rw [e40, hz]
      rw [u140_21]
      simp only [k140_21, e140, k140_0, u140_14, k140_14, u140_16, k140_16, u140_121, k140_121, u140_127, k140_127, u140_149, k140_149, u140_150, k140_150, u140_157, k140_157, u140_217, k140_217, u140_226, k140_226, u140_228, k140_228, zO_nop, zO_goto, zO_iload_n0, zO_iload_n1, zO_iload_n2, zO_iload_n3, zO_iload, zO_lload_n0, zO_lload_n1, zO_lload_n2, zO_lload_n3, zO_lload, zO_aload_n0, zO_aload_n1, zO_aload_n2, zO_aload_n3, zO_aload, zO_istore_n0, zO_istore_n1, zO_istore_n2, zO_istore_n3, zO_istore, zO_astore_n0, zO_astore_n1, zO_astore_n2, zO_astore_n3, zO_astore, zO_lstore, zO_iinc, zO_iconst, zO_bipush, zO_sipush, zO_lconst0, zO_lconst1, zO_ldc, zO_ldc2_w, zO_iadd, zO_isub, zO_imul, zO_idiv, zO_irem, zO_ineg, zO_iand, zO_ior, zO_ixor, zO_ishl, zO_ishr, zO_iushr, zO_ladd, zO_lmul, zO_land, zO_lor, zO_lshl, zO_lcmp, zO_i2l, zO_l2i, zO_i2b, zO_dup0, zO_dup2, zO_dup200, zO_dup202, zO_dup220, zO_dup222, zO_ifCond_eq, zO_ifCond_ne, zO_ifCond_lt, zO_ifCond_ge, zO_ifCond_gt, zO_ifCond_le, zO_if_icmp_eq, zO_if_icmp_ne, zO_if_icmp_lt, zO_if_icmp_ge, zO_if_icmp_gt, zO_if_icmp_le, zO_getfield, zO_putfield, zO_iaload, zO_baload, zO_laload, zO_iastore, zO_bastore, zO_lastore, zO_arraylength, zO_invokevirtual, zO_lreturn, zO_areturn, zO_return_, zO_tableswitch, zO_lookupswitch, zO_is0, zO_is1, zO_is2, zO_is3, zO_is4, zO_is9, zO_is10, zO_is11, zO_is12, zO_ir1, zO_ir4, zB_c, zLd_0, zLd_s, zSt_c, zSt2_c, zU_c, zD_c, zY_c, zSw_n, zSw_c, zCall_c, zVirt_c, zP_0, zP_1, zP_2, zP_3, zP_4, zGet_n, zGet_z, zPut_n, zPut_z, zcw_n, zcw_0, zcw_1, zcw_2, List.length_cons, List.length_nil, List.take_succ_cons, List.take_zero, List.drop_succ_cons, List.drop_zero, List.reverse_cons, List.reverse_nil, List.nil_append, List.cons_append, List.append_nil, List.set_cons_zero, List.set_cons_succ, List.getD_cons_zero, List.getD_cons_succ, true_and, and_true, ne_eq, not_false_eq_true, not_true_eq_false, zif, Nat.reduceAdd, Nat.reduceLeDiff, Nat.reduceLT, Nat.reduceSub, Nat.reduceEqDiff, Nat.zero_le, Nat.lt_add_one, Nat.reduceMod, false_implies, true_implies, implies_true, forall_const, Int.reduceLE, Int.reduceLT, Int.reduceEq, Int.reduceNeg, ite10_0, ite10_1, zem, zem2, Classical.not_not, and_self, or_true, true_or, or_false, false_or, zT_39, zN_39, zGf_192_39, zGf_193_39, zGf_194_39, zPf_194_39, zGf_195_39, zGf_196_39, zGf_197_39, zGf_198_39, zPf_198_39, zGf_199_39, zPf_199_39, zGf_200_39, zPf_200_39, zGf_201_39, zGf_202_39, zPf_202_39, zGf_203_39, zGf_204_39, zPf_204_39, zGf_205_39, zGf_206_39, zGf_207_39, zGf_208_39, zGf_209_39, zGf_210_39, zGf_211_39, zGf_212_39, zGf_213_39, zGf_214_39, zPf_214_39, zGf_215_39, zGf_216_39, zAl_40, zAs_40, zAl_43, zAs_43, e1]
      refine ⟨fun e => absurd e (by omega), fun _ => ?_⟩
      rw [hB] at hb1
      rcases hb1 with ⟨rfl, hall⟩ | ⟨rfl, hex⟩
      · exact hlast (fun c hc => hall c hc.1 hc.2) w hg 0 w (by omega) (by omega) ⟨zfr_rf, fun i => by rw [if_neg (by omega), e40]⟩ _
      · rw [u140_163]
        simp only [k140_163, e140, k140_0, u140_14, k140_14, u140_16, k140_16, u140_121, k140_121, u140_127, k140_127, u140_149, k140_149, u140_150, k140_150, u140_157, k140_157, u140_217, k140_217, u140_226, k140_226, u140_228, k140_228, zO_nop, zO_goto, zO_iload_n0, zO_iload_n1, zO_iload_n2, zO_iload_n3, zO_iload, zO_lload_n0, zO_lload_n1, zO_lload_n2, zO_lload_n3, zO_lload, zO_aload_n0, zO_aload_n1, zO_aload_n2, zO_aload_n3, zO_aload, zO_istore_n0, zO_istore_n1, zO_istore_n2, zO_istore_n3, zO_istore, zO_astore_n0, zO_astore_n1, zO_astore_n2, zO_astore_n3, zO_astore, zO_lstore, zO_iinc, zO_iconst, zO_bipush, zO_sipush, zO_lconst0, zO_lconst1, zO_ldc, zO_ldc2_w, zO_iadd, zO_isub, zO_imul, zO_idiv, zO_irem, zO_ineg, zO_iand, zO_ior, zO_ixor, zO_ishl, zO_ishr, zO_iushr, zO_ladd, zO_lmul, zO_land, zO_lor, zO_lshl, zO_lcmp, zO_i2l, zO_l2i, zO_i2b, zO_dup0, zO_dup2, zO_dup200, zO_dup202, zO_dup220, zO_dup222, zO_ifCond_eq, zO_ifCond_ne, zO_ifCond_lt, zO_ifCond_ge, zO_ifCond_gt, zO_ifCond_le, zO_if_icmp_eq, zO_if_icmp_ne, zO_if_icmp_lt, zO_if_icmp_ge, zO_if_icmp_gt, zO_if_icmp_le, zO_getfield, zO_putfield, zO_iaload, zO_baload, zO_laload, zO_iastore, zO_bastore, zO_lastore, zO_arraylength, zO_invokevirtual, zO_lreturn, zO_areturn, zO_return_, zO_tableswitch, zO_lookupswitch, zO_is0, zO_is1, zO_is2, zO_is3, zO_is4, zO_is9, zO_is10, zO_is11, zO_is12, zO_ir1, zO_ir4, zB_c, zLd_0, zLd_s, zSt_c, zSt2_c, zU_c, zD_c, zY_c, zSw_n, zSw_c, zCall_c, zVirt_c, zP_0, zP_1, zP_2, zP_3, zP_4, zGet_n, zGet_z, zPut_n, zPut_z, zcw_n, zcw_0, zcw_1, zcw_2, List.length_cons, List.length_nil, List.take_succ_cons, List.take_zero, List.drop_succ_cons, List.drop_zero, List.reverse_cons, List.reverse_nil, List.nil_append, List.cons_append, List.append_nil, List.set_cons_zero, List.set_cons_succ, List.getD_cons_zero, List.getD_cons_succ, true_and, and_true, ne_eq, not_false_eq_true, not_true_eq_false, zif, Nat.reduceAdd, Nat.reduceLeDiff, Nat.reduceLT, Nat.reduceSub, Nat.reduceEqDiff, Nat.zero_le, Nat.lt_add_one, Nat.reduceMod, false_implies, true_implies, implies_true, forall_const, Int.reduceLE, Int.reduceLT, Int.reduceEq, Int.reduceNeg, ite10_0, ite10_1, zem, zem2, Classical.not_not, and_self, or_true, true_or, or_false, false_or, zT_39, zN_39, zGf_192_39, zGf_193_39, zGf_194_39, zPf_194_39, zGf_195_39, zGf_196_39, zGf_197_39, zGf_198_39, zPf_198_39, zGf_199_39, zPf_199_39, zGf_200_39, zPf_200_39, zGf_201_39, zGf_202_39, zPf_202_39, zGf_203_39, zGf_204_39, zPf_204_39, zGf_205_39, zGf_206_39, zGf_207_39, zGf_208_39, zGf_209_39, zGf_210_39, zGf_211_39, zGf_212_39, zGf_213_39, zGf_214_39, zPf_214_39, zGf_215_39, zGf_216_39, zAl_40, zAs_40, zAl_43, zAs_43]
        rw [← hQ]
        exact Or.inl ⟨hex, rfl, G1 hg⟩
  simp only [e140, k140_0, e140, k140_0, u140_14, k140_14, u140_16, k140_16, u140_121, k140_121, u140_127, k140_127, u140_149, k140_149, u140_150, k140_150, u140_157, k140_157, u140_217, k140_217, u140_226, k140_226, u140_228, k140_228, zO_nop, zO_goto, zO_iload_n0, zO_iload_n1, zO_iload_n2, zO_iload_n3, zO_iload, zO_lload_n0, zO_lload_n1, zO_lload_n2, zO_lload_n3, zO_lload, zO_aload_n0, zO_aload_n1, zO_aload_n2, zO_aload_n3, zO_aload, zO_istore_n0, zO_istore_n1, zO_istore_n2, zO_istore_n3, zO_istore, zO_astore_n0, zO_astore_n1, zO_astore_n2, zO_astore_n3, zO_astore, zO_lstore, zO_iinc, zO_iconst, zO_bipush, zO_sipush, zO_lconst0, zO_lconst1, zO_ldc, zO_ldc2_w, zO_iadd, zO_isub, zO_imul, zO_idiv, zO_irem, zO_ineg, zO_iand, zO_ior, zO_ixor, zO_ishl, zO_ishr, zO_iushr, zO_ladd, zO_lmul, zO_land, zO_lor, zO_lshl, zO_lcmp, zO_i2l, zO_l2i, zO_i2b, zO_dup0, zO_dup2, zO_dup200, zO_dup202, zO_dup220, zO_dup222, zO_ifCond_eq, zO_ifCond_ne, zO_ifCond_lt, zO_ifCond_ge, zO_ifCond_gt, zO_ifCond_le, zO_if_icmp_eq, zO_if_icmp_ne, zO_if_icmp_lt, zO_if_icmp_ge, zO_if_icmp_gt, zO_if_icmp_le, zO_getfield, zO_putfield, zO_iaload, zO_baload, zO_laload, zO_iastore, zO_bastore, zO_lastore, zO_arraylength, zO_invokevirtual, zO_lreturn, zO_areturn, zO_return_, zO_tableswitch, zO_lookupswitch, zO_is0, zO_is1, zO_is2, zO_is3, zO_is4, zO_is9, zO_is10, zO_is11, zO_is12, zO_ir1, zO_ir4, zB_c, zLd_0, zLd_s, zSt_c, zSt2_c, zU_c, zD_c, zY_c, zSw_n, zSw_c, zCall_c, zVirt_c, zP_0, zP_1, zP_2, zP_3, zP_4, zGet_n, zGet_z, zPut_n, zPut_z, zcw_n, zcw_0, zcw_1, zcw_2, List.length_cons, List.length_nil, List.take_succ_cons, List.take_zero, List.drop_succ_cons, List.drop_zero, List.reverse_cons, List.reverse_nil, List.nil_append, List.cons_append, List.append_nil, List.set_cons_zero, List.set_cons_succ, List.getD_cons_zero, List.getD_cons_succ, true_and, and_true, ne_eq, not_false_eq_true, not_true_eq_false, zif, Nat.reduceAdd, Nat.reduceLeDiff, Nat.reduceLT, Nat.reduceSub, Nat.reduceEqDiff, Nat.zero_le, Nat.lt_add_one, Nat.reduceMod, false_implies, true_implies, implies_true, forall_const, Int.reduceLE, Int.reduceLT, Int.reduceEq, Int.reduceNeg, ite10_0, ite10_1, zem, zem2, Classical.not_not, and_self, or_true, true_or, or_false, false_or, zT_39, zN_39, zGf_192_39, zGf_193_39, zGf_194_39, zPf_194_39, zGf_195_39, zGf_196_39, zGf_197_39, zGf_198_39, zPf_198_39, zGf_199_39, zPf_199_39, zGf_200_39, zPf_200_39, zGf_201_39, zGf_202_39, zPf_202_39, zGf_203_39, zGf_204_39, zPf_204_39, zGf_205_39, zGf_206_39, zGf_207_39, zGf_208_39, zGf_209_39, zGf_210_39, zGf_211_39, zGf_212_39, zGf_213_39, zGf_214_39, zPf_214_39, zGf_215_39, zGf_216_39, L_isElement]
  have hfin := hk 0 (1, μ) (by omega) (by omega) ⟨by rw [hG]; exact ⟨zfr_rf, fun c c0 c1 => by omega⟩, by rw [hB]; exact Or.inl ⟨rfl, fun c c0 c1 => by omega⟩⟩ (9, 0) (9, 0)
  (repeat' (first | assumption | (with_reducible refine And.intro ?_ ?_) | (intro hh; first | subst hh | skip)))
  all_goals (first | (exfalso; omega) | (first | assumption | (exfalso; omega) | omega | (simp (disch := decide) only [zu_c]; done) | (simp (disch := decide) only [zu_c]; grind) | grind))
theorem op_together (a1 a2 : Int) : zOp 62 140 [(0, a1), (0, a2)] := by
  intro μ hr
  have hn := Rel_n hr
  by_cases hv : (0 ≤ a1 ∧ a1 < 4) ∧ (0 ≤ a2 ∧ a2 < 4)
  · obtain ⟨v, hve⟩ : ∃ v : Int → Int, v = fun k => vS (xF μ) (μ 1 1) (fun i => μ 3 (5 * a1 + i)) (fun j => μ 3 (5 * a2 + j)) k := ⟨_, rfl⟩
    obtain ⟨q0, q1, q2, q3, q4, q5, q6, q7, q8, q9⟩ := rH_1.mp hr.1
    have hvb : ∀ k, zrg (μ 1 1) k → 0 ≤ v k ∧ v k ≤ 224550225 := fun k hk => by
      rw [hve]
      exact vS_bd hn.1 (xF_nb hr) (fun i hi => (q4 (5 * a1 + i) (by have := hi.1; omega) (by have := hi.2; omega)).1) (fun i hi => (q4 (5 * a2 + i) (by have := hi.1; omega) (by have := hi.2; omega)).1) hk
    refine zuse (K_together (d := 33) hr hv.1 hv.2 hve hvb) ?_
    intro r u hu
    have h40 : u 40 = μ 40 ∧ u 98 = μ 98 ∧ u 99 = μ 99 := by
      rcases hu with ⟨-, -, -, f⟩ | ⟨-, -, u0, -, f, f2, -⟩
      · exact ⟨zfr_c f (by decide), zfr_c f (by decide), zfr_c f (by decide)⟩
      · exact ⟨by rw [zfr_c f2 (by decide), zfr_c f (by decide)], by rw [zfr_c f2 (by decide), zfr_c f (by decide)], by rw [zfr_c f2 (by decide), zfr_c f (by decide)]⟩
    refine ⟨h40.2, ?_⟩
    obtain ⟨v2, hv2⟩ : ∃ v2 : Int → Int, v2 = fun k => vS (nF u) (μ 1 1) (fun i => u 40 (128 + (5 * a1 + i))) (fun j => u 40 (128 + (5 * a2 + j))) k := ⟨_, rfl⟩
    have h12 : ∀ k, zrg (μ 1 1) k → v2 k = v k := fun k hk => by
      rw [hv2, hve, nF_fr h40.1]
      unfold vS
      refine zs_cg (by omega) (fun i hi => zs_cg (by omega) (fun j hj => ?_))
      have e1 := (q4 (5 * a1 + i) (by have := hi.1; omega) (by have := hi.2; omega)).2
      have e2 := (q4 (5 * a2 + j) (by have := hj.1; omega) (by have := hj.2; omega)).2
      simp only [h40.1, e1, e2, nF_eq hr hi hj hk]
    refine zuse (L_together (d := 35) (n := μ 1 1) hn.1 (by rw [h40.1, hn.2]) hv.1 hv.2 hv2 (fun k hk => by rw [h12 k hk]; exact hvb k hk)) ?_
    intro r' w hw
    rcases hu with ⟨⟨k, hk, hk2⟩, rfl, hru, f⟩ | ⟨hall, rfl, u0, hru, f, f2, g⟩
    · rcases hw with ⟨-, rfl, fw⟩ | ⟨hall2, -, -, -⟩
      · exact ⟨rfl, Rel_fr hru (zfr_up fw (by decide)), by rw [zfr_c fw (by decide), h40.2.1], by rw [zfr_c fw (by decide), h40.2.2]⟩
      · have := hall2 k hk
        rw [h12 k hk] at this
        omega
    · rcases hw with ⟨⟨k, hk, hk2⟩, -, -⟩ | ⟨-, rfl, fw, gw⟩
      · have := hall k hk
        rw [h12 k hk] at hk2
        omega
      · refine ⟨zs_cg (by omega) h12, ?_, by rw [zfr_c fw (by decide), h40.2.1], by rw [zfr_c fw (by decide), h40.2.2]⟩
        have fA : zfr [(3, -1), (40, -1), (43, -1)] u0 w := zfr_tr (zfr_up f2 (by decide)) (zfr_up fw (by decide))
        have w40 : ∀ i, (i < 128 ∨ 148 ≤ i) → w 40 i = u0 40 i := fun i hi => by
          rw [gw, if_neg (by omega), zfr_c f2 (by decide)]
        have w3 : w 3 = u 3 := zfr_c fw (by decide)
        have u03 : u0 3 = μ 3 := zfr_c f (by decide)
        have u040 : u0 40 = μ 40 := zfr_c f (by decide)
        obtain ⟨p0, p1, p2, p3, p4, p5, p6, p7, p8, p9⟩ := rH_1.mp hru.1
        have w1 : w 1 = u0 1 := zfr_c fA (by decide)
        have keep : ∀ c lo hi len off, rA c 40 lo hi len off u0 → w c = u0 c → (off + len ≤ 128 ∨ 148 ≤ off) → rA c 40 lo hi len off w := fun c lo hi len off h e ho i i0 i1 => by
          rw [e, w40 _ (by omega)]
          exact h i i0 i1
        refine Rel_k hru (zfr_up fA (by decide)) (rH_1.mpr ⟨?_, ?_, ?_, keep _ _ _ _ _ p3 (zfr_c fA (by decide)) (by omega), ?_, keep _ _ _ _ _ p5 (zfr_c fA (by decide)) (by omega), keep _ _ _ _ _ p6 (zfr_c fA (by decide)) (by omega), ?_, keep _ _ _ _ _ p8 (zfr_c fA (by decide)) (by omega), keep _ _ _ _ _ p9 (zfr_c fA (by decide)) (by omega)⟩)
        · rw [w1, w40 _ (by omega)]; exact p0
        · rw [w1, w40 _ (by omega)]; exact p1
        · rw [w1, w40 _ (by omega)]; exact p2
        · intro i i0 i1
          have hq := q4 i i0 i1
          rw [w3, g, gw, h40.1]
          by_cases e : 5 * a1 ≤ i ∧ i < 5 * a1 + μ 1 1
          · have hz : zrg (μ 1 1) (i - 5 * a1) := ⟨by omega, by omega⟩
            rw [if_pos e, if_pos (by omega), show 128 + i - (128 + 5 * a1) = i - 5 * a1 by omega, h12 _ hz]
            have := hvb _ hz
            have := hall _ hz
            omega
          · rw [if_neg e, if_neg (by omega)]
            exact hq
        · rw [w1, w40 _ (by omega)]; exact p7
  · simp only [e62, k62_0, e140, k140_0, e62, k62_0, u62_14, k62_14, u62_16, k62_16, u62_82, k62_82, u62_88, k62_88, u62_144, k62_144, e140, k140_0, u140_14, k140_14, u140_16, k140_16, u140_121, k140_121, u140_127, k140_127, u140_149, k140_149, u140_150, k140_150, u140_157, k140_157, u140_217, k140_217, u140_226, k140_226, u140_228, k140_228, zO_nop, zO_goto, zO_iload_n0, zO_iload_n1, zO_iload_n2, zO_iload_n3, zO_iload, zO_lload_n0, zO_lload_n1, zO_lload_n2, zO_lload_n3, zO_lload, zO_aload_n0, zO_aload_n1, zO_aload_n2, zO_aload_n3, zO_aload, zO_istore_n0, zO_istore_n1, zO_istore_n2, zO_istore_n3, zO_istore, zO_astore_n0, zO_astore_n1, zO_astore_n2, zO_astore_n3, zO_astore, zO_lstore, zO_iinc, zO_iconst, zO_bipush, zO_sipush, zO_lconst0, zO_lconst1, zO_ldc, zO_ldc2_w, zO_iadd, zO_isub, zO_imul, zO_idiv, zO_irem, zO_ineg, zO_iand, zO_ior, zO_ixor, zO_ishl, zO_ishr, zO_iushr, zO_ladd, zO_lmul, zO_land, zO_lor, zO_lshl, zO_lcmp, zO_i2l, zO_l2i, zO_i2b, zO_dup0, zO_dup2, zO_dup200, zO_dup202, zO_dup220, zO_dup222, zO_ifCond_eq, zO_ifCond_ne, zO_ifCond_lt, zO_ifCond_ge, zO_ifCond_gt, zO_ifCond_le, zO_if_icmp_eq, zO_if_icmp_ne, zO_if_icmp_lt, zO_if_icmp_ge, zO_if_icmp_gt, zO_if_icmp_le, zO_getfield, zO_putfield, zO_iaload, zO_baload, zO_laload, zO_iastore, zO_bastore, zO_lastore, zO_arraylength, zO_invokevirtual, zO_lreturn, zO_areturn, zO_return_, zO_tableswitch, zO_lookupswitch, zO_is0, zO_is1, zO_is2, zO_is3, zO_is4, zO_is9, zO_is10, zO_is11, zO_is12, zO_ir1, zO_ir4, zB_c, zLd_0, zLd_s, zSt_c, zSt2_c, zU_c, zD_c, zY_c, zSw_n, zSw_c, zCall_c, zVirt_c, zP_0, zP_1, zP_2, zP_3, zP_4, zGet_n, zGet_z, zPut_n, zPut_z, zcw_n, zcw_0, zcw_1, zcw_2, List.length_cons, List.length_nil, List.take_succ_cons, List.take_zero, List.drop_succ_cons, List.drop_zero, List.reverse_cons, List.reverse_nil, List.nil_append, List.cons_append, List.append_nil, List.set_cons_zero, List.set_cons_succ, List.getD_cons_zero, List.getD_cons_succ, true_and, and_true, ne_eq, not_false_eq_true, not_true_eq_false, zif, Nat.reduceAdd, Nat.reduceLeDiff, Nat.reduceLT, Nat.reduceSub, Nat.reduceEqDiff, Nat.zero_le, Nat.lt_add_one, Nat.reduceMod, false_implies, true_implies, implies_true, forall_const, Int.reduceLE, Int.reduceLT, Int.reduceEq, Int.reduceNeg, ite10_0, ite10_1, zem, zem2, Classical.not_not, and_self, or_true, true_or, or_false, false_or, zT_0, zN_0, zGf_160_0, zGf_161_0, zGf_162_0, zPf_162_0, zGf_163_0, zGf_164_0, zGf_165_0, zGf_166_0, zGf_167_0, zPf_167_0, zGf_168_0, zPf_168_0, zGf_169_0, zGf_170_0, zGf_171_0, zPf_171_0, zGf_172_0, zGf_173_0, zGf_174_0, zGf_175_0, zGf_176_0, zT_39, zN_39, zGf_192_39, zGf_193_39, zGf_194_39, zPf_194_39, zGf_195_39, zGf_196_39, zGf_197_39, zGf_198_39, zPf_198_39, zGf_199_39, zPf_199_39, zGf_200_39, zPf_200_39, zGf_201_39, zGf_202_39, zPf_202_39, zGf_203_39, zGf_204_39, zPf_204_39, zGf_205_39, zGf_206_39, zGf_207_39, zGf_208_39, zGf_209_39, zGf_210_39, zGf_211_39, zGf_212_39, zGf_213_39, zGf_214_39, zPf_214_39, zGf_215_39, zGf_216_39, K_isElement, L_isElement]
    (repeat' (first | assumption | (with_reducible refine And.intro ?_ ?_) | (intro hh; first | subst hh | skip)))
    all_goals (first | (exfalso; omega) | (first | assumption | (exfalso; omega) | omega | (simp (disch := decide) only [zu_c]; done) | (simp (disch := decide) only [zu_c]; grind) | grind))
