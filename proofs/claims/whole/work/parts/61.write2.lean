def wn (v : Int) : List Int := (if 100 ≤ v then [48 + v / 100] else []) ++ ((if 10 ≤ v then [48 + v / 10 % 10] else []) ++ [48 + v % 10])
theorem wl_wn {L v k : Int} (hv : 1 ≤ v) : wl L v k = (if 0 < L then [43] else []) ++ ((if 1 < v then wn v else []) ++ [97 + k]) := by
  unfold wl wn
  congr 1
  by_cases h1 : 100 ≤ v <;> by_cases h2 : 10 ≤ v <;> by_cases h3 : 1 < v
  all_goals (first | (exfalso; omega) | skip)
  all_goals simp [h1, h2, h3]
theorem wn_len {v : Int} : (wn v).length ≤ 3 := by
  unfold wn
  by_cases h1 : 100 ≤ v <;> by_cases h2 : 10 ≤ v <;> simp [h1, h2]
theorem L_wn {d : Nat} {v : Int} {μ : zM} {P : Int → zM → Prop} (hv : 2 ≤ v ∧ v ≤ 999) (h : 0 ≤ μ 39 22 ∧ μ 39 22 < 38) : zC (d + 4) 179 [(2, 39), (0, v)] μ P ↔ P 0 ((wn v).foldl pshR μ) := by
  by_cases h1 : 100 ≤ v
  · rw [L_wn3 ⟨h1, hv.2⟩ h]
    unfold wn
    rw [if_pos h1, if_pos (by omega)]
    rfl
  · by_cases h2 : 10 ≤ v
    · rw [L_wn2 (d := d + 1) ⟨h2, by omega⟩ (by omega)]
      unfold wn
      rw [if_neg h1, if_pos h2, show v / 10 % 10 = v / 10 by omega]
      rfl
    · rw [L_wn1 (d := d + 2) (by omega) (by omega)]
      unfold wn
      rw [if_neg h1, if_neg h2, show v % 10 = v by omega]
      rfl
theorem L_write {d : Nat} {e n : Int} {μ : zM} (f : Int → Int) (hn : 1 ≤ n ∧ n ≤ 5) (hz : μ 40 1 = n) (he : 0 ≤ e ∧ e < 4) (hf : ∀ k, zrg n k → μ 40 (128 + (5 * e + k)) = f k) (hfb : ∀ k, zrg n k → 0 ≤ f k ∧ f k ≤ 999) : zC (d + 5) 180 [(2, 39), (0, e)] μ (fun r u => r = ((TLe f n).length : Int) ∧ u = (TLe f n).foldl pshR (zu μ 39 22 0)) := by
  generalize hQ : (fun (r : Int) (u : zM) => r = ((TLe f n).length : Int) ∧ u = (TLe f n).foldl pshR (zu μ 39 22 0)) = Q
  have go : ∀ {b : Int} {w : zM} {P : Int → zM → Prop}, 0 ≤ w 39 22 → w 39 22 < 40 → P 0 (pshR w b) → zC (d + 4) 178 [(2, 39), (0, b)] w P := fun a b c => (L_writes ⟨a, b⟩).mpr c
  have goN : ∀ {v : Int} {w : zM} {P : Int → zM → Prop}, 2 ≤ v → v ≤ 999 → 0 ≤ w 39 22 → w 39 22 < 38 → P 0 ((wn v).foldl pshR w) → zC (d + 4) 179 [(2, 39), (0, v)] w P := fun a b c e f => (L_wn ⟨a, b⟩ ⟨c, e⟩).mpr f
  have hl : ∀ t (s : Unit), 0 ≤ t → t ≤ n → True → ∀ x, zR (d + 4) 180 Q 16 [(2, 39), (0, e), (0, t), x] [] ((TLs f t.toNat).foldl pshR (zu μ 39 22 0)) := by
    refine zloop (n := n) (Inv := fun t (_ : Unit) => True) (R := fun t _ => ∀ x, zR (d + 4) 180 Q 16 [(2, 39), (0, e), (0, t), x] [] ((TLs f t.toNat).foldl pshR (zu μ 39 22 0))) ?_ ?_
    · rintro t _ t0 t1 _ ih x
      have hw := zfr_tr (zfr_u (a := 39) (i := 22) (v := 0) (zfr_rf (S := [(39, 22), (55, -1)]) (μ := μ)) (by decide)) (pshR_F (bs := TLs f t.toNat) (μ := zu μ 39 22 0))
      have hL := pshR_L (bs := TLs f t.toNat) (μ := zu μ 39 22 0)
      rw [zu_at] at hL
      have ihx := ih () trivial
      have et : (t + 1).toNat = t.toNat + 1 := by omega
      have etc : ((t.toNat : Nat) : Int) = t := by omega
      rw [et] at ihx
      have eT : TLs f (t.toNat + 1) = TLs f t.toNat ++ (if 0 < f t then wl ((TLs f t.toNat).length) (f t) t else []) := by
        show TLs f t.toNat ++ (if 0 < f ((t.toNat : Nat) : Int) then wl ((TLs f t.toNat).length) (f ((t.toNat : Nat) : Int)) ((t.toNat : Nat) : Int) else []) = _
        rw [etc]
      rw [eT, List.foldl_append] at ihx
      have hlen := TLs_len (f := f) t.toNat
      generalize hwg : (TLs f t.toNat).foldl pshR (zu μ 39 22 0) = w at hw hL ihx ⊢
      have e40 : w 40 = μ 40 := zfr_c hw (by decide)
      have ef : μ 40 (128 + (5 * e + t)) = f t := hf t ⟨t0, t1⟩
      have hft := hfb t ⟨t0, t1⟩
      rw [Int.zero_add] at hL
      have e97 : zw (97 + t) = 97 + t := zw_e (by omega) (by omega)
      rw [u180_16]
      simp only [k180_16, e180, k180_0, u180_9, k180_9, u180_44, k180_44, u180_57, k180_57, u180_67, k180_67, u180_75, k180_75, u180_81, k180_81, u180_94, k180_94, zO_nop, zO_goto, zO_iload_n0, zO_iload_n1, zO_iload_n2, zO_iload_n3, zO_iload, zO_lload_n0, zO_lload_n1, zO_lload_n2, zO_lload_n3, zO_lload, zO_aload_n0, zO_aload_n1, zO_aload_n2, zO_aload_n3, zO_aload, zO_istore_n0, zO_istore_n1, zO_istore_n2, zO_istore_n3, zO_istore, zO_astore_n0, zO_astore_n1, zO_astore_n2, zO_astore_n3, zO_astore, zO_lstore, zO_iinc, zO_iconst, zO_bipush, zO_sipush, zO_lconst0, zO_lconst1, zO_ldc, zO_ldc2_w, zO_iadd, zO_isub, zO_imul, zO_idiv, zO_irem, zO_ineg, zO_iand, zO_ior, zO_ixor, zO_ishl, zO_ishr, zO_iushr, zO_ladd, zO_lmul, zO_land, zO_lor, zO_lshl, zO_lcmp, zO_i2l, zO_l2i, zO_i2b, zO_dup0, zO_dup2, zO_dup200, zO_dup202, zO_dup220, zO_dup222, zO_ifCond_eq, zO_ifCond_ne, zO_ifCond_lt, zO_ifCond_ge, zO_ifCond_gt, zO_ifCond_le, zO_if_icmp_eq, zO_if_icmp_ne, zO_if_icmp_lt, zO_if_icmp_ge, zO_if_icmp_gt, zO_if_icmp_le, zO_getfield, zO_putfield, zO_iaload, zO_baload, zO_laload, zO_iastore, zO_bastore, zO_lastore, zO_arraylength, zO_invokevirtual, zO_lreturn, zO_areturn, zO_return_, zO_tableswitch, zO_lookupswitch, zO_is0, zO_is1, zO_is2, zO_is3, zO_is4, zO_is9, zO_is10, zO_is11, zO_is12, zO_ir1, zO_ir4, zB_c, zLd_0, zLd_s, zSt_c, zSt2_c, zU_c, zD_c, zY_c, zSw_n, zSw_c, zCall_c, zVirt_c, zP_0, zP_1, zP_2, zP_3, zP_4, zGet_n, zGet_z, zPut_n, zPut_z, zcw_n, zcw_0, zcw_1, zcw_2, List.length_cons, List.length_nil, List.take_succ_cons, List.take_zero, List.drop_succ_cons, List.drop_zero, List.reverse_cons, List.reverse_nil, List.nil_append, List.cons_append, List.append_nil, List.set_cons_zero, List.set_cons_succ, List.getD_cons_zero, List.getD_cons_succ, true_and, and_true, ne_eq, not_false_eq_true, not_true_eq_false, zif, Nat.reduceAdd, Nat.reduceLeDiff, Nat.reduceLT, Nat.reduceSub, Nat.reduceEqDiff, Nat.zero_le, Nat.lt_add_one, Nat.reduceMod, false_implies, true_implies, implies_true, forall_const, Int.reduceLE, Int.reduceLT, Int.reduceEq, Int.reduceNeg, ite10_0, ite10_1, zem, zem2, Classical.not_not, and_self, or_true, true_or, or_false, false_or, zT_39, zN_39, zGf_192_39, zGf_193_39, zGf_194_39, zPf_194_39, zGf_195_39, zGf_196_39, zGf_197_39, zGf_198_39, zPf_198_39, zGf_199_39, zPf_199_39, zGf_200_39, zPf_200_39, zGf_201_39, zGf_202_39, zPf_202_39, zGf_203_39, zGf_204_39, zPf_204_39, zGf_205_39, zGf_206_39, zGf_207_39, zGf_208_39, zGf_209_39, zGf_210_39, zGf_211_39, zGf_212_39, zGf_213_39, zGf_214_39, zPf_214_39, zGf_215_39, zGf_216_39, zAl_40, zAs_40, e40, hz, L_ofE (show 0 ≤ e ∧ e ≤ 3 by omega) (show 0 ≤ t ∧ t ≤ 4 by omega), ef, hL, e97]
      rw [zw_e (z := t + 1) (by omega) (by omega)]
      by_cases hp : 0 < f t
      · rw [if_pos hp, wl_wn (by omega)] at ihx
        have wnl := wn_len (v := f t)
        have hz0 : ¬ f t = 0 := by omega
        by_cases h0 : 0 < ((TLs f t.toNat).length : Int) <;> by_cases h3 : 1 < f t
        all_goals simp only [h0, h3, if_true, if_false, List.nil_append, List.cons_append, List.foldl_append, List.foldl_cons, List.foldl_nil] at ihx
        all_goals have ihy := ihx (0, f t)
        all_goals simp only [h0, h3, hz0, t1, true_implies, not_true_eq_false, false_implies, and_true, true_and, not_false_eq_true]
        all_goals (repeat' (first | assumption | (with_reducible refine And.intro ?_ ?_) | (refine go ?_ ?_ ?_) | (refine goN ?_ ?_ ?_ ?_ ?_)))
        all_goals (first | omega | (simp only [pshR_l, pshR_L]; omega))
      · have hz0 : f t = 0 := by omega
        rw [if_neg hp] at ihx
        have ihy := ihx (0, 0)
        simp only [hz0, t1, true_implies, not_true_eq_false, false_implies, and_true, true_and, not_false_eq_true]
        (repeat' (first | assumption | (with_reducible refine And.intro ?_ ?_) | (intro hh; first | subst hh | skip)))
        all_goals omega
    · rintro _ _ x
      have hw := zfr_tr (zfr_u (a := 39) (i := 22) (v := 0) (zfr_rf (S := [(39, 22), (55, -1)]) (μ := μ)) (by decide)) (pshR_F (bs := TLs f n.toNat) (μ := zu μ 39 22 0))
      have hL := pshR_L (bs := TLs f n.toNat) (μ := zu μ 39 22 0)
      rw [zu_at] at hL
      have hlen := TLs_len (f := f) n.toNat
      have hfin : ((TLs f n.toNat).length = 0 → Q 1 (pshR ((TLs f n.toNat).foldl pshR (zu μ 39 22 0)) 48)) ∧ (¬ (TLs f n.toNat).length = 0 → Q ((TLs f n.toNat).length : Int) ((TLs f n.toNat).foldl pshR (zu μ 39 22 0))) := by
        refine ⟨fun h => ?_, fun h => ?_⟩
        · rw [← hQ]
          unfold TLe
          rw [if_pos h, List.length_eq_zero_iff.mp h]
          exact ⟨rfl, rfl⟩
        · rw [← hQ]
          unfold TLe
          rw [if_neg h]
          exact ⟨rfl, rfl⟩
      generalize hwg : (TLs f n.toNat).foldl pshR (zu μ 39 22 0) = w at hw hL hfin ⊢
      have e40 : w 40 = μ 40 := zfr_c hw (by decide)
      rw [Int.zero_add] at hL
      rw [u180_16]
      simp only [k180_16, e180, k180_0, u180_9, k180_9, u180_44, k180_44, u180_57, k180_57, u180_67, k180_67, u180_75, k180_75, u180_81, k180_81, u180_94, k180_94, zO_nop, zO_goto, zO_iload_n0, zO_iload_n1, zO_iload_n2, zO_iload_n3, zO_iload, zO_lload_n0, zO_lload_n1, zO_lload_n2, zO_lload_n3, zO_lload, zO_aload_n0, zO_aload_n1, zO_aload_n2, zO_aload_n3, zO_aload, zO_istore_n0, zO_istore_n1, zO_istore_n2, zO_istore_n3, zO_istore, zO_astore_n0, zO_astore_n1, zO_astore_n2, zO_astore_n3, zO_astore, zO_lstore, zO_iinc, zO_iconst, zO_bipush, zO_sipush, zO_lconst0, zO_lconst1, zO_ldc, zO_ldc2_w, zO_iadd, zO_isub, zO_imul, zO_idiv, zO_irem, zO_ineg, zO_iand, zO_ior, zO_ixor, zO_ishl, zO_ishr, zO_iushr, zO_ladd, zO_lmul, zO_land, zO_lor, zO_lshl, zO_lcmp, zO_i2l, zO_l2i, zO_i2b, zO_dup0, zO_dup2, zO_dup200, zO_dup202, zO_dup220, zO_dup222, zO_ifCond_eq, zO_ifCond_ne, zO_ifCond_lt, zO_ifCond_ge, zO_ifCond_gt, zO_ifCond_le, zO_if_icmp_eq, zO_if_icmp_ne, zO_if_icmp_lt, zO_if_icmp_ge, zO_if_icmp_gt, zO_if_icmp_le, zO_getfield, zO_putfield, zO_iaload, zO_baload, zO_laload, zO_iastore, zO_bastore, zO_lastore, zO_arraylength, zO_invokevirtual, zO_lreturn, zO_areturn, zO_return_, zO_tableswitch, zO_lookupswitch, zO_is0, zO_is1, zO_is2, zO_is3, zO_is4, zO_is9, zO_is10, zO_is11, zO_is12, zO_ir1, zO_ir4, zB_c, zLd_0, zLd_s, zSt_c, zSt2_c, zU_c, zD_c, zY_c, zSw_n, zSw_c, zCall_c, zVirt_c, zP_0, zP_1, zP_2, zP_3, zP_4, zGet_n, zGet_z, zPut_n, zPut_z, zcw_n, zcw_0, zcw_1, zcw_2, List.length_cons, List.length_nil, List.take_succ_cons, List.take_zero, List.drop_succ_cons, List.drop_zero, List.reverse_cons, List.reverse_nil, List.nil_append, List.cons_append, List.append_nil, List.set_cons_zero, List.set_cons_succ, List.getD_cons_zero, List.getD_cons_succ, true_and, and_true, ne_eq, not_false_eq_true, not_true_eq_false, zif, Nat.reduceAdd, Nat.reduceLeDiff, Nat.reduceLT, Nat.reduceSub, Nat.reduceEqDiff, Nat.zero_le, Nat.lt_add_one, Nat.reduceMod, false_implies, true_implies, implies_true, forall_const, Int.reduceLE, Int.reduceLT, Int.reduceEq, Int.reduceNeg, ite10_0, ite10_1, zem, zem2, Classical.not_not, and_self, or_true, true_or, or_false, false_or, zT_39, zN_39, zGf_192_39, zGf_193_39, zGf_194_39, zPf_194_39, zGf_195_39, zGf_196_39, zGf_197_39, zGf_198_39, zPf_198_39, zGf_199_39, zPf_199_39, zGf_200_39, zPf_200_39, zGf_201_39, zGf_202_39, zPf_202_39, zGf_203_39, zGf_204_39, zPf_204_39, zGf_205_39, zGf_206_39, zGf_207_39, zGf_208_39, zGf_209_39, zGf_210_39, zGf_211_39, zGf_212_39, zGf_213_39, zGf_214_39, zPf_214_39, zGf_215_39, zGf_216_39, zAl_40, zAs_40, e40, hz, hL]
      refine ⟨fun e => absurd e (by omega), fun _ => ⟨fun h => ?_, fun h => hfin.2 (by omega)⟩⟩
      rw [L_writes (d := d + 3) (by omega), pshR_l, hL, h]
      exact hfin.1 (by omega)
  have hm := hl 0 () (by omega) (by omega) trivial (9, 0)
  simp only [e180, k180_0, e180, k180_0, u180_9, k180_9, u180_44, k180_44, u180_57, k180_57, u180_67, k180_67, u180_75, k180_75, u180_81, k180_81, u180_94, k180_94, zO_nop, zO_goto, zO_iload_n0, zO_iload_n1, zO_iload_n2, zO_iload_n3, zO_iload, zO_lload_n0, zO_lload_n1, zO_lload_n2, zO_lload_n3, zO_lload, zO_aload_n0, zO_aload_n1, zO_aload_n2, zO_aload_n3, zO_aload, zO_istore_n0, zO_istore_n1, zO_istore_n2, zO_istore_n3, zO_istore, zO_astore_n0, zO_astore_n1, zO_astore_n2, zO_astore_n3, zO_astore, zO_lstore, zO_iinc, zO_iconst, zO_bipush, zO_sipush, zO_lconst0, zO_lconst1, zO_ldc, zO_ldc2_w, zO_iadd, zO_isub, zO_imul, zO_idiv, zO_irem, zO_ineg, zO_iand, zO_ior, zO_ixor, zO_ishl, zO_ishr, zO_iushr, zO_ladd, zO_lmul, zO_land, zO_lor, zO_lshl, zO_lcmp, zO_i2l, zO_l2i, zO_i2b, zO_dup0, zO_dup2, zO_dup200, zO_dup202, zO_dup220, zO_dup222, zO_ifCond_eq, zO_ifCond_ne, zO_ifCond_lt, zO_ifCond_ge, zO_ifCond_gt, zO_ifCond_le, zO_if_icmp_eq, zO_if_icmp_ne, zO_if_icmp_lt, zO_if_icmp_ge, zO_if_icmp_gt, zO_if_icmp_le, zO_getfield, zO_putfield, zO_iaload, zO_baload, zO_laload, zO_iastore, zO_bastore, zO_lastore, zO_arraylength, zO_invokevirtual, zO_lreturn, zO_areturn, zO_return_, zO_tableswitch, zO_lookupswitch, zO_is0, zO_is1, zO_is2, zO_is3, zO_is4, zO_is9, zO_is10, zO_is11, zO_is12, zO_ir1, zO_ir4, zB_c, zLd_0, zLd_s, zSt_c, zSt2_c, zU_c, zD_c, zY_c, zSw_n, zSw_c, zCall_c, zVirt_c, zP_0, zP_1, zP_2, zP_3, zP_4, zGet_n, zGet_z, zPut_n, zPut_z, zcw_n, zcw_0, zcw_1, zcw_2, List.length_cons, List.length_nil, List.take_succ_cons, List.take_zero, List.drop_succ_cons, List.drop_zero, List.reverse_cons, List.reverse_nil, List.nil_append, List.cons_append, List.append_nil, List.set_cons_zero, List.set_cons_succ, List.getD_cons_zero, List.getD_cons_succ, true_and, and_true, ne_eq, not_false_eq_true, not_true_eq_false, zif, Nat.reduceAdd, Nat.reduceLeDiff, Nat.reduceLT, Nat.reduceSub, Nat.reduceEqDiff, Nat.zero_le, Nat.lt_add_one, Nat.reduceMod, false_implies, true_implies, implies_true, forall_const, Int.reduceLE, Int.reduceLT, Int.reduceEq, Int.reduceNeg, ite10_0, ite10_1, zem, zem2, Classical.not_not, and_self, or_true, true_or, or_false, false_or, zT_39, zN_39, zGf_192_39, zGf_193_39, zGf_194_39, zPf_194_39, zGf_195_39, zGf_196_39, zGf_197_39, zGf_198_39, zPf_198_39, zGf_199_39, zPf_199_39, zGf_200_39, zPf_200_39, zGf_201_39, zGf_202_39, zPf_202_39, zGf_203_39, zGf_204_39, zPf_204_39, zGf_205_39, zGf_206_39, zGf_207_39, zGf_208_39, zGf_209_39, zGf_210_39, zGf_211_39, zGf_212_39, zGf_213_39, zGf_214_39, zPf_214_39, zGf_215_39, zGf_216_39, L_isElement]
  exact ⟨fun z => absurd (show 0 ≤ e ∧ e ≤ 3 by omega) z, fun _ => hm⟩
theorem op_write (a1 : Int) : zOp 79 180 [(0, a1)] := by
  intro μ hr
  have hn := Rel_n hr
  obtain ⟨q0, q1, q2, q3, q4, q5, q6, q7, q8, q9⟩ := rH_1.mp hr.1
  by_cases hv : 0 ≤ a1 ∧ a1 < 4
  · obtain ⟨f, hf⟩ : ∃ f : Int → Int, f = fun k => μ 3 (5 * a1 + k) := ⟨_, rfl⟩
    have hfb : ∀ k, zrg (μ 1 1) k → 0 ≤ f k ∧ f k ≤ 999 := fun k hk => by rw [hf]; exact (q4 (5 * a1 + k) (by have := hk.1; omega) (by have := hk.2; omega)).1
    have hlen : (TLe f (μ 1 1)).length ≤ 24 := by
      unfold TLe
      have := TLs_len (f := f) (μ 1 1).toNat
      by_cases c : (TLs f (μ 1 1).toNat).length = 0
      · rw [if_pos c]; simp
      · rw [if_neg c]; omega
    refine zuse (K_write (d := 37) hr hv) ?_
    rw [← hf]
    rintro r u ⟨rfl, hu⟩
    have fu : zfr [(0, 11), (33, -1)] μ u := by
      rw [hu]
      exact zfr_tr (zfr_u zfr_rf (by decide)) pshC_F
    have e40 : u 40 = μ 40 := zfr_c fu (by decide)
    refine ⟨⟨zfr_c fu (by decide), zfr_c fu (by decide)⟩, ?_⟩
    refine zuse (L_write (d := 35) (n := μ 1 1) (μ := u) f hn.1 (by rw [e40]; exact hn.2) hv (fun k hk => by rw [e40, hf]; exact (q4 (5 * a1 + k) (by have := hk.1; omega) (by have := hk.2; omega)).2) hfb) ?_
    rintro r w ⟨rfl, hw⟩
    have fw : zfr [(39, 22), (55, -1)] u w := by
      rw [hw]
      exact zfr_tr (zfr_u zfr_rf (by decide)) pshR_F
    refine ⟨rfl, Rel_P hr (zfr_tr (zfr_up fu (by decide)) (zfr_up fw (by decide))) ⟨?_, ?_, fun i i0 i1 => ?_⟩, ?_, ?_⟩
    · have : w 0 11 = ((TLe f (μ 1 1)).length : Int) := by
        rw [zfr_c fw (by decide), hu, pshC_L, zu_at, Int.zero_add]
      rw [this]
      omega
    · rw [zfr_c fw (a := 0) (by decide), hu, pshC_L, zu_at, hw, pshR_L, zu_at]
    · have e11 : w 0 11 = ((TLe f (μ 1 1)).length : Int) := by
        rw [zfr_c fw (by decide), hu, pshC_L, zu_at, Int.zero_add]
      rw [e11] at i1
      obtain ⟨j, rfl⟩ : ∃ j : Nat, i = (j : Int) := ⟨i.toNat, by omega⟩
      have hj : j < (TLe f (μ 1 1)).length := by omega
      have c1 := pshC_G (bs := TLe f (μ 1 1)) (μ := zu μ 0 11 0) hj
      have c2 := pshR_G (bs := TLe f (μ 1 1)) (μ := zu u 39 22 0) hj
      rw [zu_at, Int.zero_add, ← hu] at c1
      rw [zu_at, Int.zero_add, ← hw] at c2
      rw [c2, zfr_c fw (a := 33) (by decide), c1]
    · rw [zfr_c fw (by decide), zfr_c fu (by decide)]
    · rw [zfr_c fw (by decide), zfr_c fu (by decide)]
  · simp only [e79, k79_0, e180, k180_0, e79, k79_0, u79_9, k79_9, u79_51, k79_51, u79_57, k79_57, u79_70, k79_70, e180, k180_0, u180_9, k180_9, u180_44, k180_44, u180_57, k180_57, u180_67, k180_67, u180_75, k180_75, u180_81, k180_81, u180_94, k180_94, zO_nop, zO_goto, zO_iload_n0, zO_iload_n1, zO_iload_n2, zO_iload_n3, zO_iload, zO_lload_n0, zO_lload_n1, zO_lload_n2, zO_lload_n3, zO_lload, zO_aload_n0, zO_aload_n1, zO_aload_n2, zO_aload_n3, zO_aload, zO_istore_n0, zO_istore_n1, zO_istore_n2, zO_istore_n3, zO_istore, zO_astore_n0, zO_astore_n1, zO_astore_n2, zO_astore_n3, zO_astore, zO_lstore, zO_iinc, zO_iconst, zO_bipush, zO_sipush, zO_lconst0, zO_lconst1, zO_ldc, zO_ldc2_w, zO_iadd, zO_isub, zO_imul, zO_idiv, zO_irem, zO_ineg, zO_iand, zO_ior, zO_ixor, zO_ishl, zO_ishr, zO_iushr, zO_ladd, zO_lmul, zO_land, zO_lor, zO_lshl, zO_lcmp, zO_i2l, zO_l2i, zO_i2b, zO_dup0, zO_dup2, zO_dup200, zO_dup202, zO_dup220, zO_dup222, zO_ifCond_eq, zO_ifCond_ne, zO_ifCond_lt, zO_ifCond_ge, zO_ifCond_gt, zO_ifCond_le, zO_if_icmp_eq, zO_if_icmp_ne, zO_if_icmp_lt, zO_if_icmp_ge, zO_if_icmp_gt, zO_if_icmp_le, zO_getfield, zO_putfield, zO_iaload, zO_baload, zO_laload, zO_iastore, zO_bastore, zO_lastore, zO_arraylength, zO_invokevirtual, zO_lreturn, zO_areturn, zO_return_, zO_tableswitch, zO_lookupswitch, zO_is0, zO_is1, zO_is2, zO_is3, zO_is4, zO_is9, zO_is10, zO_is11, zO_is12, zO_ir1, zO_ir4, zB_c, zLd_0, zLd_s, zSt_c, zSt2_c, zU_c, zD_c, zY_c, zSw_n, zSw_c, zCall_c, zVirt_c, zP_0, zP_1, zP_2, zP_3, zP_4, zGet_n, zGet_z, zPut_n, zPut_z, zcw_n, zcw_0, zcw_1, zcw_2, List.length_cons, List.length_nil, List.take_succ_cons, List.take_zero, List.drop_succ_cons, List.drop_zero, List.reverse_cons, List.reverse_nil, List.nil_append, List.cons_append, List.append_nil, List.set_cons_zero, List.set_cons_succ, List.getD_cons_zero, List.getD_cons_succ, true_and, and_true, ne_eq, not_false_eq_true, not_true_eq_false, zif, Nat.reduceAdd, Nat.reduceLeDiff, Nat.reduceLT, Nat.reduceSub, Nat.reduceEqDiff, Nat.zero_le, Nat.lt_add_one, Nat.reduceMod, false_implies, true_implies, implies_true, forall_const, Int.reduceLE, Int.reduceLT, Int.reduceEq, Int.reduceNeg, ite10_0, ite10_1, zem, zem2, Classical.not_not, and_self, or_true, true_or, or_false, false_or, zT_0, zN_0, zGf_160_0, zGf_161_0, zGf_162_0, zPf_162_0, zGf_163_0, zGf_164_0, zGf_165_0, zGf_166_0, zGf_167_0, zPf_167_0, zGf_168_0, zPf_168_0, zGf_169_0, zGf_170_0, zGf_171_0, zPf_171_0, zGf_172_0, zGf_173_0, zGf_174_0, zGf_175_0, zGf_176_0, zT_39, zN_39, zGf_192_39, zGf_193_39, zGf_194_39, zPf_194_39, zGf_195_39, zGf_196_39, zGf_197_39, zGf_198_39, zPf_198_39, zGf_199_39, zPf_199_39, zGf_200_39, zPf_200_39, zGf_201_39, zGf_202_39, zPf_202_39, zGf_203_39, zGf_204_39, zPf_204_39, zGf_205_39, zGf_206_39, zGf_207_39, zGf_208_39, zGf_209_39, zGf_210_39, zGf_211_39, zGf_212_39, zGf_213_39, zGf_214_39, zPf_214_39, zGf_215_39, zGf_216_39, K_isElement, L_isElement]
    (repeat' (first | assumption | (with_reducible refine And.intro ?_ ?_) | (intro hh; first | subst hh | skip)))
    all_goals (first | (exfalso; omega) | (first | assumption | (exfalso; omega) | omega | (simp (disch := decide) only [zu_c]; done) | (simp (disch := decide) only [zu_c]; grind) | grind))
