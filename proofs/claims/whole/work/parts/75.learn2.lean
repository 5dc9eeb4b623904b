/-! learning one equation (begun: state of the proof in NOTES) -/
theorem K_learn {d : Nat} {dp : Int} {μ : zM} (hd : 0 ≤ dp ∧ dp ≤ 4) (hk : kW (fun i => μ 23 (25 * dp + i))) (he : ∀ k, zrg 5 k → 0 ≤ μ 22 k ∧ μ 22 k ≤ 30) : zC (d + 2) 8 [(2, 19), (0, dp)] μ (fun x u => zfr [(22, -1), (23, -1)] μ u ∧ (∀ i, ¬ (25 * dp ≤ i ∧ i < 25 * dp + 25) → u 23 i = μ 23 i) ∧ kW (fun i => u 23 (25 * dp + i)) ∧ (∀ k, zrg 5 k → 0 ≤ u 22 k ∧ u 22 k ≤ 30) ∧ (x = 0 ∨ x = 1) ∧ ∀ χ : Int → Int, χ 0 = 1 → ((kS (fun i => μ 23 (25 * dp + i)) χ ∧ (31 : Int) ∣ evq (μ 22) χ) ↔ (x = 1 ∧ kS (fun i => u 23 (25 * dp + i)) χ))) := by
  generalize hQ : (fun (x : Int) (u : zM) => zfr [(22, -1), (23, -1)] μ u ∧ (∀ i, ¬ (25 * dp ≤ i ∧ i < 25 * dp + 25) → u 23 i = μ 23 i) ∧ kW (fun i => u 23 (25 * dp + i)) ∧ (∀ k, zrg 5 k → 0 ≤ u 22 k ∧ u 22 k ≤ 30) ∧ (x = 0 ∨ x = 1) ∧ ∀ χ : Int → Int, χ 0 = 1 → ((kS (fun i => μ 23 (25 * dp + i)) χ ∧ (31 : Int) ∣ evq (μ 22) χ) ↔ (x = 1 ∧ kS (fun i => u 23 (25 * dp + i)) χ))) = Q
  obtain ⟨J, hJ⟩ : ∃ J : Int → zM → Prop, J = fun s w => zfr [(22, -1)] μ w ∧ (∀ k, zrg 5 k → 0 ≤ w 22 k ∧ w 22 k ≤ 30) ∧ (∀ k, s < k → k < 5 → w 22 k = 0) ∧ ∀ χ : Int → Int, kS (fun i => μ 23 (25 * dp + i)) χ → ((31 : Int) ∣ evq (w 22) χ ↔ (31 : Int) ∣ evq (μ 22) χ) := ⟨_, rfl⟩
  have hs : ∀ s : Int, 1 ≤ s → s ≤ 4 → (∀ w, J (s - 1) w → ∀ a b c, zR (d + 1) 8 Q 2 [(2, 19), (0, dp), (0, s - 1), a, b, c] [] w) → ∀ w, J s w → ∀ a b c, zR (d + 1) 8 Q 2 [(2, 19), (0, dp), (0, s), a, b, c] [] w := by
    intro s s1 s4 ih w hw a b c
    have hw' := hw
    rw [hJ] at hw'
    obtain ⟨f, hb, hz, hv⟩ := hw'
    have c23 : w 23 = μ 23 := zfr_c f (by decide)
    have es : 0 ≤ w 22 s ∧ w 22 s ≤ 30 := hb s ⟨by omega, by omega⟩
    have a1 : zw (zw (dp * 25) + zw (s * 5)) = 25 * dp + 5 * s := by simp (disch := omega) only [zw_e]; omega
    have a2 : zw (25 * dp + 5 * s + s) = 25 * dp + 5 * s + s := by rw [zw_e (by omega) (by omega)]
    have a3 : zw (s + -1) = s - 1 := by rw [zw_e (by omega) (by omega)]; omega
    have a4 : zw (31 - w 22 s) = 31 - w 22 s := by rw [zw_e (by omega) (by omega)]
    rw [u8_2]
    simp only [k8_2, e8, k8_0, u8_51, k8_51, u8_107, k8_107, u8_113, k8_113, u8_126, k8_126, u8_127, k8_127, zO_nop, zO_goto, zO_iload_n0, zO_iload_n1, zO_iload_n2, zO_iload_n3, zO_iload, zO_lload_n0, zO_lload_n1, zO_lload_n2, zO_lload_n3, zO_lload, zO_aload_n0, zO_aload_n1, zO_aload_n2, zO_aload_n3, zO_aload, zO_istore_n0, zO_istore_n1, zO_istore_n2, zO_istore_n3, zO_istore, zO_astore_n0, zO_astore_n1, zO_astore_n2, zO_astore_n3, zO_astore, zO_lstore, zO_iinc, zO_iconst, zO_bipush, zO_sipush, zO_lconst0, zO_lconst1, zO_ldc, zO_ldc2_w, zO_iadd, zO_isub, zO_imul, zO_idiv, zO_irem, zO_ineg, zO_iand, zO_ior, zO_ixor, zO_ishl, zO_ishr, zO_iushr, zO_ladd, zO_lmul, zO_land, zO_lor, zO_lshl, zO_lcmp, zO_i2l, zO_l2i, zO_i2b, zO_dup0, zO_dup2, zO_dup200, zO_dup202, zO_dup220, zO_dup222, zO_ifCond_eq, zO_ifCond_ne, zO_ifCond_lt, zO_ifCond_ge, zO_ifCond_gt, zO_ifCond_le, zO_if_icmp_eq, zO_if_icmp_ne, zO_if_icmp_lt, zO_if_icmp_ge, zO_if_icmp_gt, zO_if_icmp_le, zO_getfield, zO_putfield, zO_iaload, zO_baload, zO_laload, zO_iastore, zO_bastore, zO_lastore, zO_arraylength, zO_invokevirtual, zO_lreturn, zO_areturn, zO_return_, zO_tableswitch, zO_lookupswitch, zO_is0, zO_is1, zO_is2, zO_is3, zO_is4, zO_is9, zO_is10, zO_is11, zO_is12, zO_ir1, zO_ir4, zB_c, zLd_0, zLd_s, zSt_c, zSt2_c, zU_c, zD_c, zY_c, zSw_n, zSw_c, zCall_c, zVirt_c, zP_0, zP_1, zP_2, zP_3, zP_4, zGet_n, zGet_z, zPut_n, zPut_z, zcw_n, zcw_0, zcw_1, zcw_2, List.length_cons, List.length_nil, List.take_succ_cons, List.take_zero, List.drop_succ_cons, List.drop_zero, List.reverse_cons, List.reverse_nil, List.nil_append, List.cons_append, List.append_nil, List.set_cons_zero, List.set_cons_succ, List.getD_cons_zero, List.getD_cons_succ, true_and, and_true, ne_eq, not_false_eq_true, not_true_eq_false, zif, Nat.reduceAdd, Nat.reduceLeDiff, Nat.reduceLT, Nat.reduceSub, Nat.reduceEqDiff, Nat.zero_le, Nat.lt_add_one, Nat.reduceMod, false_implies, true_implies, implies_true, forall_const, Int.reduceLE, Int.reduceLT, Int.reduceEq, Int.reduceNeg, ite10_0, ite10_1, zem, zem2, Classical.not_not, and_self, or_true, true_or, or_false, false_or, zT_19, zN_19, zGf_0_19, zPf_0_19, zGf_1_19, zGf_2_19, zGf_3_19, zGf_4_19, zAl_22, zAs_22, zAl_23, zAs_23, a1, a2, a3, a4]
    have K0 : w 23 (25 * dp + 5 * s + s) = 0 ∨ (w 23 (25 * dp + 5 * s + s) = 1 ∧ ∀ k, s < k → k < 5 → w 23 (25 * dp + 5 * s + k) = 0) := by
      rw [c23]
      rcases hk.2 s s1 s4 with z | ⟨z1, z2⟩
      · exact Or.inl (by rw [Int.add_assoc]; exact z)
      · exact Or.inr ⟨by rw [Int.add_assoc]; exact z1, fun k a b => by rw [Int.add_assoc]; exact z2 k a b⟩
    refine ⟨fun _ => ⟨by omega, by omega, fun e => ?_, fun e => ⟨by omega, by omega, fun q => ⟨by omega, by omega, ?_⟩, fun q => ⟨by omega, by omega, ?_⟩⟩⟩, fun e => absurd s1 (by omega)⟩
    · refine ih w ?_ a b c
      rw [hJ]
      refine ⟨f, hb, fun k k0 k1 => ?_, hv⟩
      by_cases q : k = s
      · rw [q]; exact e
      · exact hz k (by omega) k1
    · rw [K_inverseOf es]
      have iv := inv_1 (x := w 22 s) (by omega)
      refine zuse (K_keepEquation (d := d) (b := 25 * dp + 5 * s) ⟨by omega, by omega⟩ ⟨by omega, by omega⟩ hb) ?_
      rintro r u ⟨_, g1, g2⟩
      have kk := fun χ => ks_keep (kn := fun i => μ 23 (25 * dp + i)) (kn' := fun i => u 23 (25 * dp + i)) (e := w 22) (χ := χ) hk ⟨s1, s4⟩ hb hz (by rw [c23, Int.add_assoc] at q; exact q) e (fun i hi => by
        show u 23 (25 * dp + i) = _
        rw [g2]
        by_cases z : 5 * s ≤ i ∧ i < 5 * s + 5
        · rw [if_pos (by omega), if_pos z, show 25 * dp + i - (25 * dp + 5 * s) = i - 5 * s by omega]
        · rw [if_neg (by omega), if_neg z, c23])
      rw [← hQ]
      have c22 : u 22 = w 22 := zfr_c g1 (by decide)
      refine ⟨zfr_tr (zfr_up f (by decide)) (zfr_up g1 (by decide)), fun i hi => ?_, (kk (fun _ => 0)).1, by rw [c22]; exact hb, Or.inr rfl, fun χ _ => ?_⟩
      · rw [g2, if_neg (by omega), c23]
      · rw [← (kk χ).2]
        exact ⟨fun z => ⟨rfl, z.1, (hv χ z.1).2 z.2⟩, fun z => ⟨z.2.1, (hv χ z.2.1).1 z.2.2⟩⟩
    · have K1 : w 23 (25 * dp + 5 * s + s) = 1 ∧ ∀ k, s < k → k < 5 → w 23 (25 * dp + 5 * s + k) = 0 := by
        rcases K0 with z | z
        · exact absurd z q
        · exact z
      have hl : ∀ k u, 0 ≤ k → k ≤ s + 1 → (zfr [(22, -1)] w u ∧ ∀ j, zrg 5 j → u 22 j = if j < k then (w 22 j + (31 - w 22 s) * w 23 (25 * dp + 5 * s + j)) % 31 else w 22 j) → zR (d + 1) 8 Q 65 [(2, 19), (0, dp), (0, s), (0, 25 * dp + 5 * s), (0, 31 - w 22 s), (0, k)] [] u := by
        refine zloop (n := s + 1) (Inv := fun k u => zfr [(22, -1)] w u ∧ ∀ j, zrg 5 j → u 22 j = if j < k then (w 22 j + (31 - w 22 s) * w 23 (25 * dp + 5 * s + j)) % 31 else w 22 j) ?_ ?_
        · rintro k u k0 k1 ⟨fu, g⟩ ihk
          have b1 := hb k ⟨k0, by omega⟩
          have b2 : 0 ≤ w 23 (25 * dp + 5 * s + k) ∧ w 23 (25 * dp + 5 * s + k) ≤ 30 := by rw [c23, Int.add_assoc]; exact hk.1 (5 * s + k) ⟨by omega, by omega⟩
          have b3 := zmul_bd (show 0 ≤ 31 - w 22 s ∧ 31 - w 22 s ≤ 31 by omega) b2
          have u1 : u 22 k = w 22 k := by rw [g k ⟨k0, by omega⟩, if_neg (by omega)]
          have u2 : u 23 = w 23 := zfr_c fu (by decide)
          have e3 : zw (25 * dp + 5 * s + k) = 25 * dp + 5 * s + k := by rw [zw_e (by omega) (by omega)]
          have e2 : (zw (u 22 k + zw ((31 - w 22 s) * u 23 (25 * dp + 5 * s + k)))).tmod 31 = (w 22 k + (31 - w 22 s) * w 23 (25 * dp + 5 * s + k)) % 31 := by
            rw [u1, u2, zw_e (z := (31 - w 22 s) * w 23 (25 * dp + 5 * s + k)) (by omega) (by omega), zw_e (by omega) (by omega), Int.tmod_eq_emod_of_nonneg (by omega)]
          have ih2 := ihk (zu u 22 k ((w 22 k + (31 - w 22 s) * w 23 (25 * dp + 5 * s + k)) % 31)) ⟨zfr_w fu (by decide), fun j hj => by
            by_cases z : j = k
            · rw [z, zu_at, if_pos (by omega)]
            · rw [zu_ne (by omega), g j hj]
              by_cases z2 : j < k
              · rw [if_pos z2, if_pos (by omega)]
              · rw [if_neg z2, if_neg (by omega)]⟩
          rw [u8_65]
          simp only [k8_65, e8, k8_0, u8_51, k8_51, u8_107, k8_107, u8_113, k8_113, u8_126, k8_126, u8_127, k8_127, zO_nop, zO_goto, zO_iload_n0, zO_iload_n1, zO_iload_n2, zO_iload_n3, zO_iload, zO_lload_n0, zO_lload_n1, zO_lload_n2, zO_lload_n3, zO_lload, zO_aload_n0, zO_aload_n1, zO_aload_n2, zO_aload_n3, zO_aload, zO_istore_n0, zO_istore_n1, zO_istore_n2, zO_istore_n3, zO_istore, zO_astore_n0, zO_astore_n1, zO_astore_n2, zO_astore_n3, zO_astore, zO_lstore, zO_iinc, zO_iconst, zO_bipush, zO_sipush, zO_lconst0, zO_lconst1, zO_ldc, zO_ldc2_w, zO_iadd, zO_isub, zO_imul, zO_idiv, zO_irem, zO_ineg, zO_iand, zO_ior, zO_ixor, zO_ishl, zO_ishr, zO_iushr, zO_ladd, zO_lmul, zO_land, zO_lor, zO_lshl, zO_lcmp, zO_i2l, zO_l2i, zO_i2b, zO_dup0, zO_dup2, zO_dup200, zO_dup202, zO_dup220, zO_dup222, zO_ifCond_eq, zO_ifCond_ne, zO_ifCond_lt, zO_ifCond_ge, zO_ifCond_gt, zO_ifCond_le, zO_if_icmp_eq, zO_if_icmp_ne, zO_if_icmp_lt, zO_if_icmp_ge, zO_if_icmp_gt, zO_if_icmp_le, zO_getfield, zO_putfield, zO_iaload, zO_baload, zO_laload, zO_iastore, zO_bastore, zO_lastore, zO_arraylength, zO_invokevirtual, zO_lreturn, zO_areturn, zO_return_, zO_tableswitch, zO_lookupswitch, zO_is0, zO_is1, zO_is2, zO_is3, zO_is4, zO_is9, zO_is10, zO_is11, zO_is12, zO_ir1, zO_ir4, zB_c, zLd_0, zLd_s, zSt_c, zSt2_c, zU_c, zD_c, zY_c, zSw_n, zSw_c, zCall_c, zVirt_c, zP_0, zP_1, zP_2, zP_3, zP_4, zGet_n, zGet_z, zPut_n, zPut_z, zcw_n, zcw_0, zcw_1, zcw_2, List.length_cons, List.length_nil, List.take_succ_cons, List.take_zero, List.drop_succ_cons, List.drop_zero, List.reverse_cons, List.reverse_nil, List.nil_append, List.cons_append, List.append_nil, List.set_cons_zero, List.set_cons_succ, List.getD_cons_zero, List.getD_cons_succ, true_and, and_true, ne_eq, not_false_eq_true, not_true_eq_false, zif, Nat.reduceAdd, Nat.reduceLeDiff, Nat.reduceLT, Nat.reduceSub, Nat.reduceEqDiff, Nat.zero_le, Nat.lt_add_one, Nat.reduceMod, false_implies, true_implies, implies_true, forall_const, Int.reduceLE, Int.reduceLT, Int.reduceEq, Int.reduceNeg, ite10_0, ite10_1, zem, zem2, Classical.not_not, and_self, or_true, true_or, or_false, false_or, zT_19, zN_19, zGf_0_19, zPf_0_19, zGf_1_19, zGf_2_19, zGf_3_19, zGf_4_19, zAl_22, zAs_22, zAl_23, zAs_23, e3, e2]
          rw [zw_e (z := k + 1) (by omega) (by omega)]
          refine ⟨fun e => absurd k1 (by omega), fun _ => ?_⟩
          (repeat' (first | assumption | (with_reducible refine And.intro ?_ ?_) | (intro hh; first | subst hh | skip)))
          all_goals omega
        · rintro u ⟨fu, g⟩
          have u2 : u 23 = w 23 := zfr_c fu (by decide)
          rw [u8_65]
          simp only [k8_65, e8, k8_0, u8_51, k8_51, u8_107, k8_107, u8_113, k8_113, u8_126, k8_126, u8_127, k8_127, zO_nop, zO_goto, zO_iload_n0, zO_iload_n1, zO_iload_n2, zO_iload_n3, zO_iload, zO_lload_n0, zO_lload_n1, zO_lload_n2, zO_lload_n3, zO_lload, zO_aload_n0, zO_aload_n1, zO_aload_n2, zO_aload_n3, zO_aload, zO_istore_n0, zO_istore_n1, zO_istore_n2, zO_istore_n3, zO_istore, zO_astore_n0, zO_astore_n1, zO_astore_n2, zO_astore_n3, zO_astore, zO_lstore, zO_iinc, zO_iconst, zO_bipush, zO_sipush, zO_lconst0, zO_lconst1, zO_ldc, zO_ldc2_w, zO_iadd, zO_isub, zO_imul, zO_idiv, zO_irem, zO_ineg, zO_iand, zO_ior, zO_ixor, zO_ishl, zO_ishr, zO_iushr, zO_ladd, zO_lmul, zO_land, zO_lor, zO_lshl, zO_lcmp, zO_i2l, zO_l2i, zO_i2b, zO_dup0, zO_dup2, zO_dup200, zO_dup202, zO_dup220, zO_dup222, zO_ifCond_eq, zO_ifCond_ne, zO_ifCond_lt, zO_ifCond_ge, zO_ifCond_gt, zO_ifCond_le, zO_if_icmp_eq, zO_if_icmp_ne, zO_if_icmp_lt, zO_if_icmp_ge, zO_if_icmp_gt, zO_if_icmp_le, zO_getfield, zO_putfield, zO_iaload, zO_baload, zO_laload, zO_iastore, zO_bastore, zO_lastore, zO_arraylength, zO_invokevirtual, zO_lreturn, zO_areturn, zO_return_, zO_tableswitch, zO_lookupswitch, zO_is0, zO_is1, zO_is2, zO_is3, zO_is4, zO_is9, zO_is10, zO_is11, zO_is12, zO_ir1, zO_ir4, zB_c, zLd_0, zLd_s, zSt_c, zSt2_c, zU_c, zD_c, zY_c, zSw_n, zSw_c, zCall_c, zVirt_c, zP_0, zP_1, zP_2, zP_3, zP_4, zGet_n, zGet_z, zPut_n, zPut_z, zcw_n, zcw_0, zcw_1, zcw_2, List.length_cons, List.length_nil, List.take_succ_cons, List.take_zero, List.drop_succ_cons, List.drop_zero, List.reverse_cons, List.reverse_nil, List.nil_append, List.cons_append, List.append_nil, List.set_cons_zero, List.set_cons_succ, List.getD_cons_zero, List.getD_cons_succ, true_and, and_true, ne_eq, not_false_eq_true, not_true_eq_false, zif, Nat.reduceAdd, Nat.reduceLeDiff, Nat.reduceLT, Nat.reduceSub, Nat.reduceEqDiff, Nat.zero_le, Nat.lt_add_one, Nat.reduceMod, false_implies, true_implies, implies_true, forall_const, Int.reduceLE, Int.reduceLT, Int.reduceEq, Int.reduceNeg, ite10_0, ite10_1, zem, zem2, Classical.not_not, and_self, or_true, true_or, or_false, false_or, a3]
          refine ⟨fun _ => ?_, fun e => absurd (show s < s + 1 by omega) e⟩
          refine ih u ?_ _ _ _
          rw [hJ]
          have gs : ∀ j, zrg 5 j → (31 : Int) ∣ u 22 j - (1 * w 22 j + (31 - w 22 s) * w 23 (25 * dp + 5 * s + j)) := fun j hj => by
            rw [g j hj]
            split
            · omega
            · rw [K1.2 j (by omega) hj.2]; omega
          refine ⟨zfr_tr f fu, fun j hj => ?_, fun j j0 j1 => ?_, fun χ hχ => ?_⟩
          · rw [g j hj]
            split
            · omega
            · exact hb j hj
          · rw [g j ⟨by omega, j1⟩]
            by_cases z : j = s
            · rw [z, if_pos (by omega), K1.1]; omega
            · rw [if_neg (by omega)]; exact hz j (by omega) j1
          · rw [← hv χ hχ]
            have row : (31 : Int) ∣ evq (fun k => w 23 (25 * dp + 5 * s + k)) χ := by
              rcases hχ s s1 s4 with z | z
              · rw [c23, Int.add_assoc] at q; exact absurd z q
              · rw [c23]
                have : (fun k => μ 23 (25 * dp + 5 * s + k)) = fun k => μ 23 (25 * dp + (5 * s + k)) := by funext k; rw [Int.add_assoc]
                rw [this]; exact z
            have := ev_st (e := w 22) (e' := u 22) (f := fun k => w 23 (25 * dp + 5 * s + k)) (χ := χ) (a := 1) (t := 31 - w 22 s) gs (Int.dvd_trans row ⟨_, Int.mul_comm _ _⟩)
            rw [Int.one_mul] at this
            exact this
      exact hl 0 w (by omega) (by omega) ⟨zfr_rf, fun j hj => by rw [if_neg (by have := hj.1; omega)]⟩
  have h0 : ∀ w, J 0 w → ∀ a b c, zR (d + 1) 8 Q 2 [(2, 19), (0, dp), (0, 0), a, b, c] [] w := by
    intro w hw a b c
    rw [hJ] at hw
    obtain ⟨f, hb, hz, hv⟩ := hw
    have c23 : w 23 = μ 23 := zfr_c f (by decide)
    have b0 := hb 0 ⟨by omega, by omega⟩
    rw [u8_2]
    simp only [k8_2, e8, k8_0, u8_51, k8_51, u8_107, k8_107, u8_113, k8_113, u8_126, k8_126, u8_127, k8_127, zO_nop, zO_goto, zO_iload_n0, zO_iload_n1, zO_iload_n2, zO_iload_n3, zO_iload, zO_lload_n0, zO_lload_n1, zO_lload_n2, zO_lload_n3, zO_lload, zO_aload_n0, zO_aload_n1, zO_aload_n2, zO_aload_n3, zO_aload, zO_istore_n0, zO_istore_n1, zO_istore_n2, zO_istore_n3, zO_istore, zO_astore_n0, zO_astore_n1, zO_astore_n2, zO_astore_n3, zO_astore, zO_lstore, zO_iinc, zO_iconst, zO_bipush, zO_sipush, zO_lconst0, zO_lconst1, zO_ldc, zO_ldc2_w, zO_iadd, zO_isub, zO_imul, zO_idiv, zO_irem, zO_ineg, zO_iand, zO_ior, zO_ixor, zO_ishl, zO_ishr, zO_iushr, zO_ladd, zO_lmul, zO_land, zO_lor, zO_lshl, zO_lcmp, zO_i2l, zO_l2i, zO_i2b, zO_dup0, zO_dup2, zO_dup200, zO_dup202, zO_dup220, zO_dup222, zO_ifCond_eq, zO_ifCond_ne, zO_ifCond_lt, zO_ifCond_ge, zO_ifCond_gt, zO_ifCond_le, zO_if_icmp_eq, zO_if_icmp_ne, zO_if_icmp_lt, zO_if_icmp_ge, zO_if_icmp_gt, zO_if_icmp_le, zO_getfield, zO_putfield, zO_iaload, zO_baload, zO_laload, zO_iastore, zO_bastore, zO_lastore, zO_arraylength, zO_invokevirtual, zO_lreturn, zO_areturn, zO_return_, zO_tableswitch, zO_lookupswitch, zO_is0, zO_is1, zO_is2, zO_is3, zO_is4, zO_is9, zO_is10, zO_is11, zO_is12, zO_ir1, zO_ir4, zB_c, zLd_0, zLd_s, zSt_c, zSt2_c, zU_c, zD_c, zY_c, zSw_n, zSw_c, zCall_c, zVirt_c, zP_0, zP_1, zP_2, zP_3, zP_4, zGet_n, zGet_z, zPut_n, zPut_z, zcw_n, zcw_0, zcw_1, zcw_2, List.length_cons, List.length_nil, List.take_succ_cons, List.take_zero, List.drop_succ_cons, List.drop_zero, List.reverse_cons, List.reverse_nil, List.nil_append, List.cons_append, List.append_nil, List.set_cons_zero, List.set_cons_succ, List.getD_cons_zero, List.getD_cons_succ, true_and, and_true, ne_eq, not_false_eq_true, not_true_eq_false, zif, Nat.reduceAdd, Nat.reduceLeDiff, Nat.reduceLT, Nat.reduceSub, Nat.reduceEqDiff, Nat.zero_le, Nat.lt_add_one, Nat.reduceMod, false_implies, true_implies, implies_true, forall_const, Int.reduceLE, Int.reduceLT, Int.reduceEq, Int.reduceNeg, ite10_0, ite10_1, zem, zem2, Classical.not_not, and_self, or_true, true_or, or_false, false_or, zT_19, zN_19, zGf_0_19, zPf_0_19, zGf_1_19, zGf_2_19, zGf_3_19, zGf_4_19, zAl_22, zAs_22, zAl_23, zAs_23]
    have fin : ∀ x, (x = 1 ∧ w 22 0 = 0) ∨ (x = 0 ∧ ¬ w 22 0 = 0) → Q x w := by
      intro x hx
      rw [← hQ]
      refine ⟨zfr_up f (by decide), fun i _ => by rw [c23], by rw [c23]; exact hk, hb, by omega, fun χ h1 => ?_⟩
      rw [c23]
      have e0 := ev_0 (e := w 22) (χ := χ) (fun k a b => hz k a b) h1
      constructor
      · rintro ⟨p, q⟩
        have := (hv χ p).2 q
        exact ⟨by omega, p⟩
      · rintro ⟨p, q⟩
        exact ⟨q, (hv χ q).1 (by omega)⟩
    refine ⟨fun e => fin 1 (Or.inl ⟨rfl, e⟩), fun e => fin 0 (Or.inr ⟨rfl, e⟩)⟩
  have st : ∀ (m : Nat), (m : Int) ≤ 4 → ∀ w, J m w → ∀ a b c, zR (d + 1) 8 Q 2 [(2, 19), (0, dp), (0, (m : Int)), a, b, c] [] w := by
    intro m
    induction m with
    | zero => intro _; exact h0
    | succ m ih =>
      intro hm
      refine hs _ (by omega) hm ?_
      rw [show ((m + 1 : Nat) : Int) - 1 = (m : Int) by omega]
      exact ih (by omega)
  simp only [e8, k8_0, zO_nop, zO_goto, zO_iload_n0, zO_iload_n1, zO_iload_n2, zO_iload_n3, zO_iload, zO_lload_n0, zO_lload_n1, zO_lload_n2, zO_lload_n3, zO_lload, zO_aload_n0, zO_aload_n1, zO_aload_n2, zO_aload_n3, zO_aload, zO_istore_n0, zO_istore_n1, zO_istore_n2, zO_istore_n3, zO_istore, zO_astore_n0, zO_astore_n1, zO_astore_n2, zO_astore_n3, zO_astore, zO_lstore, zO_iinc, zO_iconst, zO_bipush, zO_sipush, zO_lconst0, zO_lconst1, zO_ldc, zO_ldc2_w, zO_iadd, zO_isub, zO_imul, zO_idiv, zO_irem, zO_ineg, zO_iand, zO_ior, zO_ixor, zO_ishl, zO_ishr, zO_iushr, zO_ladd, zO_lmul, zO_land, zO_lor, zO_lshl, zO_lcmp, zO_i2l, zO_l2i, zO_i2b, zO_dup0, zO_dup2, zO_dup200, zO_dup202, zO_dup220, zO_dup222, zO_ifCond_eq, zO_ifCond_ne, zO_ifCond_lt, zO_ifCond_ge, zO_ifCond_gt, zO_ifCond_le, zO_if_icmp_eq, zO_if_icmp_ne, zO_if_icmp_lt, zO_if_icmp_ge, zO_if_icmp_gt, zO_if_icmp_le, zO_getfield, zO_putfield, zO_iaload, zO_baload, zO_laload, zO_iastore, zO_bastore, zO_lastore, zO_arraylength, zO_invokevirtual, zO_lreturn, zO_areturn, zO_return_, zO_tableswitch, zO_lookupswitch, zO_is0, zO_is1, zO_is2, zO_is3, zO_is4, zO_is9, zO_is10, zO_is11, zO_is12, zO_ir1, zO_ir4, zB_c, zLd_0, zLd_s, zSt_c, zSt2_c, zU_c, zD_c, zY_c, zSw_n, zSw_c, zCall_c, zVirt_c, zP_0, zP_1, zP_2, zP_3, zP_4, zGet_n, zGet_z, zPut_n, zPut_z, zcw_n, zcw_0, zcw_1, zcw_2, List.length_cons, List.length_nil, List.take_succ_cons, List.take_zero, List.drop_succ_cons, List.drop_zero, List.reverse_cons, List.reverse_nil, List.nil_append, List.cons_append, List.append_nil, List.set_cons_zero, List.set_cons_succ, List.getD_cons_zero, List.getD_cons_succ, true_and, and_true, ne_eq, not_false_eq_true, not_true_eq_false, zif, Nat.reduceAdd, Nat.reduceLeDiff, Nat.reduceLT, Nat.reduceSub, Nat.reduceEqDiff, Nat.zero_le, Nat.lt_add_one, Nat.reduceMod, false_implies, true_implies, implies_true, forall_const, Int.reduceLE, Int.reduceLT, Int.reduceEq, Int.reduceNeg, ite10_0, ite10_1, zem, zem2, Classical.not_not, and_self, or_true, true_or, or_false, false_or]
  exact st 4 (by omega) μ (by rw [hJ]; exact ⟨zfr_rf, he, fun k a b => by omega, fun _ _ => Iff.rfl⟩) _ _ _
