/-! what a choice asks: the loop (begun) -/
theorem K_goesOn {d : Nat} {n s nb : Int} {N : Int → Int → Int → Int} {μ : zM} (hn : 1 ≤ n ∧ n ≤ 5) (hm : μ 15 0 = n) (hF : zFu 16 n N μ) (hN : ∀ i j k, zrg n i → zrg n j → zrg n k → 0 ≤ N i j k ∧ N i j k ≤ 9) (hs : 1 ≤ s ∧ s < n) (hb : 0 ≤ nb ∧ nb ≤ 30) (hk : kW (fun i => μ 23 (25 * s + i))) : zC (d + 4) 6 [(2, 19), (2, 15), (0, s), (0, nb)] μ (fun x u => zfr [(22, -1), (23, -1)] μ u ∧ (∀ i, ¬ (25 * s ≤ i ∧ i < 25 * s + 25) → u 23 i = μ 23 i) ∧ kW (fun i => u 23 (25 * s + i)) ∧ (x = 0 ∨ x = 1) ∧ ∀ χ : Int → Int, χ 0 = 1 → (goP N n s nb (fun i => μ 23 (25 * s + i)) n χ ↔ (x = 1 ∧ kS (fun i => u 23 (25 * s + i)) χ))) := by
  generalize hQ : (fun (x : Int) (u : zM) => zfr [(22, -1), (23, -1)] μ u ∧ (∀ i, ¬ (25 * s ≤ i ∧ i < 25 * s + 25) → u 23 i = μ 23 i) ∧ kW (fun i => u 23 (25 * s + i)) ∧ (x = 0 ∨ x = 1) ∧ ∀ χ : Int → Int, χ 0 = 1 → (goP N n s nb (fun i => μ 23 (25 * s + i)) n χ ↔ (x = 1 ∧ kS (fun i => u 23 (25 * s + i)) χ))) = Q
  obtain ⟨J, hJ⟩ : ∃ J : Int → Int → zM → Prop, J = fun o x u => zfr [(22, -1), (23, -1)] μ u ∧ (∀ i, ¬ (25 * s ≤ i ∧ i < 25 * s + 25) → u 23 i = μ 23 i) ∧ kW (fun i => u 23 (25 * s + i)) ∧ (x = 0 ∨ x = 1) ∧ ∀ χ : Int → Int, χ 0 = 1 → (goP N n s nb (fun i => μ 23 (25 * s + i)) o χ ↔ (x = 1 ∧ kS (fun i => u 23 (25 * s + i)) χ)) := ⟨_, rfl⟩
  have fin : ∀ o x u, o ≤ n → (x = 1 → o = n) → J o x u → Q x u := by
    intro o x u ho hx hj
    rw [hJ] at hj
    rw [← hQ]
    obtain ⟨f, g, w, b, h⟩ := hj
    refine ⟨f, g, w, b, fun χ h0 => ?_⟩
    rcases b with rfl | rfl
    · refine ⟨fun p => ?_, fun p => absurd p.1 (by decide)⟩
      exact absurd ((h χ h0).1 ⟨p.1, p.2.1, fun o' a b => p.2.2 o' a (by omega)⟩).1 (by decide)
    · rw [hx rfl] at h; exact h χ h0
  have hl : ∀ o (σ : Int × zM), 0 ≤ o → o ≤ n → (1 ≤ o ∧ J o σ.1 σ.2) → zR (d + 3) 6 Q 38 [(2, 19), (2, 15), (0, s), (0, nb), (0, σ.1), (0, o)] [] σ.2 := by
    refine zloop (n := n) (Inv := fun o (σ : Int × zM) => 1 ≤ o ∧ J o σ.1 σ.2) (R := fun o σ => zR (d + 3) 6 Q 38 [(2, 19), (2, 15), (0, s), (0, nb), (0, σ.1), (0, o)] [] σ.2) ?_ ?_
    · rintro o ⟨x, u⟩ _ o1 ⟨oo, hj⟩ ih
      change J o x u at hj
      have hj' := hj
      rw [hJ] at hj'
      obtain ⟨f, g, w, b, h⟩ := hj'
      have e15 : u 15 0 = n := by rw [zfr_c f (by decide)]; exact hm
      have F : zFu 16 n N u := by unfold zFu at hF ⊢; rw [zfr_c f (by decide)]; exact hF
      rw [u6_38]
      simp only [k6_38, e6, k6_0, u6_74, k6_74, zO_nop, zO_goto, zO_iload_n0, zO_iload_n1, zO_iload_n2, zO_iload_n3, zO_iload, zO_lload_n0, zO_lload_n1, zO_lload_n2, zO_lload_n3, zO_lload, zO_aload_n0, zO_aload_n1, zO_aload_n2, zO_aload_n3, zO_aload, zO_istore_n0, zO_istore_n1, zO_istore_n2, zO_istore_n3, zO_istore, zO_astore_n0, zO_astore_n1, zO_astore_n2, zO_astore_n3, zO_astore, zO_lstore, zO_iinc, zO_iconst, zO_bipush, zO_sipush, zO_lconst0, zO_lconst1, zO_ldc, zO_ldc2_w, zO_iadd, zO_isub, zO_imul, zO_idiv, zO_irem, zO_ineg, zO_iand, zO_ior, zO_ixor, zO_ishl, zO_ishr, zO_iushr, zO_ladd, zO_lmul, zO_land, zO_lor, zO_lshl, zO_lcmp, zO_i2l, zO_l2i, zO_i2b, zO_dup0, zO_dup2, zO_dup200, zO_dup202, zO_dup220, zO_dup222, zO_ifCond_eq, zO_ifCond_ne, zO_ifCond_lt, zO_ifCond_ge, zO_ifCond_gt, zO_ifCond_le, zO_if_icmp_eq, zO_if_icmp_ne, zO_if_icmp_lt, zO_if_icmp_ge, zO_if_icmp_gt, zO_if_icmp_le, zO_getfield, zO_putfield, zO_iaload, zO_baload, zO_laload, zO_iastore, zO_bastore, zO_lastore, zO_arraylength, zO_invokevirtual, zO_lreturn, zO_areturn, zO_return_, zO_tableswitch, zO_lookupswitch, zO_is0, zO_is1, zO_is2, zO_is3, zO_is4, zO_is9, zO_is10, zO_is11, zO_is12, zO_ir1, zO_ir4, zB_c, zLd_0, zLd_s, zSt_c, zSt2_c, zU_c, zD_c, zY_c, zSw_n, zSw_c, zCall_c, zVirt_c, zP_0, zP_1, zP_2, zP_3, zP_4, zGet_n, zGet_z, zPut_n, zPut_z, zcw_n, zcw_0, zcw_1, zcw_2, List.length_cons, List.length_nil, List.take_succ_cons, List.take_zero, List.drop_succ_cons, List.drop_zero, List.reverse_cons, List.reverse_nil, List.nil_append, List.cons_append, List.append_nil, List.set_cons_zero, List.set_cons_succ, List.getD_cons_zero, List.getD_cons_succ, true_and, and_true, ne_eq, not_false_eq_true, not_true_eq_false, zif, Nat.reduceAdd, Nat.reduceLeDiff, Nat.reduceLT, Nat.reduceSub, Nat.reduceEqDiff, Nat.zero_le, Nat.lt_add_one, Nat.reduceMod, false_implies, true_implies, implies_true, forall_const, Int.reduceLE, Int.reduceLT, Int.reduceEq, Int.reduceNeg, ite10_0, ite10_1, zem, zem2, Classical.not_not, and_self, or_true, true_or, or_false, false_or, zT_15, zN_15, zGf_32_15, zPf_32_15, zGf_33_15, zT_19, zN_19, zGf_0_19, zPf_0_19, zGf_1_19, zGf_2_19, zGf_3_19, zGf_4_19, zAl_22, zAs_22, e15]
      refine ⟨fun e => ⟨b, fin o x u (by omega) (fun e1 => by omega) hj⟩, fun e => ⟨fun _ => ?_, fun e2 => absurd o1 e2⟩⟩
      refine zuse (K_becomeLaw (d := d) hn e15 F hN ⟨by omega, hs.2⟩ ⟨by omega, o1⟩ hb) ?_
      rintro r u1 ⟨_, f1, g1⟩
      have c : u1 23 = u 23 := zfr_c f1 (by decide)
      have kw1 : kW (fun i => u1 23 (25 * s + i)) := by rw [c]; exact w
      refine zuse (K_learn (d := d + 1) ⟨by omega, by omega⟩ kw1 (fun k hk => by rw [g1 k hk]; omega)) ?_
      rintro y u2 ⟨f2, g2, w2, _, b2, h2⟩
      rw [zw_e (z := o + 1) (by omega) (by omega)]
      refine ih (y, u2) ⟨by omega, ?_⟩
      show J (o + 1) y u2
      rw [hJ]
      refine ⟨zfr_tr f (zfr_tr (zfr_up f1 (by decide)) f2), fun i hi => by rw [g2 i hi, c, g i hi], w2, b2, fun χ h0 => ?_⟩
      rw [← h2 χ h0, ev_law hn ⟨by omega, o1⟩ g1, c]
      have hx : x = 1 := by omega
      have hh := h χ h0
      constructor
      · rintro ⟨p, q, l⟩
        exact ⟨(hh.1 ⟨p, q, fun o' a b => l o' a (by omega)⟩).2, l o oo (by omega)⟩
      · rintro ⟨p, l⟩
        have t := hh.2 ⟨hx, p⟩
        refine ⟨t.1, t.2.1, fun o' a b' => ?_⟩
        by_cases z : o' = o
        · rw [z]; exact l
        · exact t.2.2 o' a (by omega)
    · rintro ⟨x, u⟩ ⟨oo, hj⟩
      change J n x u at hj
      have hj' := hj
      rw [hJ] at hj'
      obtain ⟨f, g, w, b, h⟩ := hj'
      have e15 : u 15 0 = n := by rw [zfr_c f (by decide)]; exact hm
      rw [u6_38]
      simp only [k6_38, e6, k6_0, u6_74, k6_74, zO_nop, zO_goto, zO_iload_n0, zO_iload_n1, zO_iload_n2, zO_iload_n3, zO_iload, zO_lload_n0, zO_lload_n1, zO_lload_n2, zO_lload_n3, zO_lload, zO_aload_n0, zO_aload_n1, zO_aload_n2, zO_aload_n3, zO_aload, zO_istore_n0, zO_istore_n1, zO_istore_n2, zO_istore_n3, zO_istore, zO_astore_n0, zO_astore_n1, zO_astore_n2, zO_astore_n3, zO_astore, zO_lstore, zO_iinc, zO_iconst, zO_bipush, zO_sipush, zO_lconst0, zO_lconst1, zO_ldc, zO_ldc2_w, zO_iadd, zO_isub, zO_imul, zO_idiv, zO_irem, zO_ineg, zO_iand, zO_ior, zO_ixor, zO_ishl, zO_ishr, zO_iushr, zO_ladd, zO_lmul, zO_land, zO_lor, zO_lshl, zO_lcmp, zO_i2l, zO_l2i, zO_i2b, zO_dup0, zO_dup2, zO_dup200, zO_dup202, zO_dup220, zO_dup222, zO_ifCond_eq, zO_ifCond_ne, zO_ifCond_lt, zO_ifCond_ge, zO_ifCond_gt, zO_ifCond_le, zO_if_icmp_eq, zO_if_icmp_ne, zO_if_icmp_lt, zO_if_icmp_ge, zO_if_icmp_gt, zO_if_icmp_le, zO_getfield, zO_putfield, zO_iaload, zO_baload, zO_laload, zO_iastore, zO_bastore, zO_lastore, zO_arraylength, zO_invokevirtual, zO_lreturn, zO_areturn, zO_return_, zO_tableswitch, zO_lookupswitch, zO_is0, zO_is1, zO_is2, zO_is3, zO_is4, zO_is9, zO_is10, zO_is11, zO_is12, zO_ir1, zO_ir4, zB_c, zLd_0, zLd_s, zSt_c, zSt2_c, zU_c, zD_c, zY_c, zSw_n, zSw_c, zCall_c, zVirt_c, zP_0, zP_1, zP_2, zP_3, zP_4, zGet_n, zGet_z, zPut_n, zPut_z, zcw_n, zcw_0, zcw_1, zcw_2, List.length_cons, List.length_nil, List.take_succ_cons, List.take_zero, List.drop_succ_cons, List.drop_zero, List.reverse_cons, List.reverse_nil, List.nil_append, List.cons_append, List.append_nil, List.set_cons_zero, List.set_cons_succ, List.getD_cons_zero, List.getD_cons_succ, true_and, and_true, ne_eq, not_false_eq_true, not_true_eq_false, zif, Nat.reduceAdd, Nat.reduceLeDiff, Nat.reduceLT, Nat.reduceSub, Nat.reduceEqDiff, Nat.zero_le, Nat.lt_add_one, Nat.reduceMod, false_implies, true_implies, implies_true, forall_const, Int.reduceLE, Int.reduceLT, Int.reduceEq, Int.reduceNeg, ite10_0, ite10_1, zem, zem2, Classical.not_not, and_self, or_true, true_or, or_false, false_or, zT_15, zN_15, zGf_32_15, zPf_32_15, zGf_33_15, zT_19, zN_19, zGf_0_19, zPf_0_19, zGf_1_19, zGf_2_19, zGf_3_19, zGf_4_19, zAl_22, zAs_22, e15]
      refine ⟨fun e => ⟨b, fin n x u (by omega) (fun _ => rfl) hj⟩, fun e => ⟨fun e2 => absurd e2 (by omega), fun _ => ⟨b, fin n x u (by omega) (fun _ => rfl) hj⟩⟩⟩
  simp only [e6, k6_0, zO_nop, zO_goto, zO_iload_n0, zO_iload_n1, zO_iload_n2, zO_iload_n3, zO_iload, zO_lload_n0, zO_lload_n1, zO_lload_n2, zO_lload_n3, zO_lload, zO_aload_n0, zO_aload_n1, zO_aload_n2, zO_aload_n3, zO_aload, zO_istore_n0, zO_istore_n1, zO_istore_n2, zO_istore_n3, zO_istore, zO_astore_n0, zO_astore_n1, zO_astore_n2, zO_astore_n3, zO_astore, zO_lstore, zO_iinc, zO_iconst, zO_bipush, zO_sipush, zO_lconst0, zO_lconst1, zO_ldc, zO_ldc2_w, zO_iadd, zO_isub, zO_imul, zO_idiv, zO_irem, zO_ineg, zO_iand, zO_ior, zO_ixor, zO_ishl, zO_ishr, zO_iushr, zO_ladd, zO_lmul, zO_land, zO_lor, zO_lshl, zO_lcmp, zO_i2l, zO_l2i, zO_i2b, zO_dup0, zO_dup2, zO_dup200, zO_dup202, zO_dup220, zO_dup222, zO_ifCond_eq, zO_ifCond_ne, zO_ifCond_lt, zO_ifCond_ge, zO_ifCond_gt, zO_ifCond_le, zO_if_icmp_eq, zO_if_icmp_ne, zO_if_icmp_lt, zO_if_icmp_ge, zO_if_icmp_gt, zO_if_icmp_le, zO_getfield, zO_putfield, zO_iaload, zO_baload, zO_laload, zO_iastore, zO_bastore, zO_lastore, zO_arraylength, zO_invokevirtual, zO_lreturn, zO_areturn, zO_return_, zO_tableswitch, zO_lookupswitch, zO_is0, zO_is1, zO_is2, zO_is3, zO_is4, zO_is9, zO_is10, zO_is11, zO_is12, zO_ir1, zO_ir4, zB_c, zLd_0, zLd_s, zSt_c, zSt2_c, zU_c, zD_c, zY_c, zSw_n, zSw_c, zCall_c, zVirt_c, zP_0, zP_1, zP_2, zP_3, zP_4, zGet_n, zGet_z, zPut_n, zPut_z, zcw_n, zcw_0, zcw_1, zcw_2, List.length_cons, List.length_nil, List.take_succ_cons, List.take_zero, List.drop_succ_cons, List.drop_zero, List.reverse_cons, List.reverse_nil, List.nil_append, List.cons_append, List.append_nil, List.set_cons_zero, List.set_cons_succ, List.getD_cons_zero, List.getD_cons_succ, true_and, and_true, ne_eq, not_false_eq_true, not_true_eq_false, zif, Nat.reduceAdd, Nat.reduceLeDiff, Nat.reduceLT, Nat.reduceSub, Nat.reduceEqDiff, Nat.zero_le, Nat.lt_add_one, Nat.reduceMod, false_implies, true_implies, implies_true, forall_const, Int.reduceLE, Int.reduceLT, Int.reduceEq, Int.reduceNeg, ite10_0, ite10_1, zem, zem2, Classical.not_not, and_self, or_true, true_or, or_false, false_or, zT_15, zN_15, zGf_32_15, zPf_32_15, zGf_33_15, zT_19, zN_19, zGf_0_19, zPf_0_19, zGf_1_19, zGf_2_19, zGf_3_19, zGf_4_19, zAl_22, zAs_22]
  refine zuse (K_fillI22 (d := d + 2)) ?_
  rintro r u0 ⟨_, f, g⟩
  refine ⟨by omega, by omega, ?_⟩
  have e0 : (zw (31 - nb)).tmod 31 = (31 - nb) % 31 := by rw [zw_e (by omega) (by omega), Int.tmod_eq_emod_of_nonneg (by omega)]
  rw [e0]
  generalize hu : zu (zu u0 22 0 ((31 - nb) % 31)) 22 s 1 = u1
  have f1 : zfr [(22, -1)] μ u1 := by rw [← hu]; exact zfr_w (zfr_w f (by decide)) (by decide)
  have g1 : ∀ k, zrg 5 k → u1 22 k = if k = s then 1 else if k = 0 then (31 - nb) % 31 else 0 := fun k hk => by
    rw [← hu]
    by_cases a : k = s
    · rw [a, zu_at, if_pos rfl]
    · rw [zu_ne (by omega), if_neg a]
      by_cases b : k = 0
      · rw [b, zu_at, if_pos rfl]
      · rw [zu_ne (by omega), if_neg b, g k hk.1 hk.2]
  have c : u1 23 = μ 23 := zfr_c f1 (by decide)
  refine zuse (K_learn (d := d + 1) (μ := u1) ⟨by omega, by omega⟩ (by rw [c]; exact hk) (fun k hk => by rw [g1 k hk]; split; omega; split <;> omega)) ?_
  rintro y u2 ⟨f2, g2, w2, _, b2, h2⟩
  refine hl 1 (y, u2) (by omega) (by omega) ⟨by omega, ?_⟩
  show J 1 y u2
  rw [hJ]
  refine ⟨zfr_tr (zfr_up f1 (by decide)) f2, fun i hi => by rw [g2 i hi, c], w2, b2, fun χ h0 => ?_⟩
  rw [← h2 χ h0, ev_num ⟨hs.1, by omega⟩ h0 g1, c]
  exact ⟨fun z => ⟨z.1, z.2.1⟩, fun z => ⟨z.1, z.2, fun o' a b => by omega⟩⟩
