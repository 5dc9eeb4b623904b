/-! characters: the class's search -/
theorem K_keepChosen {d : Nat} {μ : zM} (hf : 0 ≤ μ 19 0 ∧ μ 19 0 < 5) : zC (d + 1) 5 [(2, 19)] μ (fun x u => x = 0 ∧ zfr [(19, 0), (20, -1)] μ u ∧ u 19 0 = μ 19 0 + 1 ∧ ∀ i, u 20 i = if 5 * μ 19 0 ≤ i ∧ i < 5 * μ 19 0 + 5 then μ 21 (i - 5 * μ 19 0) else μ 20 i) := by
  have e1 : zw (μ 19 0 * 5) = 5 * μ 19 0 := by rw [zw_e (by omega) (by omega)]; omega
  simp only [e5, k5_0, e5, k5_0, u5_37, k5_37, zO_nop, zO_goto, zO_iload_n0, zO_iload_n1, zO_iload_n2, zO_iload_n3, zO_iload, zO_lload_n0, zO_lload_n1, zO_lload_n2, zO_lload_n3, zO_lload, zO_aload_n0, zO_aload_n1, zO_aload_n2, zO_aload_n3, zO_aload, zO_istore_n0, zO_istore_n1, zO_istore_n2, zO_istore_n3, zO_istore, zO_astore_n0, zO_astore_n1, zO_astore_n2, zO_astore_n3, zO_astore, zO_lstore, zO_iinc, zO_iconst, zO_bipush, zO_sipush, zO_lconst0, zO_lconst1, zO_ldc, zO_ldc2_w, zO_iadd, zO_isub, zO_imul, zO_idiv, zO_irem, zO_ineg, zO_iand, zO_ior, zO_ixor, zO_ishl, zO_ishr, zO_iushr, zO_ladd, zO_lmul, zO_land, zO_lor, zO_lshl, zO_lcmp, zO_i2l, zO_l2i, zO_i2b, zO_dup0, zO_dup2, zO_dup200, zO_dup202, zO_dup220, zO_dup222, zO_ifCond_eq, zO_ifCond_ne, zO_ifCond_lt, zO_ifCond_ge, zO_ifCond_gt, zO_ifCond_le, zO_if_icmp_eq, zO_if_icmp_ne, zO_if_icmp_lt, zO_if_icmp_ge, zO_if_icmp_gt, zO_if_icmp_le, zO_getfield, zO_putfield, zO_iaload, zO_baload, zO_laload, zO_iastore, zO_bastore, zO_lastore, zO_arraylength, zO_invokevirtual, zO_lreturn, zO_areturn, zO_return_, zO_tableswitch, zO_lookupswitch, zO_is0, zO_is1, zO_is2, zO_is3, zO_is4, zO_is9, zO_is10, zO_is11, zO_is12, zO_ir1, zO_ir4, zB_c, zLd_0, zLd_s, zSt_c, zSt2_c, zU_c, zD_c, zY_c, zSw_n, zSw_c, zCall_c, zVirt_c, zP_0, zP_1, zP_2, zP_3, zP_4, zGet_n, zGet_z, zPut_n, zPut_z, zcw_n, zcw_0, zcw_1, zcw_2, List.length_cons, List.length_nil, List.take_succ_cons, List.take_zero, List.drop_succ_cons, List.drop_zero, List.reverse_cons, List.reverse_nil, List.nil_append, List.cons_append, List.append_nil, List.set_cons_zero, List.set_cons_succ, List.getD_cons_zero, List.getD_cons_succ, true_and, and_true, ne_eq, not_false_eq_true, not_true_eq_false, zif, Nat.reduceAdd, Nat.reduceLeDiff, Nat.reduceLT, Nat.reduceSub, Nat.reduceEqDiff, Nat.zero_le, Nat.lt_add_one, Nat.reduceMod, false_implies, true_implies, implies_true, forall_const, Int.reduceLE, Int.reduceLT, Int.reduceEq, Int.reduceNeg, ite10_0, ite10_1, zem, zem2, Classical.not_not, and_self, or_true, true_or, or_false, false_or, zT_19, zN_19, zGf_0_19, zPf_0_19, zGf_1_19, zGf_2_19, zGf_3_19, zGf_4_19, zT_20, zN_20, zT_21, zN_21, zCopy_c, e1]
  have e2 : zcp μ 21 20 0 (5 * μ 19 0) 5 19 0 = μ 19 0 := by rw [zcp_d, if_neg (by omega)]
  rw [e2, zw_e (z := μ 19 0 + 1) (by omega) (by omega)]
  refine ⟨fun _ => ?_, fun e => absurd hf.2 e⟩
  have F : zfr [(19, 0), (20, -1)] μ (zu (zcp μ 21 20 0 (5 * μ 19 0) 5) 19 0 (μ 19 0 + 1)) := zfr_u (zfr_cp zfr_rf (by decide)) (by decide)
  have G : ∀ i, zu (zcp μ 21 20 0 (5 * μ 19 0) 5) 19 0 (μ 19 0 + 1) 20 i = if 5 * μ 19 0 ≤ i ∧ i < 5 * μ 19 0 + 5 then μ 21 (i - 5 * μ 19 0) else μ 20 i := by
    intro i
    rw [zu_ne (by omega), zcp_d]
    by_cases q : 5 * μ 19 0 ≤ i ∧ i < 5 * μ 19 0 + 5
    · rw [if_pos ⟨rfl, q⟩, if_pos q, Int.zero_add]
    · rw [if_neg (fun z => q z.2), if_neg q]
  have G0 : zu (zcp μ 21 20 0 (5 * μ 19 0) 5) 19 0 (μ 19 0 + 1) 19 0 = μ 19 0 + 1 := zu_at _ _ _ _
  generalize zu (zcp μ 21 20 0 (5 * μ 19 0) 5) 19 0 (μ 19 0 + 1) = w at F G G0 ⊢
  simp only [F, G0, true_and, and_true]
  refine ⟨by omega, by omega, ?_⟩
  first | exact G | exact ⟨by omega, G⟩
theorem xr_c {u w : zM} (h : w 20 = u 20) : xr w = xr u := by unfold xr; rw [h]
def chF : List (Int × Int) := [(19, 0), (20, -1), (21, -1), (22, -1), (23, -1)]
def chQ (N : Int → Int → Int → Int) (n s : Int) (c : Int → Int) (P : (Int → Int) → Prop) (μ u : zM) : Prop := zfr chF μ u ∧ (∀ i, i < 25 * s → u 23 i = μ 23 i) ∧ (∀ k, k < s → u 21 k = μ 21 k) ∧ (∀ r, r < μ 19 0 → xr u r = xr μ r) ∧ chW N n P (μ 19 0) (u 19 0) (xr u)
theorem K_choose {n : Int} {N : Int → Int → Int → Int} (hn : 1 ≤ n ∧ n ≤ 5) (hN : ∀ i j k, zrg n i → zrg n j → zrg n k → 0 ≤ N i j k ∧ N i j k ≤ 9) (N1 : zN1 n N) : ∀ (m d : Nat) (s : Int) (c : Int → Int) (μ : zM), s = n - m → 1 ≤ s → μ 15 0 = n → zFu 16 n N μ → kW (fun i => μ 23 (25 * (s - 1) + i)) → (∀ χ : Int → Int, χ 0 = 1 → (kS (fun i => μ 23 (25 * (s - 1) + i)) χ ↔ preP N n s c χ)) → c 0 = 1 → (∀ k, 0 ≤ k → k < s → (0 ≤ c k ∧ c k ≤ 30) ∧ μ 21 k = c k) → chA N n s c (μ 19 0) (xr μ) → zC (d + 5 + m) 4 [(2, 19), (2, 15), (0, s)] μ (fun _ u => chQ N n s c (pfx s c) μ u) := by
  intro m
  induction m with
  | zero =>
    intro d s c μ hs s1 hm hF hw hk c0 cb hA
    have hs' : s = n := by omega
    subst hs'
    have ok : chOK N s c := leaf hn.1 hw hk c0 (fun k q => (cb k q.1 q.2).1) N1
    have bd : μ 19 0 + 1 ≤ s := by
      have t := chA_leaf (X' := fun r => if r < μ 19 0 then xr μ r else c) hn.1 hA ok (fun r hr => by simp only [if_pos hr]) (fun k _ => by simp only [Int.lt_irrefl, if_false]) (by simp only [Int.lt_irrefl, if_false]; exact ok)
      exact t.1
    have f0 := hA.1
    rw [show d + 5 + 0 = (d + 4) + 1 from rfl]
    simp only [e4, k4_0, e4, k4_0, u4_13, k4_13, u4_18, k4_18, u4_74, k4_74, u4_80, k4_80, zO_nop, zO_goto, zO_iload_n0, zO_iload_n1, zO_iload_n2, zO_iload_n3, zO_iload, zO_lload_n0, zO_lload_n1, zO_lload_n2, zO_lload_n3, zO_lload, zO_aload_n0, zO_aload_n1, zO_aload_n2, zO_aload_n3, zO_aload, zO_istore_n0, zO_istore_n1, zO_istore_n2, zO_istore_n3, zO_istore, zO_astore_n0, zO_astore_n1, zO_astore_n2, zO_astore_n3, zO_astore, zO_lstore, zO_iinc, zO_iconst, zO_bipush, zO_sipush, zO_lconst0, zO_lconst1, zO_ldc, zO_ldc2_w, zO_iadd, zO_isub, zO_imul, zO_idiv, zO_irem, zO_ineg, zO_iand, zO_ior, zO_ixor, zO_ishl, zO_ishr, zO_iushr, zO_ladd, zO_lmul, zO_land, zO_lor, zO_lshl, zO_lcmp, zO_i2l, zO_l2i, zO_i2b, zO_dup0, zO_dup2, zO_dup200, zO_dup202, zO_dup220, zO_dup222, zO_ifCond_eq, zO_ifCond_ne, zO_ifCond_lt, zO_ifCond_ge, zO_ifCond_gt, zO_ifCond_le, zO_if_icmp_eq, zO_if_icmp_ne, zO_if_icmp_lt, zO_if_icmp_ge, zO_if_icmp_gt, zO_if_icmp_le, zO_getfield, zO_putfield, zO_iaload, zO_baload, zO_laload, zO_iastore, zO_bastore, zO_lastore, zO_arraylength, zO_invokevirtual, zO_lreturn, zO_areturn, zO_return_, zO_tableswitch, zO_lookupswitch, zO_is0, zO_is1, zO_is2, zO_is3, zO_is4, zO_is9, zO_is10, zO_is11, zO_is12, zO_ir1, zO_ir4, zB_c, zLd_0, zLd_s, zSt_c, zSt2_c, zU_c, zD_c, zY_c, zSw_n, zSw_c, zCall_c, zVirt_c, zP_0, zP_1, zP_2, zP_3, zP_4, zGet_n, zGet_z, zPut_n, zPut_z, zcw_n, zcw_0, zcw_1, zcw_2, List.length_cons, List.length_nil, List.take_succ_cons, List.take_zero, List.drop_succ_cons, List.drop_zero, List.reverse_cons, List.reverse_nil, List.nil_append, List.cons_append, List.append_nil, List.set_cons_zero, List.set_cons_succ, List.getD_cons_zero, List.getD_cons_succ, true_and, and_true, ne_eq, not_false_eq_true, not_true_eq_false, zif, Nat.reduceAdd, Nat.reduceLeDiff, Nat.reduceLT, Nat.reduceSub, Nat.reduceEqDiff, Nat.zero_le, Nat.lt_add_one, Nat.reduceMod, false_implies, true_implies, implies_true, forall_const, Int.reduceLE, Int.reduceLT, Int.reduceEq, Int.reduceNeg, ite10_0, ite10_1, zem, zem2, Classical.not_not, and_self, or_true, true_or, or_false, false_or, zT_15, zN_15, zGf_32_15, zPf_32_15, zGf_33_15, hm]
    have fin : zC (d + 4) 5 [(2, 19)] μ (fun _ u => chQ N s s c (pfx s c) μ u) := by
      refine zuse (K_keepChosen (d := d + 3) ⟨f0, by omega⟩) ?_
      rintro x u ⟨_, f, g1, g2⟩
      have e : ∀ r, r < μ 19 0 → xr u r = xr μ r := fun r hr => by
        funext k
        unfold xr
        by_cases q : 0 ≤ k ∧ k < 5
        · rw [if_pos q, if_pos q, g2, if_neg (by omega)]
        · rw [if_neg q, if_neg q]
      have e' : ∀ k, zrg s k → xr u (μ 19 0) k = c k := fun k hk => by
        have h1 := hk.1
        have h2 := hk.2
        unfold xr
        rw [if_pos ⟨by omega, by omega⟩, g2, if_pos (by omega), show 5 * μ 19 0 + k - 5 * μ 19 0 = k by omega]
        exact (cb k hk.1 hk.2).2
      refine ⟨zfr_up f (by decide), fun i _ => by rw [zfr_c f (by decide)], fun k _ => by rw [zfr_c f (by decide)], e, ?_⟩
      rw [g1]
      exact (chA_leaf hn.1 hA ok e e' (chOK_cg hn.1 e' ok)).2
    exact ⟨fun _ => ⟨fun e => absurd e (Int.lt_irrefl _), fun _ => ⟨⟨by decide, by decide⟩, fin⟩⟩, fun _ => ⟨⟨by decide, by decide⟩, fin⟩⟩
  | succ m ih =>
    intro d s c μ hs s1 hm hF hw hk c0 cb hA
    have hsn : s < n := by omega
    have f0 := hA.1
    generalize hQ : (fun (_ : Int) (u : zM) => chQ N n s c (pfx s c) μ u) = Q
    rw [show d + 5 + (m + 1) = (d + 5 + m) + 1 from rfl]
    have hl : ∀ a u, 0 ≤ a → a ≤ 31 → chQ N n s c (fun χ => pfx s c χ ∧ χ s < a) μ u → zR (d + 5 + m) 4 Q 20 [(2, 19), (2, 15), (0, s), (0, a)] [] u := by
      refine zloop (n := 31) (Inv := fun a u => chQ N n s c (fun χ => pfx s c χ ∧ χ s < a) μ u) ?_ ?_
      · rintro a u a0 a1 ⟨f, g23, g21, gx, hW⟩ ih2
        have b1 : zw (zw (s - 1) * 25) = 25 * (s - 1) := by simp (disch := omega) only [zw_e]; omega
        have b2 : zw (s * 25) = 25 * s := by simp (disch := omega) only [zw_e]; omega
        rw [u4_20]
        simp only [k4_20, e4, k4_0, u4_13, k4_13, u4_18, k4_18, u4_74, k4_74, u4_80, k4_80, zO_nop, zO_goto, zO_iload_n0, zO_iload_n1, zO_iload_n2, zO_iload_n3, zO_iload, zO_lload_n0, zO_lload_n1, zO_lload_n2, zO_lload_n3, zO_lload, zO_aload_n0, zO_aload_n1, zO_aload_n2, zO_aload_n3, zO_aload, zO_istore_n0, zO_istore_n1, zO_istore_n2, zO_istore_n3, zO_istore, zO_astore_n0, zO_astore_n1, zO_astore_n2, zO_astore_n3, zO_astore, zO_lstore, zO_iinc, zO_iconst, zO_bipush, zO_sipush, zO_lconst0, zO_lconst1, zO_ldc, zO_ldc2_w, zO_iadd, zO_isub, zO_imul, zO_idiv, zO_irem, zO_ineg, zO_iand, zO_ior, zO_ixor, zO_ishl, zO_ishr, zO_iushr, zO_ladd, zO_lmul, zO_land, zO_lor, zO_lshl, zO_lcmp, zO_i2l, zO_l2i, zO_i2b, zO_dup0, zO_dup2, zO_dup200, zO_dup202, zO_dup220, zO_dup222, zO_ifCond_eq, zO_ifCond_ne, zO_ifCond_lt, zO_ifCond_ge, zO_ifCond_gt, zO_ifCond_le, zO_if_icmp_eq, zO_if_icmp_ne, zO_if_icmp_lt, zO_if_icmp_ge, zO_if_icmp_gt, zO_if_icmp_le, zO_getfield, zO_putfield, zO_iaload, zO_baload, zO_laload, zO_iastore, zO_bastore, zO_lastore, zO_arraylength, zO_invokevirtual, zO_lreturn, zO_areturn, zO_return_, zO_tableswitch, zO_lookupswitch, zO_is0, zO_is1, zO_is2, zO_is3, zO_is4, zO_is9, zO_is10, zO_is11, zO_is12, zO_ir1, zO_ir4, zB_c, zLd_0, zLd_s, zSt_c, zSt2_c, zU_c, zD_c, zY_c, zSw_n, zSw_c, zCall_c, zVirt_c, zP_0, zP_1, zP_2, zP_3, zP_4, zGet_n, zGet_z, zPut_n, zPut_z, zcw_n, zcw_0, zcw_1, zcw_2, List.length_cons, List.length_nil, List.take_succ_cons, List.take_zero, List.drop_succ_cons, List.drop_zero, List.reverse_cons, List.reverse_nil, List.nil_append, List.cons_append, List.append_nil, List.set_cons_zero, List.set_cons_succ, List.getD_cons_zero, List.getD_cons_succ, true_and, and_true, ne_eq, not_false_eq_true, not_true_eq_false, zif, Nat.reduceAdd, Nat.reduceLeDiff, Nat.reduceLT, Nat.reduceSub, Nat.reduceEqDiff, Nat.zero_le, Nat.lt_add_one, Nat.reduceMod, false_implies, true_implies, implies_true, forall_const, Int.reduceLE, Int.reduceLT, Int.reduceEq, Int.reduceNeg, ite10_0, ite10_1, zem, zem2, Classical.not_not, and_self, or_true, true_or, or_false, false_or, zT_19, zN_19, zGf_0_19, zPf_0_19, zGf_1_19, zGf_2_19, zGf_3_19, zGf_4_19, zT_23, zN_23, zCopy_c, b1, b2]
        rw [zw_e (z := s + 1) (by omega) (by omega), zw_e (z := a + 1) (by omega) (by omega)]
        have hw1 : ∃ w, w = zcp u 23 23 (25 * (s - 1)) (25 * s) 25 := ⟨_, rfl⟩
        obtain ⟨w, hwd⟩ := hw1
        rw [← hwd]
        have fw : zfr [(23, -1)] u w := by rw [hwd]; exact zfr_cp zfr_rf (by decide)
        have wb : ∀ i, zrg 25 i → w 23 (25 * s + i) = μ 23 (25 * (s - 1) + i) := fun i hi => by
          have h1 := hi.1
          have h2 := hi.2
          rw [hwd, zcp_d, if_pos ⟨rfl, by omega, by omega⟩, show 25 * (s - 1) + (25 * s + i - 25 * s) = 25 * (s - 1) + i by omega, g23 _ (by omega)]
        have wo : ∀ i, i < 25 * s → w 23 i = μ 23 i := fun i hi => by rw [hwd, zcp_d, if_neg (by omega), g23 i hi]
        have w15 : w 15 0 = n := by rw [zfr_c fw (by decide), zfr_c f (by decide)]; exact hm
        have wF : zFu 16 n N w := by unfold zFu at hF ⊢; rw [zfr_c fw (by decide), zfr_c f (by decide)]; exact hF
        have hg := K_goesOn (d := d + 1 + m) (nb := a) hn w15 wF hN ⟨s1, hsn⟩ ⟨a0, by omega⟩ (kW_cg wb hw)
        rw [show d + 1 + m + 4 = d + 5 + m by omega] at hg
        refine ⟨fun _ => ?_, fun e => absurd a1 e⟩
        have key : zC (d + 5 + m) 6 [(2, 19), (2, 15), (0, s), (0, a)] w (fun x u1 => (x = 0 → chQ N n s c (fun χ => pfx s c χ ∧ χ s < a + 1) μ u1) ∧ (¬ x = 0 → zC (d + 5 + m) 4 [(2, 19), (2, 15), (0, s + 1)] (zu u1 21 s a) (fun _ u3 => chQ N n s c (fun χ => pfx s c χ ∧ χ s < a + 1) μ u3))) := by
          refine zuse hg ?_
          rintro x u1 ⟨f1, g1, kw1, bx, hx⟩
          have pk : ∀ χ : Int → Int, χ 0 = 1 → (preP N n (s + 1) (chU c s a) χ ↔ (x = 1 ∧ kS (fun i => u1 23 (25 * s + i)) χ)) := fun χ h0 => by
            rw [← hx χ h0, pre_st s1, ← hk χ h0]
            unfold goP
            rw [kS_cg (kn' := fun i => w 23 (25 * s + i)) wb]
          have c19 : u1 19 = u 19 := by rw [zfr_c f1 (by decide), zfr_c fw (by decide)]
          have c20 : u1 20 = u 20 := by rw [zfr_c f1 (by decide), zfr_c fw (by decide)]
          have c21 : u1 21 = u 21 := by rw [zfr_c f1 (by decide), zfr_c fw (by decide)]
          have F1 : zfr chF μ u1 := zfr_tr f (zfr_tr (zfr_up fw (by decide)) (zfr_up f1 (by decide)))
          have cr : ∀ χ ψ, (pfx s c χ ∧ χ s < a) → pfx (s + 1) (chU c s a) ψ → chLt n χ ψ := by
            rintro χ ψ ⟨p, l⟩ q
            obtain ⟨q1, q2⟩ := (pfx_st (by omega)).1 q
            exact ⟨s, ⟨by omega, hsn⟩, by rw [q2]; exact l, fun j u v => by rw [p j u v, q1 j u v]⟩
          have hP : ∀ χ, (pfx s c χ ∧ χ s < a + 1) ↔ ((pfx s c χ ∧ χ s < a) ∨ pfx (s + 1) (chU c s a) χ) := fun χ => by
            rw [pfx_st (by omega)]
            constructor
            · rintro ⟨p, l⟩
              by_cases q : χ s < a
              · exact Or.inl ⟨p, q⟩
              · exact Or.inr ⟨p, by omega⟩
            · rintro (⟨p, l⟩ | ⟨p, l⟩)
              · exact ⟨p, by omega⟩
              · exact ⟨p, by omega⟩
          refine ⟨fun x0 => ⟨F1, fun i hi => by rw [g1 i (by omega), wo i hi], fun k hk => by rw [c21, g21 k hk], fun r hr => by rw [xr_c c20, gx r hr], ?_⟩, fun x0 => ?_⟩
          · rw [c19, xr_c c20]
            refine chW_app hW (chW_0 (P := pfx (s + 1) (chU c s a)) fun χ h1 h2 => ?_) (fun r _ => rfl) cr hP
            have := ((pk χ h1.1).1 (ok_pre (by omega) h1 h2)).1
            omega
          · have x1 : x = 1 := by omega
            generalize hu2 : zu u1 21 s a = u2
            have F2 : zfr [(21, -1)] u1 u2 := by rw [← hu2]; exact zfr_w zfr_rf (by decide)
            have d23 : u2 23 = u1 23 := zfr_c F2 (by decide)
            have d20 : u2 20 = u 20 := by rw [zfr_c F2 (by decide), c20]
            have d19 : u2 19 = u 19 := by rw [zfr_c F2 (by decide), c19]
            have d15 : u2 15 0 = n := by rw [zfr_c F2 (by decide), zfr_c F1 (by decide)]; exact hm
            have dF : zFu 16 n N u2 := by unfold zFu at hF ⊢; rw [zfr_c F2 (by decide), zfr_c F1 (by decide)]; exact hF
            have e21 : ∀ k, k < s → u2 21 k = μ 21 k := fun k hk => by rw [← hu2, zu_ne (by omega), c21, g21 k hk]
            have nA : chA N n (s + 1) (chU c s a) (u2 19 0) (xr u2) := by
              rw [d19, xr_c d20]
              exact chA_st (by omega) hsn hA hW gx
            refine zuse (ih d (s + 1) (chU c s a) u2 (by omega) (by omega) d15 dF (by rw [d23, show s + 1 - 1 = s by omega]; exact kw1) (fun χ h0 => by rw [d23, show s + 1 - 1 = s by omega, pk χ h0]; exact ⟨fun z => ⟨x1, z⟩, fun z => z.2⟩) (by unfold chU; rw [if_neg (by omega)]; exact c0) (fun k k0 k1 => ?_) nA) ?_
            · unfold chU
              by_cases q : k = s
              · rw [if_pos q, q, ← hu2, zu_at]
                exact ⟨⟨a0, by omega⟩, rfl⟩
              · rw [if_neg q, e21 k (by omega)]
                exact cb k k0 (by omega)
            · rintro _ u3 ⟨f3, h23, h21, hx3, hW3⟩
              have ux : ∀ r, r < u 19 0 → xr u3 r = xr u r := fun r hr => by rw [hx3 r (by rw [d19]; exact hr), xr_c d20]
              refine ⟨zfr_tr F1 (zfr_tr (zfr_up F2 (by decide)) f3), fun i hi => by rw [h23 i (by omega), d23, g1 i (by omega), wo i hi], fun k hk => by rw [h21 k (by omega), e21 k hk], fun r hr => by rw [ux r (by have := hW.1; omega), gx r hr], ?_⟩
              rw [d19] at hW3
              exact chW_app hW hW3 ux cr hP
        refine ⟨by omega, by omega, by omega, by omega, ?_⟩
        refine zuse key ?_
        rintro x u1 ⟨k1, k2⟩
        refine ⟨fun x0 => ih2 u1 (k1 x0), fun x0 => ?_⟩
        simp only [zAl_21, zAs_21]
        refine ⟨by omega, by omega, ?_⟩
        exact zuse (k2 x0) fun _ u3 h3 => ih2 u3 h3
      · rintro u ⟨f, g23, g21, gx, hW⟩
        rw [u4_20]
        simp only [k4_20, e4, k4_0, u4_13, k4_13, u4_18, k4_18, u4_74, k4_74, u4_80, k4_80, zO_nop, zO_goto, zO_iload_n0, zO_iload_n1, zO_iload_n2, zO_iload_n3, zO_iload, zO_lload_n0, zO_lload_n1, zO_lload_n2, zO_lload_n3, zO_lload, zO_aload_n0, zO_aload_n1, zO_aload_n2, zO_aload_n3, zO_aload, zO_istore_n0, zO_istore_n1, zO_istore_n2, zO_istore_n3, zO_istore, zO_astore_n0, zO_astore_n1, zO_astore_n2, zO_astore_n3, zO_astore, zO_lstore, zO_iinc, zO_iconst, zO_bipush, zO_sipush, zO_lconst0, zO_lconst1, zO_ldc, zO_ldc2_w, zO_iadd, zO_isub, zO_imul, zO_idiv, zO_irem, zO_ineg, zO_iand, zO_ior, zO_ixor, zO_ishl, zO_ishr, zO_iushr, zO_ladd, zO_lmul, zO_land, zO_lor, zO_lshl, zO_lcmp, zO_i2l, zO_l2i, zO_i2b, zO_dup0, zO_dup2, zO_dup200, zO_dup202, zO_dup220, zO_dup222, zO_ifCond_eq, zO_ifCond_ne, zO_ifCond_lt, zO_ifCond_ge, zO_ifCond_gt, zO_ifCond_le, zO_if_icmp_eq, zO_if_icmp_ne, zO_if_icmp_lt, zO_if_icmp_ge, zO_if_icmp_gt, zO_if_icmp_le, zO_getfield, zO_putfield, zO_iaload, zO_baload, zO_laload, zO_iastore, zO_bastore, zO_lastore, zO_arraylength, zO_invokevirtual, zO_lreturn, zO_areturn, zO_return_, zO_tableswitch, zO_lookupswitch, zO_is0, zO_is1, zO_is2, zO_is3, zO_is4, zO_is9, zO_is10, zO_is11, zO_is12, zO_ir1, zO_ir4, zB_c, zLd_0, zLd_s, zSt_c, zSt2_c, zU_c, zD_c, zY_c, zSw_n, zSw_c, zCall_c, zVirt_c, zP_0, zP_1, zP_2, zP_3, zP_4, zGet_n, zGet_z, zPut_n, zPut_z, zcw_n, zcw_0, zcw_1, zcw_2, List.length_cons, List.length_nil, List.take_succ_cons, List.take_zero, List.drop_succ_cons, List.drop_zero, List.reverse_cons, List.reverse_nil, List.nil_append, List.cons_append, List.append_nil, List.set_cons_zero, List.set_cons_succ, List.getD_cons_zero, List.getD_cons_succ, true_and, and_true, ne_eq, not_false_eq_true, not_true_eq_false, zif, Nat.reduceAdd, Nat.reduceLeDiff, Nat.reduceLT, Nat.reduceSub, Nat.reduceEqDiff, Nat.zero_le, Nat.lt_add_one, Nat.reduceMod, false_implies, true_implies, implies_true, forall_const, Int.reduceLE, Int.reduceLT, Int.reduceEq, Int.reduceNeg, ite10_0, ite10_1, zem, zem2, Classical.not_not, and_self, or_true, true_or, or_false, false_or]
        rw [← hQ]
        refine ⟨f, g23, g21, gx, chW_P hW (fun χ h => ⟨fun z => z.1, fun z => ⟨z, ?_⟩⟩) (fun r _ => rfl)⟩
        have := (h.2.1 s ⟨by omega, hsn⟩).2
        omega
    simp only [e4, k4_0, u4_18, k4_18, zO_nop, zO_goto, zO_iload_n0, zO_iload_n1, zO_iload_n2, zO_iload_n3, zO_iload, zO_lload_n0, zO_lload_n1, zO_lload_n2, zO_lload_n3, zO_lload, zO_aload_n0, zO_aload_n1, zO_aload_n2, zO_aload_n3, zO_aload, zO_istore_n0, zO_istore_n1, zO_istore_n2, zO_istore_n3, zO_istore, zO_astore_n0, zO_astore_n1, zO_astore_n2, zO_astore_n3, zO_astore, zO_lstore, zO_iinc, zO_iconst, zO_bipush, zO_sipush, zO_lconst0, zO_lconst1, zO_ldc, zO_ldc2_w, zO_iadd, zO_isub, zO_imul, zO_idiv, zO_irem, zO_ineg, zO_iand, zO_ior, zO_ixor, zO_ishl, zO_ishr, zO_iushr, zO_ladd, zO_lmul, zO_land, zO_lor, zO_lshl, zO_lcmp, zO_i2l, zO_l2i, zO_i2b, zO_dup0, zO_dup2, zO_dup200, zO_dup202, zO_dup220, zO_dup222, zO_ifCond_eq, zO_ifCond_ne, zO_ifCond_lt, zO_ifCond_ge, zO_ifCond_gt, zO_ifCond_le, zO_if_icmp_eq, zO_if_icmp_ne, zO_if_icmp_lt, zO_if_icmp_ge, zO_if_icmp_gt, zO_if_icmp_le, zO_getfield, zO_putfield, zO_iaload, zO_baload, zO_laload, zO_iastore, zO_bastore, zO_lastore, zO_arraylength, zO_invokevirtual, zO_lreturn, zO_areturn, zO_return_, zO_tableswitch, zO_lookupswitch, zO_is0, zO_is1, zO_is2, zO_is3, zO_is4, zO_is9, zO_is10, zO_is11, zO_is12, zO_ir1, zO_ir4, zB_c, zLd_0, zLd_s, zSt_c, zSt2_c, zU_c, zD_c, zY_c, zSw_n, zSw_c, zCall_c, zVirt_c, zP_0, zP_1, zP_2, zP_3, zP_4, zGet_n, zGet_z, zPut_n, zPut_z, zcw_n, zcw_0, zcw_1, zcw_2, List.length_cons, List.length_nil, List.take_succ_cons, List.take_zero, List.drop_succ_cons, List.drop_zero, List.reverse_cons, List.reverse_nil, List.nil_append, List.cons_append, List.append_nil, List.set_cons_zero, List.set_cons_succ, List.getD_cons_zero, List.getD_cons_succ, true_and, and_true, ne_eq, not_false_eq_true, not_true_eq_false, zif, Nat.reduceAdd, Nat.reduceLeDiff, Nat.reduceLT, Nat.reduceSub, Nat.reduceEqDiff, Nat.zero_le, Nat.lt_add_one, Nat.reduceMod, false_implies, true_implies, implies_true, forall_const, Int.reduceLE, Int.reduceLT, Int.reduceEq, Int.reduceNeg, ite10_0, ite10_1, zem, zem2, Classical.not_not, and_self, or_true, true_or, or_false, false_or, zT_15, zN_15, zGf_32_15, zPf_32_15, zGf_33_15, hm]
    have st := hl 0 μ (by omega) (by omega) ⟨zfr_rf, fun _ _ => rfl, fun _ _ => rfl, fun _ _ => rfl, chW_0 fun χ h1 h2 => by have := (h1.2.1 s ⟨by omega, hsn⟩).1; omega⟩
    exact ⟨fun _ => ⟨fun _ => st, fun e => absurd hsn e⟩, fun e => absurd e (by omega)⟩
