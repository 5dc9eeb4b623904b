/-! characters: the reference's search, by depth -/
theorem xF_1 {μ : zM} : zN1 (μ 1 1) (xF μ) := by
  refine ⟨fun j k hj hk => ?_, fun i k hi hk => ?_⟩
  · unfold xF oF
    rw [if_pos (Or.inl rfl), Int.zero_add]
  · unfold xF oF
    rw [if_pos (Or.inr rfl), Int.add_zero]
def xs (u : zM) (r k : Int) : Int := if 0 ≤ k ∧ k < 5 then u 46 (5 * r + k) else 0
theorem xs_c {u w : zM} (h : w 46 = u 46) : xs w = xs u := by unfold xs; rw [h]
theorem soP_cg {N : Int → Int → Int → Int} {n l i j : Int} {row row' : Int → Int} (hn : 0 ≤ n) (hi : 0 ≤ i ∧ i ≤ l) (hj : 0 ≤ j ∧ j ≤ l) (e : ∀ k, 0 ≤ k → k ≤ l → row' k = row k) (h : soP N n l row i j) : soP N n l row' i j := by
  by_cases q : ∃ k, l < k ∧ k < n ∧ 0 < N i j k
  · exact Or.inl q
  · rcases h with h | h
    · exact absurd h q
    · refine Or.inr ?_
      rw [e i hi.1 hi.2, e j hj.1 hj.2, h, zs_cg hn fun k hk => ?_]
      show (if 0 < N i j k then N i j k * row k else 0) = if 0 < N i j k then N i j k * row' k else 0
      by_cases w : 0 < N i j k
      · rw [if_pos w, if_pos w, e k hk.1]
        refine Classical.byContradiction fun z => q ⟨k, by omega, hk.2, w⟩
      · rw [if_neg w, if_neg w]
theorem areP_cg {N : Int → Int → Int → Int} {n l : Int} {row row' : Int → Int} (hn : 0 ≤ n) (e : ∀ k, 0 ≤ k → k ≤ l → row' k = row k) (h : areP N n l row) : areP N n l row' := fun i j a b c d => soP_cg hn ⟨a, b⟩ ⟨c, d⟩ e (h i j a b c d)
theorem zs_if {N c : Int → Int} {n : Int} (hn : 0 ≤ n) (h : ∀ k, zrg n k → 0 ≤ N k) : zs (fun k => if 0 < N k then N k * c k else 0) n = zs (fun k => N k * c k) n := by
  refine zs_cg hn fun k hk => ?_
  show (if 0 < N k then N k * c k else 0) = N k * c k
  have := h k hk
  by_cases w : 0 < N k
  · rw [if_pos w]
  · rw [if_neg w, show N k = 0 by omega, Int.zero_mul]
theorem are_leaf {N : Int → Int → Int → Int} {n : Int} {c : Int → Int} (hn : 1 ≤ n) (hN : ∀ i j k, zrg n i → zrg n j → zrg n k → 0 ≤ N i j k ∧ N i j k ≤ 9) (c0 : c 0 = 1) (cb : ∀ k, zrg n k → 0 ≤ c k ∧ c k ≤ 30) (h : areP N n (n - 1) c) : chOK N n c := by
  refine ⟨c0, cb, fun i j hi hj => ?_⟩
  rcases h i j hi.1 (by have := hi.2; omega) hj.1 (by have := hj.2; omega) with ⟨k, a, b, _⟩ | h
  · omega
  · rw [h, zs_if (by omega) fun k hk => (hN i j k hi hj hk).1]
theorem are_ok {N : Int → Int → Int → Int} {n l : Int} {c : Int → Int} (hn : 1 ≤ n) (hl : l < n) (hN : ∀ i j k, zrg n i → zrg n j → zrg n k → 0 ≤ N i j k ∧ N i j k ≤ 9) (h : chOK N n c) : areP N n l c := by
  intro i j a b c' d
  refine Or.inr ?_
  rw [h.2.2 i j ⟨a, by omega⟩ ⟨c', by omega⟩, zs_if (by omega) fun k hk => (hN i j k ⟨a, by omega⟩ ⟨c', by omega⟩ hk).1]
def trF : List (Int × Int) := [(39, 12), (46, -1), (47, -1)]
def trQ (N : Int → Int → Int → Int) (n s : Int) (P : (Int → Int) → Prop) (μ u : zM) : Prop := zfr trF μ u ∧ (∀ k, k < s → u 47 k = μ 47 k) ∧ (∀ r, r < μ 39 12 → xs u r = xs μ r) ∧ chW N n P (μ 39 12) (u 39 12) (xs u)
theorem Rel_tr {μ u : zM} (hr : RN μ) (f : zfr trF μ u) : RN u ∧ xF u = xF μ ∧ u 1 = μ 1 := ⟨RN_fr hr (zfr_c f (by decide)) (zfr_c f (by decide)) (zfr_c f (by decide)), xF_fr f (by decide) (by decide), zfr_c f (by decide)⟩
theorem L_tries {n : Int} {N : Int → Int → Int → Int} (hn : 1 ≤ n ∧ n ≤ 5) (N1 : zN1 n N) : ∀ (m d : Nat) (s : Int) (c : Int → Int) (μ : zM), s = n - m → 1 ≤ s → RN μ → xF μ = N → μ 1 1 = n → areP N n (s - 1) c → c 0 = 1 → (∀ k, 0 ≤ k → k < s → (0 ≤ c k ∧ c k ≤ 30) ∧ μ 47 k = c k) → chA N n s c (μ 39 12) (xs μ) → zC (d + 6 + m) 149 [(2, 39), (0, s)] μ (fun _ u => trQ N n s (pfx s c) μ u) := by
  intro m
  induction m with
  | zero =>
    intro d s c μ hs s1 hr hX hm hk c0 cb hA
    have hs' : s = n := by omega
    subst hs'
    have hN : ∀ i j k, zrg s i → zrg s j → zrg s k → 0 ≤ N i j k ∧ N i j k ≤ 9 := by rw [← hX, ← hm]; exact RN_nb hr
    have ok : chOK N s c := are_leaf hn.1 hN c0 (fun k q => (cb k q.1 q.2).1) hk
    have bd : μ 39 12 + 1 ≤ s := by
      have t := chA_leaf (X' := fun r => if r < μ 39 12 then xs μ r else c) hn.1 hA ok (fun r hr => by simp only [if_pos hr]) (fun k _ => by simp only [Int.lt_irrefl, if_false]) (by simp only [Int.lt_irrefl, if_false]; exact ok)
      exact t.1
    have f0 := hA.1
    have e40 : μ 40 1 = s := by rw [(RN_n hr).2, hm]
    have e1 : zw (5 * μ 39 12) = 5 * μ 39 12 := by rw [zw_e (by omega) (by omega)]
    rw [show d + 6 + 0 = (d + 5) + 1 from rfl]
    simp only [e149, k149_0, e149, k149_0, u149_40, k149_40, u149_70, k149_70, u149_76, k149_76, zO_nop, zO_goto, zO_iload_n0, zO_iload_n1, zO_iload_n2, zO_iload_n3, zO_iload, zO_lload_n0, zO_lload_n1, zO_lload_n2, zO_lload_n3, zO_lload, zO_aload_n0, zO_aload_n1, zO_aload_n2, zO_aload_n3, zO_aload, zO_istore_n0, zO_istore_n1, zO_istore_n2, zO_istore_n3, zO_istore, zO_astore_n0, zO_astore_n1, zO_astore_n2, zO_astore_n3, zO_astore, zO_lstore, zO_iinc, zO_iconst, zO_bipush, zO_sipush, zO_lconst0, zO_lconst1, zO_ldc, zO_ldc2_w, zO_iadd, zO_isub, zO_imul, zO_idiv, zO_irem, zO_ineg, zO_iand, zO_ior, zO_ixor, zO_ishl, zO_ishr, zO_iushr, zO_ladd, zO_lmul, zO_land, zO_lor, zO_lshl, zO_lcmp, zO_i2l, zO_l2i, zO_i2b, zO_dup0, zO_dup2, zO_dup200, zO_dup202, zO_dup220, zO_dup222, zO_ifCond_eq, zO_ifCond_ne, zO_ifCond_lt, zO_ifCond_ge, zO_ifCond_gt, zO_ifCond_le, zO_if_icmp_eq, zO_if_icmp_ne, zO_if_icmp_lt, zO_if_icmp_ge, zO_if_icmp_gt, zO_if_icmp_le, zO_getfield, zO_putfield, zO_iaload, zO_baload, zO_laload, zO_iastore, zO_bastore, zO_lastore, zO_arraylength, zO_invokevirtual, zO_lreturn, zO_areturn, zO_return_, zO_tableswitch, zO_lookupswitch, zO_is0, zO_is1, zO_is2, zO_is3, zO_is4, zO_is9, zO_is10, zO_is11, zO_is12, zO_ir1, zO_ir4, zB_c, zLd_0, zLd_s, zSt_c, zSt2_c, zU_c, zD_c, zY_c, zSw_n, zSw_c, zCall_c, zVirt_c, zP_0, zP_1, zP_2, zP_3, zP_4, zGet_n, zGet_z, zPut_n, zPut_z, zcw_n, zcw_0, zcw_1, zcw_2, List.length_cons, List.length_nil, List.take_succ_cons, List.take_zero, List.drop_succ_cons, List.drop_zero, List.reverse_cons, List.reverse_nil, List.nil_append, List.cons_append, List.append_nil, List.set_cons_zero, List.set_cons_succ, List.getD_cons_zero, List.getD_cons_succ, true_and, and_true, ne_eq, not_false_eq_true, not_true_eq_false, zif, Nat.reduceAdd, Nat.reduceLeDiff, Nat.reduceLT, Nat.reduceSub, Nat.reduceEqDiff, Nat.zero_le, Nat.lt_add_one, Nat.reduceMod, false_implies, true_implies, implies_true, forall_const, Int.reduceLE, Int.reduceLT, Int.reduceEq, Int.reduceNeg, ite10_0, ite10_1, zem, zem2, Classical.not_not, and_self, or_true, true_or, or_false, false_or, zT_39, zN_39, zGf_192_39, zGf_193_39, zGf_194_39, zPf_194_39, zGf_195_39, zGf_196_39, zGf_197_39, zGf_198_39, zPf_198_39, zGf_199_39, zPf_199_39, zGf_200_39, zPf_200_39, zGf_201_39, zGf_202_39, zPf_202_39, zGf_203_39, zGf_204_39, zPf_204_39, zGf_205_39, zGf_206_39, zGf_207_39, zGf_208_39, zGf_209_39, zGf_210_39, zGf_211_39, zGf_212_39, zGf_213_39, zGf_214_39, zPf_214_39, zGf_215_39, zGf_216_39, zAl_40, zAs_40, zT_46, zN_46, zT_47, zN_47, zCopy_c, e40, e1]
    have e2 : zcp μ 47 46 0 (5 * μ 39 12) 5 39 12 = μ 39 12 := by rw [zcp_d, if_neg (by omega)]
    rw [e2, zw_e (z := μ 39 12 + 1) (by omega) (by omega)]
    generalize hu : zu (zcp μ 47 46 0 (5 * μ 39 12) 5) 39 12 (μ 39 12 + 1) = u
    have f : zfr [(39, 12), (46, -1)] μ u := by rw [← hu]; exact zfr_u (zfr_cp zfr_rf (by decide)) (by decide)
    have g1 : u 39 12 = μ 39 12 + 1 := by rw [← hu, zu_at]
    have g2 : ∀ i, u 46 i = if 5 * μ 39 12 ≤ i ∧ i < 5 * μ 39 12 + 5 then μ 47 (i - 5 * μ 39 12) else μ 46 i := fun i => by
      rw [← hu, zu_ne (by omega), zcp_d]
      by_cases q : 5 * μ 39 12 ≤ i ∧ i < 5 * μ 39 12 + 5
      · rw [if_pos ⟨rfl, q⟩, if_pos q, Int.zero_add]
      · rw [if_neg (fun z => q z.2), if_neg q]
    have fin : trQ N s s (pfx s c) μ u := by
      have e : ∀ r, r < μ 39 12 → xs u r = xs μ r := fun r hr => by
        funext k
        unfold xs
        by_cases q : 0 ≤ k ∧ k < 5
        · rw [if_pos q, if_pos q, g2, if_neg (by omega)]
        · rw [if_neg q, if_neg q]
      have e' : ∀ k, zrg s k → xs u (μ 39 12) k = c k := fun k hk => by
        have h1 := hk.1
        have h2 := hk.2
        unfold xs
        rw [if_pos ⟨by omega, by omega⟩, g2, if_pos (by omega), show 5 * μ 39 12 + k - 5 * μ 39 12 = k by omega]
        exact (cb k hk.1 hk.2).2
      refine ⟨zfr_up f (by decide), fun k _ => by rw [zfr_c f (by decide)], e, ?_⟩
      rw [g1]
      exact (chA_leaf hn.1 hA ok e e' (chOK_cg hn.1 e' ok)).2
    exact ⟨by omega, by omega, by omega, fin⟩
  | succ m ih =>
    intro d s c μ hs s1 hr hX hm hk c0 cb hA
    have hsn : s < n := by omega
    have f0 := hA.1
    have hN : ∀ i j k, zrg n i → zrg n j → zrg n k → 0 ≤ N i j k ∧ N i j k ≤ 9 := by rw [← hX, ← hm]; exact RN_nb hr
    have e40 : μ 40 1 = n := by rw [(RN_n hr).2, hm]
    generalize hQ : (fun (_ : Int) (u : zM) => trQ N n s (pfx s c) μ u) = Q
    rw [show d + 6 + (m + 1) = (d + 6 + m) + 1 from rfl]
    have hl : ∀ a u, 0 ≤ a → a ≤ 31 → trQ N n s (fun χ => pfx s c χ ∧ χ s < a) μ u → zR (d + 6 + m) 149 Q 42 [(2, 39), (0, s), (0, a)] [] u := by
      refine zloop (n := 31) (Inv := fun a u => trQ N n s (fun χ => pfx s c χ ∧ χ s < a) μ u) ?_ ?_
      · rintro a u a0 a1 ⟨f, g21, gx, hW⟩ ih2
        rw [u149_42]
        simp only [k149_42, e149, k149_0, u149_40, k149_40, u149_70, k149_70, u149_76, k149_76, zO_nop, zO_goto, zO_iload_n0, zO_iload_n1, zO_iload_n2, zO_iload_n3, zO_iload, zO_lload_n0, zO_lload_n1, zO_lload_n2, zO_lload_n3, zO_lload, zO_aload_n0, zO_aload_n1, zO_aload_n2, zO_aload_n3, zO_aload, zO_istore_n0, zO_istore_n1, zO_istore_n2, zO_istore_n3, zO_istore, zO_astore_n0, zO_astore_n1, zO_astore_n2, zO_astore_n3, zO_astore, zO_lstore, zO_iinc, zO_iconst, zO_bipush, zO_sipush, zO_lconst0, zO_lconst1, zO_ldc, zO_ldc2_w, zO_iadd, zO_isub, zO_imul, zO_idiv, zO_irem, zO_ineg, zO_iand, zO_ior, zO_ixor, zO_ishl, zO_ishr, zO_iushr, zO_ladd, zO_lmul, zO_land, zO_lor, zO_lshl, zO_lcmp, zO_i2l, zO_l2i, zO_i2b, zO_dup0, zO_dup2, zO_dup200, zO_dup202, zO_dup220, zO_dup222, zO_ifCond_eq, zO_ifCond_ne, zO_ifCond_lt, zO_ifCond_ge, zO_ifCond_gt, zO_ifCond_le, zO_if_icmp_eq, zO_if_icmp_ne, zO_if_icmp_lt, zO_if_icmp_ge, zO_if_icmp_gt, zO_if_icmp_le, zO_getfield, zO_putfield, zO_iaload, zO_baload, zO_laload, zO_iastore, zO_bastore, zO_lastore, zO_arraylength, zO_invokevirtual, zO_lreturn, zO_areturn, zO_return_, zO_tableswitch, zO_lookupswitch, zO_is0, zO_is1, zO_is2, zO_is3, zO_is4, zO_is9, zO_is10, zO_is11, zO_is12, zO_ir1, zO_ir4, zB_c, zLd_0, zLd_s, zSt_c, zSt2_c, zU_c, zD_c, zY_c, zSw_n, zSw_c, zCall_c, zVirt_c, zP_0, zP_1, zP_2, zP_3, zP_4, zGet_n, zGet_z, zPut_n, zPut_z, zcw_n, zcw_0, zcw_1, zcw_2, List.length_cons, List.length_nil, List.take_succ_cons, List.take_zero, List.drop_succ_cons, List.drop_zero, List.reverse_cons, List.reverse_nil, List.nil_append, List.cons_append, List.append_nil, List.set_cons_zero, List.set_cons_succ, List.getD_cons_zero, List.getD_cons_succ, true_and, and_true, ne_eq, not_false_eq_true, not_true_eq_false, zif, Nat.reduceAdd, Nat.reduceLeDiff, Nat.reduceLT, Nat.reduceSub, Nat.reduceEqDiff, Nat.zero_le, Nat.lt_add_one, Nat.reduceMod, false_implies, true_implies, implies_true, forall_const, Int.reduceLE, Int.reduceLT, Int.reduceEq, Int.reduceNeg, ite10_0, ite10_1, zem, zem2, Classical.not_not, and_self, or_true, true_or, or_false, false_or, zT_39, zN_39, zGf_192_39, zGf_193_39, zGf_194_39, zPf_194_39, zGf_195_39, zGf_196_39, zGf_197_39, zGf_198_39, zPf_198_39, zGf_199_39, zPf_199_39, zGf_200_39, zPf_200_39, zGf_201_39, zGf_202_39, zPf_202_39, zGf_203_39, zGf_204_39, zPf_204_39, zGf_205_39, zGf_206_39, zGf_207_39, zGf_208_39, zGf_209_39, zGf_210_39, zGf_211_39, zGf_212_39, zGf_213_39, zGf_214_39, zPf_214_39, zGf_215_39, zGf_216_39, zAl_40, zAs_40, zAl_47, zAs_47]
        rw [zw_e (z := s + 1) (by omega) (by omega), zw_e (z := a + 1) (by omega) (by omega)]
        generalize hu2 : zu u 47 s a = u2
        have F2 : zfr [(47, -1)] u u2 := by rw [← hu2]; exact zfr_w zfr_rf (by decide)
        have FF : zfr trF μ u2 := zfr_tr f (zfr_up F2 (by decide))
        obtain ⟨r2, x2, c12⟩ := Rel_tr hr FF
        have d46 : u2 46 = u 46 := zfr_c F2 (by decide)
        have d39 : u2 39 = u 39 := zfr_c F2 (by decide)
        have e47 : ∀ k, 0 ≤ k → k < s + 1 → u2 47 k = chU c s a k := fun k k0 k1 => by
          unfold chU
          by_cases q : k = s
          · rw [if_pos q, q, ← hu2, zu_at]
          · rw [if_neg q, ← hu2, zu_ne (by omega), g21 k (by omega)]; exact (cb k k0 (by omega)).2
        have eb : ∀ k, 0 ≤ k → k < s + 1 → 0 ≤ chU c s a k ∧ chU c s a k ≤ 30 := fun k k0 k1 => by
          unfold chU
          by_cases q : k = s
          · rw [if_pos q]; omega
          · rw [if_neg q]; exact (cb k k0 (by omega)).1
        have hg := L_areSo (d := d + 1 + m) (l := s) r2 (by omega) (by rw [c12, hm]; exact hsn) (fun k k0 k1 => by rw [e47 k k0 (by omega)]; exact eb k k0 (by omega))
        rw [show d + 1 + m + 5 = d + 6 + m by omega, x2, hX, c12, hm] at hg
        refine ⟨fun _ => ?_, fun e => absurd a1 e⟩
        have cr : ∀ χ ψ, (pfx s c χ ∧ χ s < a) → pfx (s + 1) (chU c s a) ψ → chLt n χ ψ := by
          rintro χ ψ ⟨p, l⟩ q
          obtain ⟨q1, q2⟩ := (pfx_st (by omega)).1 q
          exact ⟨s, ⟨by omega, hsn⟩, by rw [q2]; exact l, fun j u v => by rw [p j u v, q1 j u v]⟩
        have hP : ∀ χ, (pfx s c χ ∧ χ s < a + 1) ↔ ((pfx s c χ ∧ χ s < a) ∨ pfx (s + 1) (chU c s a) χ) := fun χ => by
          rw [pfx_st (by omega)]
          constructor
          · rintro ⟨p, l⟩
            by_cases q : χ s < a
            · exact Or.inl ⟨p, q⟩
            · exact Or.inr ⟨p, by omega⟩
          · rintro (⟨p, l⟩ | ⟨p, l⟩)
            · exact ⟨p, by omega⟩
            · exact ⟨p, by omega⟩
        have g47 : ∀ k, k < s → u2 47 k = μ 47 k := fun k hk => by rw [← hu2, zu_ne (by omega), g21 k hk]
        have key : zC (d + 6 + m) 148 [(2, 39), (0, s)] u2 (fun x u1 => (x = 0 → trQ N n s (fun χ => pfx s c χ ∧ χ s < a + 1) μ u1) ∧ (¬ x = 0 → zC (d + 6 + m) 149 [(2, 39), (0, s + 1)] u1 (fun _ u3 => trQ N n s (fun χ => pfx s c χ ∧ χ s < a + 1) μ u3))) := by
          refine zuse hg ?_
          rintro x u1 ⟨rfl, bx, hx⟩
          refine ⟨fun x0 => ⟨FF, g47, fun r hr => by rw [xs_c d46, gx r hr], ?_⟩, fun x0 => ?_⟩
          · rw [d39, xs_c d46]
            refine chW_app hW (chW_0 (P := pfx (s + 1) (chU c s a)) fun χ h1 h2 => ?_) (fun r _ => rfl) cr hP
            have t := are_ok hn.1 hsn hN h1
            have := hx.2 (areP_cg (by omega) (fun k k0 k1 => by rw [e47 k k0 (by omega), h2 k k0 (by omega)]) t)
            omega
          · have x1 : x = 1 := by omega
            have nA : chA N n (s + 1) (chU c s a) (u1 39 12) (xs u1) := by
              rw [d39, xs_c d46]
              exact chA_st (by omega) hsn hA hW gx
            refine zuse (ih d (s + 1) (chU c s a) u1 (by omega) (by omega) r2 (by rw [x2, hX]) (by rw [c12, hm]) (by rw [show s + 1 - 1 = s by omega]; exact areP_cg (by omega) (fun k k0 k1 => (e47 k k0 (by omega)).symm) (hx.1 x1)) (by unfold chU; rw [if_neg (by omega)]; exact c0) (fun k k0 k1 => ⟨eb k k0 k1, e47 k k0 k1⟩) nA) ?_
            rintro _ u3 ⟨f3, h21, hx3, hW3⟩
            have ux : ∀ r, r < u 39 12 → xs u3 r = xs u r := fun r hr => by rw [hx3 r (by rw [d39]; exact hr), xs_c d46]
            refine ⟨zfr_tr FF f3, fun k hk => by rw [h21 k (by omega), g47 k hk], fun r hr => by rw [ux r (by have := hW.1; omega), gx r hr], ?_⟩
            rw [d39] at hW3
            exact chW_app hW hW3 ux cr hP
        refine ⟨by omega, by omega, ?_⟩
        refine zuse key ?_
        rintro x u1 ⟨k1, k2⟩
        refine ⟨fun x0 => ih2 u1 (k1 x0), fun x0 => ?_⟩
        exact zuse (k2 x0) fun _ u3 h3 => ih2 u3 h3
      · rintro u ⟨f, g21, gx, hW⟩
        rw [u149_42]
        simp only [k149_42, e149, k149_0, u149_40, k149_40, u149_70, k149_70, u149_76, k149_76, zO_nop, zO_goto, zO_iload_n0, zO_iload_n1, zO_iload_n2, zO_iload_n3, zO_iload, zO_lload_n0, zO_lload_n1, zO_lload_n2, zO_lload_n3, zO_lload, zO_aload_n0, zO_aload_n1, zO_aload_n2, zO_aload_n3, zO_aload, zO_istore_n0, zO_istore_n1, zO_istore_n2, zO_istore_n3, zO_istore, zO_astore_n0, zO_astore_n1, zO_astore_n2, zO_astore_n3, zO_astore, zO_lstore, zO_iinc, zO_iconst, zO_bipush, zO_sipush, zO_lconst0, zO_lconst1, zO_ldc, zO_ldc2_w, zO_iadd, zO_isub, zO_imul, zO_idiv, zO_irem, zO_ineg, zO_iand, zO_ior, zO_ixor, zO_ishl, zO_ishr, zO_iushr, zO_ladd, zO_lmul, zO_land, zO_lor, zO_lshl, zO_lcmp, zO_i2l, zO_l2i, zO_i2b, zO_dup0, zO_dup2, zO_dup200, zO_dup202, zO_dup220, zO_dup222, zO_ifCond_eq, zO_ifCond_ne, zO_ifCond_lt, zO_ifCond_ge, zO_ifCond_gt, zO_ifCond_le, zO_if_icmp_eq, zO_if_icmp_ne, zO_if_icmp_lt, zO_if_icmp_ge, zO_if_icmp_gt, zO_if_icmp_le, zO_getfield, zO_putfield, zO_iaload, zO_baload, zO_laload, zO_iastore, zO_bastore, zO_lastore, zO_arraylength, zO_invokevirtual, zO_lreturn, zO_areturn, zO_return_, zO_tableswitch, zO_lookupswitch, zO_is0, zO_is1, zO_is2, zO_is3, zO_is4, zO_is9, zO_is10, zO_is11, zO_is12, zO_ir1, zO_ir4, zB_c, zLd_0, zLd_s, zSt_c, zSt2_c, zU_c, zD_c, zY_c, zSw_n, zSw_c, zCall_c, zVirt_c, zP_0, zP_1, zP_2, zP_3, zP_4, zGet_n, zGet_z, zPut_n, zPut_z, zcw_n, zcw_0, zcw_1, zcw_2, List.length_cons, List.length_nil, List.take_succ_cons, List.take_zero, List.drop_succ_cons, List.drop_zero, List.reverse_cons, List.reverse_nil, List.nil_append, List.cons_append, List.append_nil, List.set_cons_zero, List.set_cons_succ, List.getD_cons_zero, List.getD_cons_succ, true_and, and_true, ne_eq, not_false_eq_true, not_true_eq_false, zif, Nat.reduceAdd, Nat.reduceLeDiff, Nat.reduceLT, Nat.reduceSub, Nat.reduceEqDiff, Nat.zero_le, Nat.lt_add_one, Nat.reduceMod, false_implies, true_implies, implies_true, forall_const, Int.reduceLE, Int.reduceLT, Int.reduceEq, Int.reduceNeg, ite10_0, ite10_1, zem, zem2, Classical.not_not, and_self, or_true, true_or, or_false, false_or]
        rw [← hQ]
        refine ⟨f, g21, gx, chW_P hW (fun χ h => ⟨fun z => z.1, fun z => ⟨z, ?_⟩⟩) (fun r _ => rfl)⟩
        have := (h.2.1 s ⟨by omega, hsn⟩).2
        omega
    simp only [e149, k149_0, u149_40, k149_40, zO_nop, zO_goto, zO_iload_n0, zO_iload_n1, zO_iload_n2, zO_iload_n3, zO_iload, zO_lload_n0, zO_lload_n1, zO_lload_n2, zO_lload_n3, zO_lload, zO_aload_n0, zO_aload_n1, zO_aload_n2, zO_aload_n3, zO_aload, zO_istore_n0, zO_istore_n1, zO_istore_n2, zO_istore_n3, zO_istore, zO_astore_n0, zO_astore_n1, zO_astore_n2, zO_astore_n3, zO_astore, zO_lstore, zO_iinc, zO_iconst, zO_bipush, zO_sipush, zO_lconst0, zO_lconst1, zO_ldc, zO_ldc2_w, zO_iadd, zO_isub, zO_imul, zO_idiv, zO_irem, zO_ineg, zO_iand, zO_ior, zO_ixor, zO_ishl, zO_ishr, zO_iushr, zO_ladd, zO_lmul, zO_land, zO_lor, zO_lshl, zO_lcmp, zO_i2l, zO_l2i, zO_i2b, zO_dup0, zO_dup2, zO_dup200, zO_dup202, zO_dup220, zO_dup222, zO_ifCond_eq, zO_ifCond_ne, zO_ifCond_lt, zO_ifCond_ge, zO_ifCond_gt, zO_ifCond_le, zO_if_icmp_eq, zO_if_icmp_ne, zO_if_icmp_lt, zO_if_icmp_ge, zO_if_icmp_gt, zO_if_icmp_le, zO_getfield, zO_putfield, zO_iaload, zO_baload, zO_laload, zO_iastore, zO_bastore, zO_lastore, zO_arraylength, zO_invokevirtual, zO_lreturn, zO_areturn, zO_return_, zO_tableswitch, zO_lookupswitch, zO_is0, zO_is1, zO_is2, zO_is3, zO_is4, zO_is9, zO_is10, zO_is11, zO_is12, zO_ir1, zO_ir4, zB_c, zLd_0, zLd_s, zSt_c, zSt2_c, zU_c, zD_c, zY_c, zSw_n, zSw_c, zCall_c, zVirt_c, zP_0, zP_1, zP_2, zP_3, zP_4, zGet_n, zGet_z, zPut_n, zPut_z, zcw_n, zcw_0, zcw_1, zcw_2, List.length_cons, List.length_nil, List.take_succ_cons, List.take_zero, List.drop_succ_cons, List.drop_zero, List.reverse_cons, List.reverse_nil, List.nil_append, List.cons_append, List.append_nil, List.set_cons_zero, List.set_cons_succ, List.getD_cons_zero, List.getD_cons_succ, true_and, and_true, ne_eq, not_false_eq_true, not_true_eq_false, zif, Nat.reduceAdd, Nat.reduceLeDiff, Nat.reduceLT, Nat.reduceSub, Nat.reduceEqDiff, Nat.zero_le, Nat.lt_add_one, Nat.reduceMod, false_implies, true_implies, implies_true, forall_const, Int.reduceLE, Int.reduceLT, Int.reduceEq, Int.reduceNeg, ite10_0, ite10_1, zem, zem2, Classical.not_not, and_self, or_true, true_or, or_false, false_or, zT_39, zN_39, zGf_192_39, zGf_193_39, zGf_194_39, zPf_194_39, zGf_195_39, zGf_196_39, zGf_197_39, zGf_198_39, zPf_198_39, zGf_199_39, zPf_199_39, zGf_200_39, zPf_200_39, zGf_201_39, zGf_202_39, zPf_202_39, zGf_203_39, zGf_204_39, zPf_204_39, zGf_205_39, zGf_206_39, zGf_207_39, zGf_208_39, zGf_209_39, zGf_210_39, zGf_211_39, zGf_212_39, zGf_213_39, zGf_214_39, zPf_214_39, zGf_215_39, zGf_216_39, zAl_40, zAs_40, e40]
    have st := hl 0 μ (by omega) (by omega) ⟨zfr_rf, fun _ _ => rfl, fun _ _ => rfl, chW_0 fun χ h1 h2 => by have := (h1.2.1 s ⟨by omega, hsn⟩).1; omega⟩
    exact ⟨fun e => absurd e (by omega), fun _ => st⟩
theorem L_finds {d : Nat} {μ : zM} (hr : RN μ) : zC (d + 11) 150 [(2, 39)] μ (fun _ u => zfr trF μ u ∧ chL (xF μ) (μ 1 1) (u 39 12) (xs u)) := by
  have hn := (RN_n hr).1
  simp only [e150, k150_0, zO_nop, zO_goto, zO_iload_n0, zO_iload_n1, zO_iload_n2, zO_iload_n3, zO_iload, zO_lload_n0, zO_lload_n1, zO_lload_n2, zO_lload_n3, zO_lload, zO_aload_n0, zO_aload_n1, zO_aload_n2, zO_aload_n3, zO_aload, zO_istore_n0, zO_istore_n1, zO_istore_n2, zO_istore_n3, zO_istore, zO_astore_n0, zO_astore_n1, zO_astore_n2, zO_astore_n3, zO_astore, zO_lstore, zO_iinc, zO_iconst, zO_bipush, zO_sipush, zO_lconst0, zO_lconst1, zO_ldc, zO_ldc2_w, zO_iadd, zO_isub, zO_imul, zO_idiv, zO_irem, zO_ineg, zO_iand, zO_ior, zO_ixor, zO_ishl, zO_ishr, zO_iushr, zO_ladd, zO_lmul, zO_land, zO_lor, zO_lshl, zO_lcmp, zO_i2l, zO_l2i, zO_i2b, zO_dup0, zO_dup2, zO_dup200, zO_dup202, zO_dup220, zO_dup222, zO_ifCond_eq, zO_ifCond_ne, zO_ifCond_lt, zO_ifCond_ge, zO_ifCond_gt, zO_ifCond_le, zO_if_icmp_eq, zO_if_icmp_ne, zO_if_icmp_lt, zO_if_icmp_ge, zO_if_icmp_gt, zO_if_icmp_le, zO_getfield, zO_putfield, zO_iaload, zO_baload, zO_laload, zO_iastore, zO_bastore, zO_lastore, zO_arraylength, zO_invokevirtual, zO_lreturn, zO_areturn, zO_return_, zO_tableswitch, zO_lookupswitch, zO_is0, zO_is1, zO_is2, zO_is3, zO_is4, zO_is9, zO_is10, zO_is11, zO_is12, zO_ir1, zO_ir4, zB_c, zLd_0, zLd_s, zSt_c, zSt2_c, zU_c, zD_c, zY_c, zSw_n, zSw_c, zCall_c, zVirt_c, zP_0, zP_1, zP_2, zP_3, zP_4, zGet_n, zGet_z, zPut_n, zPut_z, zcw_n, zcw_0, zcw_1, zcw_2, List.length_cons, List.length_nil, List.take_succ_cons, List.take_zero, List.drop_succ_cons, List.drop_zero, List.reverse_cons, List.reverse_nil, List.nil_append, List.cons_append, List.append_nil, List.set_cons_zero, List.set_cons_succ, List.getD_cons_zero, List.getD_cons_succ, true_and, and_true, ne_eq, not_false_eq_true, not_true_eq_false, zif, Nat.reduceAdd, Nat.reduceLeDiff, Nat.reduceLT, Nat.reduceSub, Nat.reduceEqDiff, Nat.zero_le, Nat.lt_add_one, Nat.reduceMod, false_implies, true_implies, implies_true, forall_const, Int.reduceLE, Int.reduceLT, Int.reduceEq, Int.reduceNeg, ite10_0, ite10_1, zem, zem2, Classical.not_not, and_self, or_true, true_or, or_false, false_or, zT_39, zN_39, zGf_192_39, zGf_193_39, zGf_194_39, zPf_194_39, zGf_195_39, zGf_196_39, zGf_197_39, zGf_198_39, zPf_198_39, zGf_199_39, zPf_199_39, zGf_200_39, zPf_200_39, zGf_201_39, zGf_202_39, zPf_202_39, zGf_203_39, zGf_204_39, zPf_204_39, zGf_205_39, zGf_206_39, zGf_207_39, zGf_208_39, zGf_209_39, zGf_210_39, zGf_211_39, zGf_212_39, zGf_213_39, zGf_214_39, zPf_214_39, zGf_215_39, zGf_216_39, zAl_47, zAs_47]
  generalize hu1 : zu (zu μ 39 12 0) 47 0 1 = u
  have ff : zfr trF μ u := by rw [← hu1]; exact zfr_u (zfr_u zfr_rf (by decide)) (by unfold trF; decide)
  have b19 : u 39 12 = 0 := by rw [← hu1, zu_ne (by omega), zu_at]
  have b21 : u 47 0 = 1 := by rw [← hu1, zu_at]
  obtain ⟨hr2, hx, h1⟩ := Rel_tr hr ff
  obtain ⟨m, hm1, hm2⟩ : ∃ m : Nat, (1 : Int) = μ 1 1 - m ∧ m ≤ 4 := ⟨(μ 1 1 - 1).toNat, by omega, by omega⟩
  have h := L_tries hn (xF_1 (μ := μ)) m (d + 4 - m) 1 (fun _ => 1) u hm1 (by omega) hr2 hx (by rw [h1]) (fun i j a b c e => by
    have i0 : i = 0 := by omega
    have j0 : j = 0 := by omega
    subst i0; subst j0
    have z0 : zrg (μ 1 1) 0 := ⟨by omega, by omega⟩
    refine Or.inr ?_
    rw [zs_if (by omega) fun k hk => (RN_nb hr 0 0 k z0 z0 hk).1, (zs_1 xF_1 (fun _ => 1) z0).1]; rfl) rfl (fun k k0 k1 => ⟨by omega, by rw [show k = 0 by omega]; exact b21⟩) (by rw [b19]; exact ⟨by omega, fun r hr => by have := hr.1; have := hr.2; omega, fun r s a b c => by omega⟩)
  rw [show d + 4 - m + 6 + m = d + 10 by omega] at h
  refine zuse h ?_
  rintro x w ⟨f2, _, _, hW⟩
  rw [b19] at hW
  refine ⟨zfr_tr ff f2, chW_L hW fun χ h k a b => ?_⟩
  rw [show k = 0 by omega]
  exact h.1
