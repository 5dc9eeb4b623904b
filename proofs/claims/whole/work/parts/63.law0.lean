/-! LAW 0 -/
theorem pg5 : ∀ a b c d e : Fin 5, (∀ k : Fin 5, a = k ∨ b = k ∨ c = k ∨ d = k ∨ e = k) ↔ (a ≠ b ∧ a ≠ c ∧ a ≠ d ∧ a ≠ e ∧ b ≠ c ∧ b ≠ d ∧ b ≠ e ∧ c ≠ d ∧ c ≠ e ∧ d ≠ e) := by decide +kernel
theorem pig5 (c : Int → Int) (hc : ∀ i, zrg 5 i → zrg 5 (c i)) : (∀ k, zrg 5 k → ∃ i, zrg 5 i ∧ c i = k) ↔ ∀ i j, zrg 5 i → zrg 5 j → c i = c j → i = j := by
  obtain ⟨a, ha⟩ := f5 (hc 0 ⟨by omega, by omega⟩)
  obtain ⟨b, hb⟩ := f5 (hc 1 ⟨by omega, by omega⟩)
  obtain ⟨d, hd⟩ := f5 (hc 2 ⟨by omega, by omega⟩)
  obtain ⟨e, he⟩ := f5 (hc 3 ⟨by omega, by omega⟩)
  obtain ⟨g, hg⟩ := f5 (hc 4 ⟨by omega, by omega⟩)
  have key := pg5 a b d e g
  have z : ∀ i, zrg 5 i → i = 0 ∨ i = 1 ∨ i = 2 ∨ i = 3 ∨ i = 4 := fun i h => by have := h.1; have := h.2; omega
  refine ⟨fun h => ?_, fun h => ?_⟩
  · have hs : ∀ k : Fin 5, a = k ∨ b = k ∨ d = k ∨ e = k ∨ g = k := fun k => by
      obtain ⟨i, hi, q⟩ := h (k.val : Int) ⟨by omega, by omega⟩
      rcases z i hi with rfl | rfl | rfl | rfl | rfl
      · exact Or.inl (Fin.ext (by omega))
      · exact Or.inr (Or.inl (Fin.ext (by omega)))
      · exact Or.inr (Or.inr (Or.inl (Fin.ext (by omega))))
      · exact Or.inr (Or.inr (Or.inr (Or.inl (Fin.ext (by omega)))))
      · exact Or.inr (Or.inr (Or.inr (Or.inr (Fin.ext (by omega)))))
    obtain ⟨n1, n2, n3, n4, n5, n6, n7, n8, n9, n10⟩ := key.mp hs
    have ne : ∀ x y : Fin 5, x ≠ y → ¬ (x.val : Int) = (y.val : Int) := fun x y h q => h (Fin.ext (by omega))
    have m1 := ne _ _ n1
    have m2 := ne _ _ n2
    have m3 := ne _ _ n3
    have m4 := ne _ _ n4
    have m5 := ne _ _ n5
    have m6 := ne _ _ n6
    have m7 := ne _ _ n7
    have m8 := ne _ _ n8
    have m9 := ne _ _ n9
    have m10 := ne _ _ n10
    intro i j hi hj q
    rcases z i hi with rfl | rfl | rfl | rfl | rfl <;> rcases z j hj with rfl | rfl | rfl | rfl | rfl <;> omega
  · have nn : ∀ i j, zrg 5 i → zrg 5 j → ¬ i = j → ¬ c i = c j := fun i j hi hj q w => q (h i j hi hj w)
    have r : ∀ i : Int, 0 ≤ i → i < 5 → zrg 5 i := fun i a b => ⟨a, b⟩
    have key2 := key.mpr ⟨fun q => nn 0 1 (r _ (by omega) (by omega)) (r _ (by omega) (by omega)) (by omega) (by rw [ha, hb, q]), fun q => nn 0 2 (r _ (by omega) (by omega)) (r _ (by omega) (by omega)) (by omega) (by rw [ha, hd, q]), fun q => nn 0 3 (r _ (by omega) (by omega)) (r _ (by omega) (by omega)) (by omega) (by rw [ha, he, q]), fun q => nn 0 4 (r _ (by omega) (by omega)) (r _ (by omega) (by omega)) (by omega) (by rw [ha, hg, q]), fun q => nn 1 2 (r _ (by omega) (by omega)) (r _ (by omega) (by omega)) (by omega) (by rw [hb, hd, q]), fun q => nn 1 3 (r _ (by omega) (by omega)) (r _ (by omega) (by omega)) (by omega) (by rw [hb, he, q]), fun q => nn 1 4 (r _ (by omega) (by omega)) (r _ (by omega) (by omega)) (by omega) (by rw [hb, hg, q]), fun q => nn 2 3 (r _ (by omega) (by omega)) (r _ (by omega) (by omega)) (by omega) (by rw [hd, he, q]), fun q => nn 2 4 (r _ (by omega) (by omega)) (r _ (by omega) (by omega)) (by omega) (by rw [hd, hg, q]), fun q => nn 3 4 (r _ (by omega) (by omega)) (r _ (by omega) (by omega)) (by omega) (by rw [he, hg, q])⟩
    intro k hk
    obtain ⟨k', rfl⟩ := f5 (x := k) hk
    rcases key2 k' with q | q | q | q | q
    · exact ⟨0, r _ (by omega) (by omega), by rw [ha, q]⟩
    · exact ⟨1, r _ (by omega) (by omega), by rw [hb, q]⟩
    · exact ⟨2, r _ (by omega) (by omega), by rw [hd, q]⟩
    · exact ⟨3, r _ (by omega) (by omega), by rw [he, q]⟩
    · exact ⟨4, r _ (by omega) (by omega), by rw [hg, q]⟩
theorem pig {n : Int} (hn : 1 ≤ n ∧ n ≤ 5) (c : Int → Int) (hc : ∀ i, zrg n i → zrg n (c i)) : (∀ k, zrg n k → ∃ i, zrg n i ∧ c i = k) ↔ ∀ i j, zrg n i → zrg n j → c i = c j → i = j := by
  have key := pig5 (fun i => if i < n then c i else i) (fun i hi => by
    show zrg 5 (if i < n then c i else i)
    by_cases q : i < n
    · rw [if_pos q]
      have := hc i ⟨hi.1, q⟩
      exact ⟨this.1, by have := this.2; omega⟩
    · rw [if_neg q]; exact hi)
  try simp only at key
  refine ⟨fun h i j hi hj q => ?_, fun h k hk => ?_⟩
  · refine key.mp (fun k hk => ?_) i j ⟨hi.1, by have := hi.2; omega⟩ ⟨hj.1, by have := hj.2; omega⟩ (by rw [if_pos hi.2, if_pos hj.2]; exact q)
    by_cases q2 : k < n
    · obtain ⟨i, hi, e⟩ := h k ⟨hk.1, q2⟩
      exact ⟨i, ⟨hi.1, by have := hi.2; omega⟩, by rw [if_pos hi.2]; exact e⟩
    · exact ⟨k, hk, by rw [if_neg q2]⟩
  · obtain ⟨i, hi, e⟩ := key.mpr (fun i j hi hj q => by
      by_cases qi : i < n <;> by_cases qj : j < n
      · rw [if_pos qi, if_pos qj] at q
        exact h i j ⟨hi.1, qi⟩ ⟨hj.1, qj⟩ q
      · rw [if_pos qi, if_neg qj] at q
        have := (hc i ⟨hi.1, qi⟩).2
        omega
      · rw [if_neg qi, if_pos qj] at q
        have := (hc j ⟨hj.1, qj⟩).2
        omega
      · rw [if_neg qi, if_neg qj] at q
        exact q) k ⟨hk.1, by have := hk.2; omega⟩
    by_cases qi : i < n
    · rw [if_pos qi] at e
      exact ⟨i, ⟨hi.1, qi⟩, e⟩
    · rw [if_neg qi] at e
      have := hk.2
      omega
/-- row i has just one number that is not 0, at k -/
def LWu (M : Int → Int → Int) (n i k : Int) : Prop := zrg n k ∧ ¬ M i k = 0 ∧ ∀ k', zrg n k' → ¬ M i k' = 0 → k' = k
def LW0 (M : Int → Int → Int) (n : Int) : Prop := (∀ i, zrg n i → ∃ k, LWu M n i k) ∧ (∀ i i' k k', zrg n i → zrg n i' → zrg n k → zrg n k' → ¬ M i k = 0 → ¬ M i' k' = 0 → M i k = M i' k') ∧ ∀ i i' k, zrg n i → zrg n i' → zrg n k → ¬ M i k = 0 → ¬ M i' k = 0 → i = i'
theorem K_onlyColumn {d : Nat} {n i : Int} {M : Int → Int → Int} {μ : zM} (hn : 1 ≤ n ∧ n ≤ 5) (hM : mTb 26 0 n M μ) (hi : zrg n i) : zC (d + 1) 46 [(2, 24), (0, i), (0, n)] μ (fun r u => u = μ ∧ ((0 ≤ r ∧ LWu M n i r) ∨ (r = -1 ∧ ¬ ∃ k, LWu M n i k))) := by
  generalize hQ : (fun (r : Int) (u : zM) => u = μ ∧ ((0 ≤ r ∧ LWu M n i r) ∨ (r = -1 ∧ ¬ ∃ k, LWu M n i k))) = Q
  have i0 := hi.1
  have i1 := hi.2
  have hl : ∀ m (c : Int), 0 ≤ m → m ≤ n → ((c = -1 ∧ ∀ k, 0 ≤ k → k < m → M i k = 0) ∨ (0 ≤ c ∧ c < m ∧ ¬ M i c = 0 ∧ ∀ k, 0 ≤ k → k < m → ¬ M i k = 0 → k = c)) → zR d 46 Q 5 [(2, 24), (0, i), (0, n), (0, c), (0, m)] [] μ := by
    refine zloop (n := n) (Inv := fun m (c : Int) => (c = -1 ∧ ∀ k, 0 ≤ k → k < m → M i k = 0) ∨ (0 ≤ c ∧ c < m ∧ ¬ M i c = 0 ∧ ∀ k, 0 ≤ k → k < m → ¬ M i k = 0 → k = c)) (R := fun m c => zR d 46 Q 5 [(2, 24), (0, i), (0, n), (0, c), (0, m)] [] μ) ?_ ?_
    · rintro m c m0 m1 hc ih
      have e1 : zw (zw (i * 5) + m) = 5 * i + m := by simp (disch := omega) only [zw_e]; omega
      have em : μ 26 (5 * i + m) = M i m := by have := hM i m hi ⟨m0, m1⟩; rw [Int.zero_add] at this; exact this
      rw [u46_5]
      simp only [k46_5, e46, k46_0, u46_32, k46_32, u46_35, k46_35, u46_41, k46_41, zO_nop, zO_goto, zO_iload_n0, zO_iload_n1, zO_iload_n2, zO_iload_n3, zO_iload, zO_lload_n0, zO_lload_n1, zO_lload_n2, zO_lload_n3, zO_lload, zO_aload_n0, zO_aload_n1, zO_aload_n2, zO_aload_n3, zO_aload, zO_istore_n0, zO_istore_n1, zO_istore_n2, zO_istore_n3, zO_istore, zO_astore_n0, zO_astore_n1, zO_astore_n2, zO_astore_n3, zO_astore, zO_lstore, zO_iinc, zO_iconst, zO_bipush, zO_sipush, zO_lconst0, zO_lconst1, zO_ldc, zO_ldc2_w, zO_iadd, zO_isub, zO_imul, zO_idiv, zO_irem, zO_ineg, zO_iand, zO_ior, zO_ixor, zO_ishl, zO_ishr, zO_iushr, zO_ladd, zO_lmul, zO_land, zO_lor, zO_lshl, zO_lcmp, zO_i2l, zO_l2i, zO_i2b, zO_dup0, zO_dup2, zO_dup200, zO_dup202, zO_dup220, zO_dup222, zO_ifCond_eq, zO_ifCond_ne, zO_ifCond_lt, zO_ifCond_ge, zO_ifCond_gt, zO_ifCond_le, zO_if_icmp_eq, zO_if_icmp_ne, zO_if_icmp_lt, zO_if_icmp_ge, zO_if_icmp_gt, zO_if_icmp_le, zO_getfield, zO_putfield, zO_iaload, zO_baload, zO_laload, zO_iastore, zO_bastore, zO_lastore, zO_arraylength, zO_invokevirtual, zO_lreturn, zO_areturn, zO_return_, zO_tableswitch, zO_lookupswitch, zO_is0, zO_is1, zO_is2, zO_is3, zO_is4, zO_is9, zO_is10, zO_is11, zO_is12, zO_ir1, zO_ir4, zB_c, zLd_0, zLd_s, zSt_c, zSt2_c, zU_c, zD_c, zY_c, zSw_n, zSw_c, zCall_c, zVirt_c, zP_0, zP_1, zP_2, zP_3, zP_4, zGet_n, zGet_z, zPut_n, zPut_z, zcw_n, zcw_0, zcw_1, zcw_2, List.length_cons, List.length_nil, List.take_succ_cons, List.take_zero, List.drop_succ_cons, List.drop_zero, List.reverse_cons, List.reverse_nil, List.nil_append, List.cons_append, List.append_nil, List.set_cons_zero, List.set_cons_succ, List.getD_cons_zero, List.getD_cons_succ, true_and, and_true, ne_eq, not_false_eq_true, not_true_eq_false, zif, Nat.reduceAdd, Nat.reduceLeDiff, Nat.reduceLT, Nat.reduceSub, Nat.reduceEqDiff, Nat.zero_le, Nat.lt_add_one, Nat.reduceMod, false_implies, true_implies, implies_true, forall_const, Int.reduceLE, Int.reduceLT, Int.reduceEq, Int.reduceNeg, ite10_0, ite10_1, zem, zem2, Classical.not_not, and_self, or_true, true_or, or_false, false_or, zT_24, zN_24, zGf_128_24, zGf_129_24, zGf_130_24, zGf_131_24, zAl_26, zAs_26, e1, em]
      rw [zw_e (z := m + 1) (by omega) (by omega)]
      have keep : M i m = 0 → zR d 46 Q 5 [(2, 24), (0, i), (0, n), (0, c), (0, m + 1)] [] μ := fun e => ih c (by
        rcases hc with ⟨c1, c2⟩ | ⟨c1, c2, c3, c4⟩
        · refine Or.inl ⟨c1, fun k k0 k1 => ?_⟩
          by_cases q : k = m
          · rw [q]; exact e
          · exact c2 k k0 (by omega)
        · refine Or.inr ⟨c1, by omega, c3, fun k k0 k1 k2 => ?_⟩
          by_cases q : k = m
          · rw [q] at k2; exact absurd e k2
          · exact c4 k k0 (by omega) k2)
      have bad : ¬ M i m = 0 → ¬ c = -1 → Q (-1) μ := fun e e2 => by
        rw [← hQ]
        refine ⟨rfl, Or.inr ⟨rfl, fun ⟨k, k1, k2, k3⟩ => ?_⟩⟩
        rcases hc with ⟨c1, c2⟩ | ⟨c1, c2, c3, c4⟩
        · exact e2 c1
        · have a1 := k3 m ⟨m0, m1⟩ e
          have a2 := k3 c ⟨c1, by omega⟩ c3
          omega
      have good : ¬ M i m = 0 → c = -1 → zR d 46 Q 5 [(2, 24), (0, i), (0, n), (0, m), (0, m + 1)] [] μ := fun e e2 => ih m (by
        rcases hc with ⟨c1, c2⟩ | ⟨c1, c2, c3, c4⟩
        · refine Or.inr ⟨m0, by omega, e, fun k k0 k1 k2 => ?_⟩
          by_cases q : k = m
          · exact q
          · exact absurd (c2 k k0 (by omega)) k2
        · omega)
      refine ⟨fun _ => ⟨by omega, by omega, fun e => keep e, fun e => ⟨fun e2 => good e e2, fun e2 => bad e e2⟩⟩, fun e => absurd m1 e⟩
    · rintro c hc
      rw [u46_5]
      simp only [k46_5, e46, k46_0, u46_32, k46_32, u46_35, k46_35, u46_41, k46_41, zO_nop, zO_goto, zO_iload_n0, zO_iload_n1, zO_iload_n2, zO_iload_n3, zO_iload, zO_lload_n0, zO_lload_n1, zO_lload_n2, zO_lload_n3, zO_lload, zO_aload_n0, zO_aload_n1, zO_aload_n2, zO_aload_n3, zO_aload, zO_istore_n0, zO_istore_n1, zO_istore_n2, zO_istore_n3, zO_istore, zO_astore_n0, zO_astore_n1, zO_astore_n2, zO_astore_n3, zO_astore, zO_lstore, zO_iinc, zO_iconst, zO_bipush, zO_sipush, zO_lconst0, zO_lconst1, zO_ldc, zO_ldc2_w, zO_iadd, zO_isub, zO_imul, zO_idiv, zO_irem, zO_ineg, zO_iand, zO_ior, zO_ixor, zO_ishl, zO_ishr, zO_iushr, zO_ladd, zO_lmul, zO_land, zO_lor, zO_lshl, zO_lcmp, zO_i2l, zO_l2i, zO_i2b, zO_dup0, zO_dup2, zO_dup200, zO_dup202, zO_dup220, zO_dup222, zO_ifCond_eq, zO_ifCond_ne, zO_ifCond_lt, zO_ifCond_ge, zO_ifCond_gt, zO_ifCond_le, zO_if_icmp_eq, zO_if_icmp_ne, zO_if_icmp_lt, zO_if_icmp_ge, zO_if_icmp_gt, zO_if_icmp_le, zO_getfield, zO_putfield, zO_iaload, zO_baload, zO_laload, zO_iastore, zO_bastore, zO_lastore, zO_arraylength, zO_invokevirtual, zO_lreturn, zO_areturn, zO_return_, zO_tableswitch, zO_lookupswitch, zO_is0, zO_is1, zO_is2, zO_is3, zO_is4, zO_is9, zO_is10, zO_is11, zO_is12, zO_ir1, zO_ir4, zB_c, zLd_0, zLd_s, zSt_c, zSt2_c, zU_c, zD_c, zY_c, zSw_n, zSw_c, zCall_c, zVirt_c, zP_0, zP_1, zP_2, zP_3, zP_4, zGet_n, zGet_z, zPut_n, zPut_z, zcw_n, zcw_0, zcw_1, zcw_2, List.length_cons, List.length_nil, List.take_succ_cons, List.take_zero, List.drop_succ_cons, List.drop_zero, List.reverse_cons, List.reverse_nil, List.nil_append, List.cons_append, List.append_nil, List.set_cons_zero, List.set_cons_succ, List.getD_cons_zero, List.getD_cons_succ, true_and, and_true, ne_eq, not_false_eq_true, not_true_eq_false, zif, Nat.reduceAdd, Nat.reduceLeDiff, Nat.reduceLT, Nat.reduceSub, Nat.reduceEqDiff, Nat.zero_le, Nat.lt_add_one, Nat.reduceMod, false_implies, true_implies, implies_true, forall_const, Int.reduceLE, Int.reduceLT, Int.reduceEq, Int.reduceNeg, ite10_0, ite10_1, zem, zem2, Classical.not_not, and_self, or_true, true_or, or_false, false_or, zT_24, zN_24, zGf_128_24, zGf_129_24, zGf_130_24, zGf_131_24, zAl_26, zAs_26]
      refine ⟨fun e => absurd e (by omega), fun _ => ?_⟩
      rw [← hQ]
      refine ⟨rfl, ?_⟩
      rcases hc with ⟨c1, c2⟩ | ⟨c1, c2, c3, c4⟩
      · exact Or.inr ⟨c1, fun ⟨k, k1, k2, k3⟩ => k2 (c2 k k1.1 k1.2)⟩
      · exact Or.inl ⟨c1, ⟨c1, c2⟩, c3, fun k' hk' => c4 k' hk'.1 hk'.2⟩
  simp only [e46, k46_0, zO_nop, zO_goto, zO_iload_n0, zO_iload_n1, zO_iload_n2, zO_iload_n3, zO_iload, zO_lload_n0, zO_lload_n1, zO_lload_n2, zO_lload_n3, zO_lload, zO_aload_n0, zO_aload_n1, zO_aload_n2, zO_aload_n3, zO_aload, zO_istore_n0, zO_istore_n1, zO_istore_n2, zO_istore_n3, zO_istore, zO_astore_n0, zO_astore_n1, zO_astore_n2, zO_astore_n3, zO_astore, zO_lstore, zO_iinc, zO_iconst, zO_bipush, zO_sipush, zO_lconst0, zO_lconst1, zO_ldc, zO_ldc2_w, zO_iadd, zO_isub, zO_imul, zO_idiv, zO_irem, zO_ineg, zO_iand, zO_ior, zO_ixor, zO_ishl, zO_ishr, zO_iushr, zO_ladd, zO_lmul, zO_land, zO_lor, zO_lshl, zO_lcmp, zO_i2l, zO_l2i, zO_i2b, zO_dup0, zO_dup2, zO_dup200, zO_dup202, zO_dup220, zO_dup222, zO_ifCond_eq, zO_ifCond_ne, zO_ifCond_lt, zO_ifCond_ge, zO_ifCond_gt, zO_ifCond_le, zO_if_icmp_eq, zO_if_icmp_ne, zO_if_icmp_lt, zO_if_icmp_ge, zO_if_icmp_gt, zO_if_icmp_le, zO_getfield, zO_putfield, zO_iaload, zO_baload, zO_laload, zO_iastore, zO_bastore, zO_lastore, zO_arraylength, zO_invokevirtual, zO_lreturn, zO_areturn, zO_return_, zO_tableswitch, zO_lookupswitch, zO_is0, zO_is1, zO_is2, zO_is3, zO_is4, zO_is9, zO_is10, zO_is11, zO_is12, zO_ir1, zO_ir4, zB_c, zLd_0, zLd_s, zSt_c, zSt2_c, zU_c, zD_c, zY_c, zSw_n, zSw_c, zCall_c, zVirt_c, zP_0, zP_1, zP_2, zP_3, zP_4, zGet_n, zGet_z, zPut_n, zPut_z, zcw_n, zcw_0, zcw_1, zcw_2, List.length_cons, List.length_nil, List.take_succ_cons, List.take_zero, List.drop_succ_cons, List.drop_zero, List.reverse_cons, List.reverse_nil, List.nil_append, List.cons_append, List.append_nil, List.set_cons_zero, List.set_cons_succ, List.getD_cons_zero, List.getD_cons_succ, true_and, and_true, ne_eq, not_false_eq_true, not_true_eq_false, zif, Nat.reduceAdd, Nat.reduceLeDiff, Nat.reduceLT, Nat.reduceSub, Nat.reduceEqDiff, Nat.zero_le, Nat.lt_add_one, Nat.reduceMod, false_implies, true_implies, implies_true, forall_const, Int.reduceLE, Int.reduceLT, Int.reduceEq, Int.reduceNeg, ite10_0, ite10_1, zem, zem2, Classical.not_not, and_self, or_true, true_or, or_false, false_or]
  exact hl 0 (-1) (by omega) (by omega) (Or.inl ⟨rfl, fun k k0 k1 => by omega⟩)
theorem K_shuffle {d : Nat} {n : Int} {A : Int → Int → Int} {μ : zM} (hn : 1 ≤ n ∧ n ≤ 5) (ha : mTb 4 0 n A μ) (hb : mBd n A) : zC (d + 3) 45 [(2, 24), (2, 4), (0, n)] μ (fun r u => r = b01 (LW0 (mm n A A) n) ∧ zfr [(26, -1)] μ u) := by
  generalize hQ : (fun (r : Int) (u : zM) => r = b01 (LW0 (mm n A A) n) ∧ zfr [(26, -1)] μ u) = Q
  simp only [e45, k45_0, zO_nop, zO_goto, zO_iload_n0, zO_iload_n1, zO_iload_n2, zO_iload_n3, zO_iload, zO_lload_n0, zO_lload_n1, zO_lload_n2, zO_lload_n3, zO_lload, zO_aload_n0, zO_aload_n1, zO_aload_n2, zO_aload_n3, zO_aload, zO_istore_n0, zO_istore_n1, zO_istore_n2, zO_istore_n3, zO_istore, zO_astore_n0, zO_astore_n1, zO_astore_n2, zO_astore_n3, zO_astore, zO_lstore, zO_iinc, zO_iconst, zO_bipush, zO_sipush, zO_lconst0, zO_lconst1, zO_ldc, zO_ldc2_w, zO_iadd, zO_isub, zO_imul, zO_idiv, zO_irem, zO_ineg, zO_iand, zO_ior, zO_ixor, zO_ishl, zO_ishr, zO_iushr, zO_ladd, zO_lmul, zO_land, zO_lor, zO_lshl, zO_lcmp, zO_i2l, zO_l2i, zO_i2b, zO_dup0, zO_dup2, zO_dup200, zO_dup202, zO_dup220, zO_dup222, zO_ifCond_eq, zO_ifCond_ne, zO_ifCond_lt, zO_ifCond_ge, zO_ifCond_gt, zO_ifCond_le, zO_if_icmp_eq, zO_if_icmp_ne, zO_if_icmp_lt, zO_if_icmp_ge, zO_if_icmp_gt, zO_if_icmp_le, zO_getfield, zO_putfield, zO_iaload, zO_baload, zO_laload, zO_iastore, zO_bastore, zO_lastore, zO_arraylength, zO_invokevirtual, zO_lreturn, zO_areturn, zO_return_, zO_tableswitch, zO_lookupswitch, zO_is0, zO_is1, zO_is2, zO_is3, zO_is4, zO_is9, zO_is10, zO_is11, zO_is12, zO_ir1, zO_ir4, zB_c, zLd_0, zLd_s, zSt_c, zSt2_c, zU_c, zD_c, zY_c, zSw_n, zSw_c, zCall_c, zVirt_c, zP_0, zP_1, zP_2, zP_3, zP_4, zGet_n, zGet_z, zPut_n, zPut_z, zcw_n, zcw_0, zcw_1, zcw_2, List.length_cons, List.length_nil, List.take_succ_cons, List.take_zero, List.drop_succ_cons, List.drop_zero, List.reverse_cons, List.reverse_nil, List.nil_append, List.cons_append, List.append_nil, List.set_cons_zero, List.set_cons_succ, List.getD_cons_zero, List.getD_cons_succ, true_and, and_true, ne_eq, not_false_eq_true, not_true_eq_false, zif, Nat.reduceAdd, Nat.reduceLeDiff, Nat.reduceLT, Nat.reduceSub, Nat.reduceEqDiff, Nat.zero_le, Nat.lt_add_one, Nat.reduceMod, false_implies, true_implies, implies_true, forall_const, Int.reduceLE, Int.reduceLT, Int.reduceEq, Int.reduceNeg, ite10_0, ite10_1, zem, zem2, Classical.not_not, and_self, or_true, true_or, or_false, false_or, zT_24, zN_24, zGf_128_24, zGf_129_24, zGf_130_24, zGf_131_24]
  refine zuse (K_mul4 (d := d + 1) hn ha ha hb hb) ?_
  rintro r u ⟨rfl, f, hM⟩
  generalize hMe : mm n A A = M at hM hQ
  have yes : LW0 M n → Q 1 u := fun h => by rw [← hQ]; exact ⟨(b01_y h).symm, f⟩
  have no : ¬ LW0 M n → Q 0 u := fun h => by rw [← hQ]; exact ⟨(b01_n h).symm, f⟩
  have hl : ∀ i (s : Int × Int), 0 ≤ i → i ≤ n → ((0 ≤ s.1 ∧ s.1 < 32) ∧ (∀ k, 0 ≤ k ∧ k < 5 → (tb s.1 k ↔ k < n ∧ ∃ i', zrg i i' ∧ ¬ M i' k = 0)) ∧ (∀ i', zrg i i' → ∃ k, LWu M n i' k) ∧ (∀ i' k, zrg i i' → zrg n k → ¬ M i' k = 0 → M i' k = s.2) ∧ ∀ i' i'' k, zrg i i' → zrg i i'' → zrg n k → ¬ M i' k = 0 → ¬ M i'' k = 0 → i' = i'') → ∀ x y, zR (d + 2) 45 Q 18 [(2, 24), (2, 4), (0, n), (0, s.1), (0, s.2), (0, i), x, y] [] u := by
    refine zloop (n := n) (Inv := fun i (s : Int × Int) => (0 ≤ s.1 ∧ s.1 < 32) ∧ (∀ k, 0 ≤ k ∧ k < 5 → (tb s.1 k ↔ k < n ∧ ∃ i', zrg i i' ∧ ¬ M i' k = 0)) ∧ (∀ i', zrg i i' → ∃ k, LWu M n i' k) ∧ (∀ i' k, zrg i i' → zrg n k → ¬ M i' k = 0 → M i' k = s.2) ∧ ∀ i' i'' k, zrg i i' → zrg i i'' → zrg n k → ¬ M i' k = 0 → ¬ M i'' k = 0 → i' = i'') (R := fun i s => ∀ x y, zR (d + 2) 45 Q 18 [(2, 24), (2, 4), (0, n), (0, s.1), (0, s.2), (0, i), x, y] [] u) ?_ ?_
    · rintro i ⟨cb, nu⟩ i0 i1 ⟨h1, h2, h3, h4, h5⟩ ih x y
      simp only at h1 h2 h3 h4 h5
      rw [u45_18]
      simp only [k45_18, e45, k45_0, u45_48, k45_48, u45_50, k45_50, u45_85, k45_85, u45_95, k45_95, zO_nop, zO_goto, zO_iload_n0, zO_iload_n1, zO_iload_n2, zO_iload_n3, zO_iload, zO_lload_n0, zO_lload_n1, zO_lload_n2, zO_lload_n3, zO_lload, zO_aload_n0, zO_aload_n1, zO_aload_n2, zO_aload_n3, zO_aload, zO_istore_n0, zO_istore_n1, zO_istore_n2, zO_istore_n3, zO_istore, zO_astore_n0, zO_astore_n1, zO_astore_n2, zO_astore_n3, zO_astore, zO_lstore, zO_iinc, zO_iconst, zO_bipush, zO_sipush, zO_lconst0, zO_lconst1, zO_ldc, zO_ldc2_w, zO_iadd, zO_isub, zO_imul, zO_idiv, zO_irem, zO_ineg, zO_iand, zO_ior, zO_ixor, zO_ishl, zO_ishr, zO_iushr, zO_ladd, zO_lmul, zO_land, zO_lor, zO_lshl, zO_lcmp, zO_i2l, zO_l2i, zO_i2b, zO_dup0, zO_dup2, zO_dup200, zO_dup202, zO_dup220, zO_dup222, zO_ifCond_eq, zO_ifCond_ne, zO_ifCond_lt, zO_ifCond_ge, zO_ifCond_gt, zO_ifCond_le, zO_if_icmp_eq, zO_if_icmp_ne, zO_if_icmp_lt, zO_if_icmp_ge, zO_if_icmp_gt, zO_if_icmp_le, zO_getfield, zO_putfield, zO_iaload, zO_baload, zO_laload, zO_iastore, zO_bastore, zO_lastore, zO_arraylength, zO_invokevirtual, zO_lreturn, zO_areturn, zO_return_, zO_tableswitch, zO_lookupswitch, zO_is0, zO_is1, zO_is2, zO_is3, zO_is4, zO_is9, zO_is10, zO_is11, zO_is12, zO_ir1, zO_ir4, zB_c, zLd_0, zLd_s, zSt_c, zSt2_c, zU_c, zD_c, zY_c, zSw_n, zSw_c, zCall_c, zVirt_c, zP_0, zP_1, zP_2, zP_3, zP_4, zGet_n, zGet_z, zPut_n, zPut_z, zcw_n, zcw_0, zcw_1, zcw_2, List.length_cons, List.length_nil, List.take_succ_cons, List.take_zero, List.drop_succ_cons, List.drop_zero, List.reverse_cons, List.reverse_nil, List.nil_append, List.cons_append, List.append_nil, List.set_cons_zero, List.set_cons_succ, List.getD_cons_zero, List.getD_cons_succ, true_and, and_true, ne_eq, not_false_eq_true, not_true_eq_false, zif, Nat.reduceAdd, Nat.reduceLeDiff, Nat.reduceLT, Nat.reduceSub, Nat.reduceEqDiff, Nat.zero_le, Nat.lt_add_one, Nat.reduceMod, false_implies, true_implies, implies_true, forall_const, Int.reduceLE, Int.reduceLT, Int.reduceEq, Int.reduceNeg, ite10_0, ite10_1, zem, zem2, Classical.not_not, and_self, or_true, true_or, or_false, false_or, zT_24, zN_24, zGf_128_24, zGf_129_24, zGf_130_24, zGf_131_24, zAl_26, zAs_26]
      refine ⟨fun _ => ?_, fun e => absurd i1 e⟩
      refine zuse (K_onlyColumn (d := d + 1) hn hM ⟨i0, i1⟩) ?_
      rintro c u2 ⟨rfl, hc⟩
      rcases hc with ⟨c0, c1, c2, c3⟩ | ⟨c0, c1⟩
      · have cn := c1.2
        have c5 : 0 ≤ c ∧ c < 5 := by omega
        have e1 : zw (zw (i * 5) + c) = 5 * i + c := by simp (disch := omega) only [zw_e]; omega
        have em : u2 26 (5 * i + c) = M i c := by have := hM i c ⟨i0, i1⟩ c1; rw [Int.zero_add] at this; exact this
        simp only [e1, em]
        rw [zw_e (z := i + 1) (by omega) (by omega)]
        have hdup : tb cb c → Q 0 u2 := fun e => no (fun hw => by
          obtain ⟨-, i', hi', q⟩ := (h2 c c5).mp e
          have := hw.2.2 i' i c ⟨hi'.1, by have := hi'.2; omega⟩ ⟨i0, i1⟩ c1 q c2
          have := hi'.2
          omega)
        have hval : 0 < i → ¬ M i c = nu → Q 0 u2 := fun e e2 => no (fun hw => by
          obtain ⟨k, k1, k2, k3⟩ := h3 0 ⟨by omega, e⟩
          have a1 := h4 0 k ⟨by omega, e⟩ k1 k2
          have a2 := hw.2.1 i 0 c k ⟨i0, i1⟩ ⟨by omega, by omega⟩ c1 k1 c2 k2
          omega)
        have hgo : ¬ tb cb c → (¬ 0 < i ∨ M i c = nu) → ∀ x y, zR (d + 2) 45 Q 18 [(2, 24), (2, 4), (0, n), (0, zor cb (zshl 1 c)), (0, M i c), (0, i + 1), x, y] [] u2 := fun e e2 => ih (zor cb (zshl 1 c), M i c) ⟨zor_b h1 (zshl_b c5).1, fun k hk => by
          rw [tb_or h1 (zshl_b c5).1 hk, tb_shl hk c5, h2 k hk]
          refine ⟨fun q => ?_, fun q => ?_⟩
          · rcases q with ⟨q1, i', q2, q3⟩ | q
            · exact ⟨q1, i', ⟨q2.1, by have := q2.2; omega⟩, q3⟩
            · rw [q]; exact ⟨cn, i, ⟨i0, by omega⟩, c2⟩
          · obtain ⟨q1, i', q2, q3⟩ := q
            by_cases w : i' = i
            · rw [w] at q3; exact Or.inr (c3 k ⟨hk.1, q1⟩ q3)
            · exact Or.inl ⟨q1, i', ⟨q2.1, by have := q2.2; omega⟩, q3⟩, fun i' hi' => by
          by_cases w : i' = i
          · rw [w]; exact ⟨c, c1, c2, c3⟩
          · exact h3 i' ⟨hi'.1, by have := hi'.2; omega⟩, fun i' k hi' hk q => by
          by_cases w : i' = i
          · rw [w] at q ⊢
            rw [c3 k hk q]
          · have a1 := h4 i' k ⟨hi'.1, by have := hi'.2; omega⟩ hk q
            show M i' k = M i c
            rw [a1]
            rcases e2 with e2 | e2
            · have := hi'.1; have := hi'.2; omega
            · exact e2.symm, fun i' i'' k hi' hi'' hk q q' => by
          have t1 := hi'.2
          have t2 := hi''.2
          by_cases w : i' = i
          · by_cases w2 : i'' = i
            · omega
            · rw [w] at q
              have := c3 k hk q
              rw [this] at q'
              exact absurd ((h2 c c5).mpr ⟨cn, i'', ⟨hi''.1, by omega⟩, q'⟩) e
          · by_cases w2 : i'' = i
            · rw [w2] at q'
              have := c3 k hk q'
              rw [this] at q
              exact absurd ((h2 c c5).mpr ⟨cn, i', ⟨hi'.1, by omega⟩, q⟩) e
            · exact h5 i' i'' k ⟨hi'.1, by omega⟩ ⟨hi''.1, by omega⟩ hk q q'⟩
        refine ⟨fun e => absurd e (by omega), fun _ => ⟨fun e => hdup e, fun e => ⟨by omega, by omega, fun e2 => ⟨fun e3 => hgo e (Or.inr e3) _ _, fun e3 => hval e2 e3⟩, fun e2 => hgo e (Or.inl e2) _ _⟩⟩⟩
      · refine ⟨fun _ => no (fun hw => c1 (hw.1 i ⟨i0, i1⟩)), fun e => absurd (show c < 0 by omega) e⟩
    · rintro ⟨cb, nu⟩ ⟨h1, h2, h3, h4, h5⟩ x y
      simp only at h1 h2 h3 h4 h5
      rw [u45_18]
      simp only [k45_18, e45, k45_0, u45_48, k45_48, u45_50, k45_50, u45_85, k45_85, u45_95, k45_95, zO_nop, zO_goto, zO_iload_n0, zO_iload_n1, zO_iload_n2, zO_iload_n3, zO_iload, zO_lload_n0, zO_lload_n1, zO_lload_n2, zO_lload_n3, zO_lload, zO_aload_n0, zO_aload_n1, zO_aload_n2, zO_aload_n3, zO_aload, zO_istore_n0, zO_istore_n1, zO_istore_n2, zO_istore_n3, zO_istore, zO_astore_n0, zO_astore_n1, zO_astore_n2, zO_astore_n3, zO_astore, zO_lstore, zO_iinc, zO_iconst, zO_bipush, zO_sipush, zO_lconst0, zO_lconst1, zO_ldc, zO_ldc2_w, zO_iadd, zO_isub, zO_imul, zO_idiv, zO_irem, zO_ineg, zO_iand, zO_ior, zO_ixor, zO_ishl, zO_ishr, zO_iushr, zO_ladd, zO_lmul, zO_land, zO_lor, zO_lshl, zO_lcmp, zO_i2l, zO_l2i, zO_i2b, zO_dup0, zO_dup2, zO_dup200, zO_dup202, zO_dup220, zO_dup222, zO_ifCond_eq, zO_ifCond_ne, zO_ifCond_lt, zO_ifCond_ge, zO_ifCond_gt, zO_ifCond_le, zO_if_icmp_eq, zO_if_icmp_ne, zO_if_icmp_lt, zO_if_icmp_ge, zO_if_icmp_gt, zO_if_icmp_le, zO_getfield, zO_putfield, zO_iaload, zO_baload, zO_laload, zO_iastore, zO_bastore, zO_lastore, zO_arraylength, zO_invokevirtual, zO_lreturn, zO_areturn, zO_return_, zO_tableswitch, zO_lookupswitch, zO_is0, zO_is1, zO_is2, zO_is3, zO_is4, zO_is9, zO_is10, zO_is11, zO_is12, zO_ir1, zO_ir4, zB_c, zLd_0, zLd_s, zSt_c, zSt2_c, zU_c, zD_c, zY_c, zSw_n, zSw_c, zCall_c, zVirt_c, zP_0, zP_1, zP_2, zP_3, zP_4, zGet_n, zGet_z, zPut_n, zPut_z, zcw_n, zcw_0, zcw_1, zcw_2, List.length_cons, List.length_nil, List.take_succ_cons, List.take_zero, List.drop_succ_cons, List.drop_zero, List.reverse_cons, List.reverse_nil, List.nil_append, List.cons_append, List.append_nil, List.set_cons_zero, List.set_cons_succ, List.getD_cons_zero, List.getD_cons_succ, true_and, and_true, ne_eq, not_false_eq_true, not_true_eq_false, zif, Nat.reduceAdd, Nat.reduceLeDiff, Nat.reduceLT, Nat.reduceSub, Nat.reduceEqDiff, Nat.zero_le, Nat.lt_add_one, Nat.reduceMod, false_implies, true_implies, implies_true, forall_const, Int.reduceLE, Int.reduceLT, Int.reduceEq, Int.reduceNeg, ite10_0, ite10_1, zem, zem2, Classical.not_not, and_self, or_true, true_or, or_false, false_or, zT_24, zN_24, zGf_128_24, zGf_129_24, zGf_130_24, zGf_131_24, zAl_26, zAs_26]
      refine ⟨fun e => absurd e (by omega), fun _ => yes ⟨h3, fun i i' k k' hi hi' hk hk' q q' => ?_, h5⟩⟩
      rw [h4 i k hi hk q, h4 i' k' hi' hk' q']
  exact hl 0 (0, 0) (by omega) (by omega) ⟨by simp, fun k hk => ⟨fun q => absurd q (tb0 hk), fun ⟨_, i', hi', _⟩ => by have := hi'.1; have := hi'.2; omega⟩, fun i' hi' => by have := hi'.1; have := hi'.2; omega, fun i' k hi' => by have := hi'.1; have := hi'.2; omega, fun i' i'' k hi' => by have := hi'.1; have := hi'.2; omega⟩ _ _
