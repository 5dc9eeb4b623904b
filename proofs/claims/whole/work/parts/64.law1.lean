theorem msk {n : Int} (hn : 1 ≤ n ∧ n ≤ 5) : (0 ≤ zshl 1 n - 1 ∧ zshl 1 n - 1 < 32) ∧ ∀ k, 0 ≤ k ∧ k < 5 → (tb (zshl 1 n - 1) k ↔ k < n) := by
  obtain rfl | rfl | rfl | rfl | rfl : n = 1 ∨ n = 2 ∨ n = 3 ∨ n = 4 ∨ n = 5 := by omega
  all_goals
    refine ⟨by decide, fun k hk => ?_⟩
    obtain rfl | rfl | rfl | rfl | rfl : k = 0 ∨ k = 1 ∨ k = 2 ∨ k = 3 ∨ k = 4 := by omega
    all_goals (unfold tb; decide)
theorem LW0_s {M : Int → Int → Int} {n : Int} (hn : 1 ≤ n ∧ n ≤ 5) (h1 : ∀ i, zrg n i → ∃ k, LWu M n i k) : (∀ k, zrg n k → ∃ i, zrg n i ∧ ¬ M i k = 0) ↔ ∀ i i' k, zrg n i → zrg n i' → zrg n k → ¬ M i k = 0 → ¬ M i' k = 0 → i = i' := by
  obtain ⟨c, hc⟩ : ∃ c : Int → Int, ∀ i, zrg n i → LWu M n i (c i) := by
    refine ⟨fun i => @dite Int (zrg n i) (Classical.propDecidable _) (fun h => (h1 i h).choose) (fun _ => 0), fun i hi => ?_⟩
    show LWu M n i (@dite Int (zrg n i) (Classical.propDecidable _) (fun h => (h1 i h).choose) (fun _ => 0))
    rw [dif_pos hi]
    exact (h1 i hi).choose_spec
  have key := pig hn c (fun i hi => (hc i hi).1)
  refine ⟨fun h i i' k hi hi' hk q q' => ?_, fun h k hk => ?_⟩
  · have e1 := (hc i hi).2.2 k hk q
    have e2 := (hc i' hi').2.2 k hk q'
    refine key.mp (fun k' hk' => ?_) i i' hi hi' (by rw [← e1, ← e2])
    obtain ⟨j, hj, w⟩ := h k' hk'
    exact ⟨j, hj, ((hc j hj).2.2 k' hk' w).symm⟩
  · obtain ⟨i, hi, e⟩ := key.mpr (fun i j hi hj q => h i j (c i) hi hj (hc i hi).1 (hc i hi).2.1 (by rw [q]; exact (hc j hj).2.1)) k hk
    exact ⟨i, hi, by rw [← e]; exact (hc i hi).2.1⟩
theorem L_lawZero {d : Nat} {n : Int} {M : Int → Int → Int} {μ : zM} {P : Int → zM → Prop} (hn : 1 ≤ n ∧ n ≤ 5) (hz : μ 40 1 = n) (hM : mTb 50 0 n M μ) : zC (d + 1) 166 [(2, 39)] μ P ↔ P (b01 (LW0 M n)) μ := by
  refine zC_is ?_
  generalize hQ : (fun (r : Int) (u : zM) => r = b01 (LW0 M n) ∧ u = μ) = Q
  have yes : LW0 M n → Q 1 μ := fun h => by rw [← hQ]; exact ⟨(b01_y h).symm, rfl⟩
  have no : ¬ LW0 M n → Q 0 μ := fun h => by rw [← hQ]; exact ⟨(b01_n h).symm, rfl⟩
  obtain ⟨V, hV⟩ : ∃ V : (Int → Int → Prop) → Int → Int → Prop, V = fun D cb nu => (0 ≤ cb ∧ cb < 32) ∧ (∀ k, 0 ≤ k ∧ k < 5 → (tb cb k ↔ ∃ i', D i' k ∧ ¬ M i' k = 0)) ∧ (∀ i' k, D i' k → ¬ M i' k = 0 → M i' k = nu) ∧ (¬ nu = 0 → ∃ i' k, D i' k ∧ M i' k = nu) := ⟨_, rfl⟩
  have Vx : ∀ {D D' : Int → Int → Prop} {cb nu : Int}, (∀ i k, D i k ↔ D' i k) → V D cb nu → V D' cb nu := by
    intro D D' cb nu hD h
    rw [hV] at h ⊢
    refine ⟨h.1, fun k hk => (h.2.1 k hk).trans ⟨fun ⟨i', q, w⟩ => ⟨i', (hD i' k).mp q, w⟩, fun ⟨i', q, w⟩ => ⟨i', (hD i' k).mpr q, w⟩⟩, fun i' k q => h.2.2.1 i' k ((hD i' k).mpr q), fun e => ?_⟩
    obtain ⟨i', k, q, w⟩ := h.2.2.2 e
    exact ⟨i', k, (hD i' k).mp q, w⟩
  obtain ⟨Dk, hDk⟩ : ∃ Dk : Int → Int → Int → Int → Prop, Dk = fun i m i' k => zrg n k ∧ ((0 ≤ i' ∧ i' < i) ∨ (i' = i ∧ k < m)) := ⟨_, rfl⟩
  have hk : ∀ i, zrg n i → (∀ cb nu, V (Dk (i + 1) 0) cb nu → (∃ k, LWu M n i k) → ∀ x y z, zR d 166 Q 6 [(2, 39), (0, nu), (0, cb), (0, i + 1), x, y, z] [] μ) → ∀ m (s : Int × Int × Int), 0 ≤ m → m ≤ n → (V (Dk i m) s.1 s.2.1 ∧ (0 ≤ s.2.2 ∧ s.2.2 ≤ m) ∧ (s.2.2 = 0 → ∀ k, 0 ≤ k → k < m → M i k = 0) ∧ (s.2.2 = 1 → ∃ k, zrg m k ∧ ¬ M i k = 0 ∧ ∀ k', zrg m k' → ¬ M i k' = 0 → k' = k) ∧ (2 ≤ s.2.2 → ∃ k k', zrg n k ∧ zrg n k' ∧ ¬ k = k' ∧ ¬ M i k = 0 ∧ ¬ M i k' = 0)) → ∀ x, zR d 166 Q 22 [(2, 39), (0, s.2.1), (0, s.1), (0, i), (0, s.2.2), (0, m), x] [] μ := by
    intro i hi hnext
    have i0 := hi.1
    have i1 := hi.2
    refine zloop (n := n) (Inv := fun m (s : Int × Int × Int) => V (Dk i m) s.1 s.2.1 ∧ (0 ≤ s.2.2 ∧ s.2.2 ≤ m) ∧ (s.2.2 = 0 → ∀ k, 0 ≤ k → k < m → M i k = 0) ∧ (s.2.2 = 1 → ∃ k, zrg m k ∧ ¬ M i k = 0 ∧ ∀ k', zrg m k' → ¬ M i k' = 0 → k' = k) ∧ (2 ≤ s.2.2 → ∃ k k', zrg n k ∧ zrg n k' ∧ ¬ k = k' ∧ ¬ M i k = 0 ∧ ¬ M i k' = 0)) (R := fun m s => ∀ x, zR d 166 Q 22 [(2, 39), (0, s.2.1), (0, s.1), (0, i), (0, s.2.2), (0, m), x] [] μ) ?_ ?_
    · rintro m ⟨cb, nu, q⟩ m0 m1 ⟨hv, ⟨q0, q1⟩, z0, z1, z2⟩ ih x
      simp only at hv q0 q1 z0 z1 z2
      have m5 : 0 ≤ m ∧ m < 5 := by omega
      have hv2 := hv
      rw [hV] at hv2
      obtain ⟨v1, v2, v3, v4⟩ := hv2
      have e1 : zw (zw (5 * i) + m) = 5 * i + m := by simp (disch := omega) only [zw_e]
      have em : μ 50 (5 * i + m) = M i m := by have := hM i m hi ⟨m0, m1⟩; rw [Int.zero_add] at this; exact this
      have dk : ∀ i' k, Dk i (m + 1) i' k ↔ Dk i m i' k ∨ (i' = i ∧ k = m) := fun i' k => by
        rw [hDk]
        unfold zrg
        omega
      have drg : ∀ i' k, Dk i m i' k → zrg n i' ∧ zrg n k := fun i' k w => by
        rw [hDk] at w
        unfold zrg at w ⊢
        omega
      have keep : M i m = 0 → ∀ x, zR d 166 Q 22 [(2, 39), (0, nu), (0, cb), (0, i), (0, q), (0, m + 1), x] [] μ := fun e => ih (cb, nu, q) ⟨by
          rw [hV]
          refine ⟨v1, fun k hk => (v2 k hk).trans ⟨fun ⟨i', w, w2⟩ => ⟨i', (dk i' k).mpr (Or.inl w), w2⟩, fun ⟨i', w, w2⟩ => ⟨i', ?_, w2⟩⟩, fun i' k w w2 => ?_, fun w => ?_⟩
          · rcases (dk i' k).mp w with w | ⟨rfl, rfl⟩
            · exact w
            · exact absurd e w2
          · rcases (dk i' k).mp w with w | ⟨rfl, rfl⟩
            · exact v3 i' k w w2
            · exact absurd e w2
          · obtain ⟨i', k, w2, w3⟩ := v4 w
            exact ⟨i', k, (dk i' k).mpr (Or.inl w2), w3⟩, ⟨q0, by simp only; omega⟩, fun w k k0 k1 => by
          by_cases c : k = m
          · rw [c]; exact e
          · exact z0 w k k0 (by omega), fun w => by
          obtain ⟨k, k1, k2, k3⟩ := z1 w
          refine ⟨k, ⟨k1.1, by have := k1.2; omega⟩, k2, fun k' hk' w2 => ?_⟩
          by_cases c : k' = m
          · rw [c] at w2; exact absurd e w2
          · exact k3 k' ⟨hk'.1, by have := hk'.2; omega⟩ w2, z2⟩
      have bad : ¬ M i m = 0 → ¬ nu = 0 → ¬ M i m = nu → Q 0 μ := fun e e2 e3 => no (fun hw => by
        obtain ⟨i', k, w, w2⟩ := v4 e2
        have := drg i' k w
        have := hw.2.1 i i' m k hi this.1 ⟨m0, m1⟩ this.2 e (by rw [w2]; exact e2)
        omega)
      have good : ¬ M i m = 0 → (nu = 0 ∨ M i m = nu) → ∀ x, zR d 166 Q 22 [(2, 39), (0, M i m), (0, zor cb (zshl 1 m)), (0, i), (0, q + 1), (0, m + 1), x] [] μ := fun e e2 => ih (zor cb (zshl 1 m), M i m, q + 1) ⟨by
          rw [hV]
          refine ⟨zor_b v1 (zshl_b m5).1, fun k hk => ?_, fun i' k w w2 => ?_, fun _ => ⟨i, m, (dk i m).mpr (Or.inr ⟨rfl, rfl⟩), rfl⟩⟩
          · rw [tb_or v1 (zshl_b m5).1 hk, tb_shl hk m5, v2 k hk]
            refine ⟨fun w => ?_, fun ⟨i', w, w2⟩ => ?_⟩
            · rcases w with ⟨i', w, w2⟩ | w
              · exact ⟨i', (dk i' k).mpr (Or.inl w), w2⟩
              · rw [w]; exact ⟨i, (dk i m).mpr (Or.inr ⟨rfl, rfl⟩), e⟩
            · rcases (dk i' k).mp w with w | ⟨rfl, rfl⟩
              · exact Or.inl ⟨i', w, w2⟩
              · exact Or.inr rfl
          · rcases (dk i' k).mp w with w | ⟨rfl, rfl⟩
            · have := v3 i' k w w2
              rcases e2 with e2 | e2
              · omega
              · show M i' k = M i m
                rw [this, e2]
            · rfl, ⟨by simp only; omega, by simp only; omega⟩, fun w => absurd w (by simp only; omega), fun w => by
          have w0 : q = 0 := by simp only at w; omega
          refine ⟨m, ⟨m0, by omega⟩, e, fun k' hk' w2 => ?_⟩
          by_cases c : k' = m
          · exact c
          · exact absurd (z0 w0 k' hk'.1 (by have := hk'.2; omega)) w2, fun w => by
          by_cases c : q = 1
          · obtain ⟨k, k1, k2, k3⟩ := z1 c
            exact ⟨k, m, ⟨k1.1, by have := k1.2; omega⟩, ⟨m0, m1⟩, by have := k1.2; omega, k2, e⟩
          · exact z2 (by simp only at w; omega)⟩
      rw [u166_22]
      simp only [k166_22, e166, k166_0, u166_73, k166_73, u166_76, k166_76, u166_82, k166_82, u166_90, k166_90, u166_96, k166_96, u166_114, k166_114, u166_115, k166_115, zO_nop, zO_goto, zO_iload_n0, zO_iload_n1, zO_iload_n2, zO_iload_n3, zO_iload, zO_lload_n0, zO_lload_n1, zO_lload_n2, zO_lload_n3, zO_lload, zO_aload_n0, zO_aload_n1, zO_aload_n2, zO_aload_n3, zO_aload, zO_istore_n0, zO_istore_n1, zO_istore_n2, zO_istore_n3, zO_istore, zO_astore_n0, zO_astore_n1, zO_astore_n2, zO_astore_n3, zO_astore, zO_lstore, zO_iinc, zO_iconst, zO_bipush, zO_sipush, zO_lconst0, zO_lconst1, zO_ldc, zO_ldc2_w, zO_iadd, zO_isub, zO_imul, zO_idiv, zO_irem, zO_ineg, zO_iand, zO_ior, zO_ixor, zO_ishl, zO_ishr, zO_iushr, zO_ladd, zO_lmul, zO_land, zO_lor, zO_lshl, zO_lcmp, zO_i2l, zO_l2i, zO_i2b, zO_dup0, zO_dup2, zO_dup200, zO_dup202, zO_dup220, zO_dup222, zO_ifCond_eq, zO_ifCond_ne, zO_ifCond_lt, zO_ifCond_ge, zO_ifCond_gt, zO_ifCond_le, zO_if_icmp_eq, zO_if_icmp_ne, zO_if_icmp_lt, zO_if_icmp_ge, zO_if_icmp_gt, zO_if_icmp_le, zO_getfield, zO_putfield, zO_iaload, zO_baload, zO_laload, zO_iastore, zO_bastore, zO_lastore, zO_arraylength, zO_invokevirtual, zO_lreturn, zO_areturn, zO_return_, zO_tableswitch, zO_lookupswitch, zO_is0, zO_is1, zO_is2, zO_is3, zO_is4, zO_is9, zO_is10, zO_is11, zO_is12, zO_ir1, zO_ir4, zB_c, zLd_0, zLd_s, zSt_c, zSt2_c, zU_c, zD_c, zY_c, zSw_n, zSw_c, zCall_c, zVirt_c, zP_0, zP_1, zP_2, zP_3, zP_4, zGet_n, zGet_z, zPut_n, zPut_z, zcw_n, zcw_0, zcw_1, zcw_2, List.length_cons, List.length_nil, List.take_succ_cons, List.take_zero, List.drop_succ_cons, List.drop_zero, List.reverse_cons, List.reverse_nil, List.nil_append, List.cons_append, List.append_nil, List.set_cons_zero, List.set_cons_succ, List.getD_cons_zero, List.getD_cons_succ, true_and, and_true, ne_eq, not_false_eq_true, not_true_eq_false, zif, Nat.reduceAdd, Nat.reduceLeDiff, Nat.reduceLT, Nat.reduceSub, Nat.reduceEqDiff, Nat.zero_le, Nat.lt_add_one, Nat.reduceMod, false_implies, true_implies, implies_true, forall_const, Int.reduceLE, Int.reduceLT, Int.reduceEq, Int.reduceNeg, ite10_0, ite10_1, zem, zem2, Classical.not_not, and_self, or_true, true_or, or_false, false_or, zT_39, zN_39, zGf_192_39, zGf_193_39, zGf_194_39, zPf_194_39, zGf_195_39, zGf_196_39, zGf_197_39, zGf_198_39, zPf_198_39, zGf_199_39, zPf_199_39, zGf_200_39, zPf_200_39, zGf_201_39, zGf_202_39, zPf_202_39, zGf_203_39, zGf_204_39, zPf_204_39, zGf_205_39, zGf_206_39, zGf_207_39, zGf_208_39, zGf_209_39, zGf_210_39, zGf_211_39, zGf_212_39, zGf_213_39, zGf_214_39, zPf_214_39, zGf_215_39, zGf_216_39, zAl_40, zAs_40, zAl_50, zAs_50, hz, e1, em]
      rw [zw_e (z := m + 1) (by omega) (by omega), zw_e (z := q + 1) (by omega) (by omega)]
      refine ⟨fun _ => ⟨by omega, by omega, fun e => keep e _, fun e => ⟨fun e2 => good e (Or.inl e2) _, fun e2 => ⟨fun e3 => good e (Or.inr e3) _, fun e3 => bad e e2 e3⟩⟩⟩, fun e => absurd m1 e⟩
    · rintro ⟨cb, nu, q⟩ ⟨hv, ⟨q0, q1⟩, z0, z1, z2⟩ x
      simp only at hv q0 q1 z0 z1 z2
      rw [u166_22]
      simp only [k166_22, e166, k166_0, u166_73, k166_73, u166_76, k166_76, u166_82, k166_82, u166_90, k166_90, u166_96, k166_96, u166_114, k166_114, u166_115, k166_115, zO_nop, zO_goto, zO_iload_n0, zO_iload_n1, zO_iload_n2, zO_iload_n3, zO_iload, zO_lload_n0, zO_lload_n1, zO_lload_n2, zO_lload_n3, zO_lload, zO_aload_n0, zO_aload_n1, zO_aload_n2, zO_aload_n3, zO_aload, zO_istore_n0, zO_istore_n1, zO_istore_n2, zO_istore_n3, zO_istore, zO_astore_n0, zO_astore_n1, zO_astore_n2, zO_astore_n3, zO_astore, zO_lstore, zO_iinc, zO_iconst, zO_bipush, zO_sipush, zO_lconst0, zO_lconst1, zO_ldc, zO_ldc2_w, zO_iadd, zO_isub, zO_imul, zO_idiv, zO_irem, zO_ineg, zO_iand, zO_ior, zO_ixor, zO_ishl, zO_ishr, zO_iushr, zO_ladd, zO_lmul, zO_land, zO_lor, zO_lshl, zO_lcmp, zO_i2l, zO_l2i, zO_i2b, zO_dup0, zO_dup2, zO_dup200, zO_dup202, zO_dup220, zO_dup222, zO_ifCond_eq, zO_ifCond_ne, zO_ifCond_lt, zO_ifCond_ge, zO_ifCond_gt, zO_ifCond_le, zO_if_icmp_eq, zO_if_icmp_ne, zO_if_icmp_lt, zO_if_icmp_ge, zO_if_icmp_gt, zO_if_icmp_le, zO_getfield, zO_putfield, zO_iaload, zO_baload, zO_laload, zO_iastore, zO_bastore, zO_lastore, zO_arraylength, zO_invokevirtual, zO_lreturn, zO_areturn, zO_return_, zO_tableswitch, zO_lookupswitch, zO_is0, zO_is1, zO_is2, zO_is3, zO_is4, zO_is9, zO_is10, zO_is11, zO_is12, zO_ir1, zO_ir4, zB_c, zLd_0, zLd_s, zSt_c, zSt2_c, zU_c, zD_c, zY_c, zSw_n, zSw_c, zCall_c, zVirt_c, zP_0, zP_1, zP_2, zP_3, zP_4, zGet_n, zGet_z, zPut_n, zPut_z, zcw_n, zcw_0, zcw_1, zcw_2, List.length_cons, List.length_nil, List.take_succ_cons, List.take_zero, List.drop_succ_cons, List.drop_zero, List.reverse_cons, List.reverse_nil, List.nil_append, List.cons_append, List.append_nil, List.set_cons_zero, List.set_cons_succ, List.getD_cons_zero, List.getD_cons_succ, true_and, and_true, ne_eq, not_false_eq_true, not_true_eq_false, zif, Nat.reduceAdd, Nat.reduceLeDiff, Nat.reduceLT, Nat.reduceSub, Nat.reduceEqDiff, Nat.zero_le, Nat.lt_add_one, Nat.reduceMod, false_implies, true_implies, implies_true, forall_const, Int.reduceLE, Int.reduceLT, Int.reduceEq, Int.reduceNeg, ite10_0, ite10_1, zem, zem2, Classical.not_not, and_self, or_true, true_or, or_false, false_or, zT_39, zN_39, zGf_192_39, zGf_193_39, zGf_194_39, zPf_194_39, zGf_195_39, zGf_196_39, zGf_197_39, zGf_198_39, zPf_198_39, zGf_199_39, zPf_199_39, zGf_200_39, zPf_200_39, zGf_201_39, zGf_202_39, zPf_202_39, zGf_203_39, zGf_204_39, zPf_204_39, zGf_205_39, zGf_206_39, zGf_207_39, zGf_208_39, zGf_209_39, zGf_210_39, zGf_211_39, zGf_212_39, zGf_213_39, zGf_214_39, zPf_214_39, zGf_215_39, zGf_216_39, zAl_40, zAs_40, zAl_50, zAs_50, hz]
      rw [zw_e (z := i + 1) (by omega) (by omega)]
      refine ⟨fun e => absurd e (by omega), fun _ => ⟨fun e => ?_, fun e => no (fun hw => ?_)⟩⟩
      · obtain ⟨k, k1, k2, k3⟩ := z1 e
        exact hnext cb nu (Vx (fun i' k => by rw [hDk]; unfold zrg; omega) hv) ⟨k, k1, k2, k3⟩ _ _ _
      · obtain ⟨k, k1, k2, k3⟩ := hw.1 i hi
        by_cases c : q = 0
        · exact k2 (z0 c k k1.1 k1.2)
        · obtain ⟨a, b, a1, b1, ab, a2, b2⟩ := z2 (by omega)
          exact ab (by rw [k3 a a1 a2, k3 b b1 b2])
  have hi : ∀ i (s : Int × Int), 0 ≤ i → i ≤ n → (V (Dk i 0) s.1 s.2 ∧ ∀ i', zrg i i' → ∃ k, LWu M n i' k) → ∀ x y z, zR d 166 Q 6 [(2, 39), (0, s.2), (0, s.1), (0, i), x, y, z] [] μ := by
    refine zloop (n := n) (Inv := fun i (s : Int × Int) => V (Dk i 0) s.1 s.2 ∧ ∀ i', zrg i i' → ∃ k, LWu M n i' k) (R := fun i s => ∀ x y z, zR d 166 Q 6 [(2, 39), (0, s.2), (0, s.1), (0, i), x, y, z] [] μ) ?_ ?_
    · rintro i ⟨cb, nu⟩ i0 i1 ⟨hv, hu⟩ ih x y z
      simp only at hv hu
      rw [u166_6]
      simp only [k166_6, zO_nop, zO_goto, zO_iload_n0, zO_iload_n1, zO_iload_n2, zO_iload_n3, zO_iload, zO_lload_n0, zO_lload_n1, zO_lload_n2, zO_lload_n3, zO_lload, zO_aload_n0, zO_aload_n1, zO_aload_n2, zO_aload_n3, zO_aload, zO_istore_n0, zO_istore_n1, zO_istore_n2, zO_istore_n3, zO_istore, zO_astore_n0, zO_astore_n1, zO_astore_n2, zO_astore_n3, zO_astore, zO_lstore, zO_iinc, zO_iconst, zO_bipush, zO_sipush, zO_lconst0, zO_lconst1, zO_ldc, zO_ldc2_w, zO_iadd, zO_isub, zO_imul, zO_idiv, zO_irem, zO_ineg, zO_iand, zO_ior, zO_ixor, zO_ishl, zO_ishr, zO_iushr, zO_ladd, zO_lmul, zO_land, zO_lor, zO_lshl, zO_lcmp, zO_i2l, zO_l2i, zO_i2b, zO_dup0, zO_dup2, zO_dup200, zO_dup202, zO_dup220, zO_dup222, zO_ifCond_eq, zO_ifCond_ne, zO_ifCond_lt, zO_ifCond_ge, zO_ifCond_gt, zO_ifCond_le, zO_if_icmp_eq, zO_if_icmp_ne, zO_if_icmp_lt, zO_if_icmp_ge, zO_if_icmp_gt, zO_if_icmp_le, zO_getfield, zO_putfield, zO_iaload, zO_baload, zO_laload, zO_iastore, zO_bastore, zO_lastore, zO_arraylength, zO_invokevirtual, zO_lreturn, zO_areturn, zO_return_, zO_tableswitch, zO_lookupswitch, zO_is0, zO_is1, zO_is2, zO_is3, zO_is4, zO_is9, zO_is10, zO_is11, zO_is12, zO_ir1, zO_ir4, zB_c, zLd_0, zLd_s, zSt_c, zSt2_c, zU_c, zD_c, zY_c, zSw_n, zSw_c, zCall_c, zVirt_c, zP_0, zP_1, zP_2, zP_3, zP_4, zGet_n, zGet_z, zPut_n, zPut_z, zcw_n, zcw_0, zcw_1, zcw_2, List.length_cons, List.length_nil, List.take_succ_cons, List.take_zero, List.drop_succ_cons, List.drop_zero, List.reverse_cons, List.reverse_nil, List.nil_append, List.cons_append, List.append_nil, List.set_cons_zero, List.set_cons_succ, List.getD_cons_zero, List.getD_cons_succ, true_and, and_true, ne_eq, not_false_eq_true, not_true_eq_false, zif, Nat.reduceAdd, Nat.reduceLeDiff, Nat.reduceLT, Nat.reduceSub, Nat.reduceEqDiff, Nat.zero_le, Nat.lt_add_one, Nat.reduceMod, false_implies, true_implies, implies_true, forall_const, Int.reduceLE, Int.reduceLT, Int.reduceEq, Int.reduceNeg, ite10_0, ite10_1, zem, zem2, Classical.not_not, and_self, or_true, true_or, or_false, false_or, zT_39, zN_39, zGf_192_39, zGf_193_39, zGf_194_39, zPf_194_39, zGf_195_39, zGf_196_39, zGf_197_39, zGf_198_39, zPf_198_39, zGf_199_39, zPf_199_39, zGf_200_39, zPf_200_39, zGf_201_39, zGf_202_39, zPf_202_39, zGf_203_39, zGf_204_39, zPf_204_39, zGf_205_39, zGf_206_39, zGf_207_39, zGf_208_39, zGf_209_39, zGf_210_39, zGf_211_39, zGf_212_39, zGf_213_39, zGf_214_39, zPf_214_39, zGf_215_39, zGf_216_39, zAl_40, zAs_40, zAl_50, zAs_50, hz]
      refine ⟨fun _ => hk i ⟨i0, i1⟩ (fun cb nu h1 h2 x y z => ih (cb, nu) ⟨h1, fun i' hi' => ?_⟩ x y z) 0 (cb, nu, 0) (by omega) (by omega) ⟨hv, by simp, fun _ k k0 k1 => by omega, fun w => absurd w (by simp), fun w => absurd w (by simp)⟩ _, fun e => absurd i1 e⟩
      by_cases c : i' = i
      · rw [c]; exact h2
      · exact hu i' ⟨hi'.1, by have := hi'.2; omega⟩
    · rintro ⟨cb, nu⟩ ⟨hv, hu⟩ x y z
      simp only at hv hu
      rw [hV] at hv
      obtain ⟨v1, v2, v3, v4⟩ := hv
      have hms := msk hn
      have hzn := zshl_n hn
      have hsur : cb = zshl 1 n - 1 ↔ ∀ k, zrg n k → ∃ i, zrg n i ∧ ¬ M i k = 0 := by
        refine ⟨fun e k hk => ?_, fun h => tb_ext v1 hms.1 (fun k hk => ?_)⟩
        · have k5 : 0 ≤ k ∧ k < 5 := ⟨hk.1, by have := hk.2; omega⟩
          obtain ⟨i', w, w2⟩ := (v2 k k5).mp (by rw [e]; exact (hms.2 k k5).mpr hk.2)
          rw [hDk] at w
          exact ⟨i', by unfold zrg at w ⊢; omega, w2⟩
        · rw [hms.2 k hk, v2 k hk]
          refine ⟨fun ⟨i', w, _⟩ => ?_, fun w => ?_⟩
          · rw [hDk] at w; exact w.1.2
          · obtain ⟨i', hi', w2⟩ := h k ⟨hk.1, w⟩
            refine ⟨i', ?_, w2⟩
            rw [hDk]
            unfold zrg at hi' ⊢
            omega
      have hLW : LW0 M n ↔ cb = zshl 1 n - 1 := by
        rw [hsur, LW0_s hn hu]
        refine ⟨fun w => w.2.2, fun w => ⟨hu, fun i i' k k' hi hi' hk hk' q q' => ?_, w⟩⟩
        rw [v3 i k (by rw [hDk]; unfold zrg at hi hk ⊢; omega) q, v3 i' k' (by rw [hDk]; unfold zrg at hi' hk' ⊢; omega) q']
      rw [u166_6]
      simp only [k166_6, e166, k166_0, u166_73, k166_73, u166_76, k166_76, u166_82, k166_82, u166_90, k166_90, u166_96, k166_96, u166_114, k166_114, u166_115, k166_115, zO_nop, zO_goto, zO_iload_n0, zO_iload_n1, zO_iload_n2, zO_iload_n3, zO_iload, zO_lload_n0, zO_lload_n1, zO_lload_n2, zO_lload_n3, zO_lload, zO_aload_n0, zO_aload_n1, zO_aload_n2, zO_aload_n3, zO_aload, zO_istore_n0, zO_istore_n1, zO_istore_n2, zO_istore_n3, zO_istore, zO_astore_n0, zO_astore_n1, zO_astore_n2, zO_astore_n3, zO_astore, zO_lstore, zO_iinc, zO_iconst, zO_bipush, zO_sipush, zO_lconst0, zO_lconst1, zO_ldc, zO_ldc2_w, zO_iadd, zO_isub, zO_imul, zO_idiv, zO_irem, zO_ineg, zO_iand, zO_ior, zO_ixor, zO_ishl, zO_ishr, zO_iushr, zO_ladd, zO_lmul, zO_land, zO_lor, zO_lshl, zO_lcmp, zO_i2l, zO_l2i, zO_i2b, zO_dup0, zO_dup2, zO_dup200, zO_dup202, zO_dup220, zO_dup222, zO_ifCond_eq, zO_ifCond_ne, zO_ifCond_lt, zO_ifCond_ge, zO_ifCond_gt, zO_ifCond_le, zO_if_icmp_eq, zO_if_icmp_ne, zO_if_icmp_lt, zO_if_icmp_ge, zO_if_icmp_gt, zO_if_icmp_le, zO_getfield, zO_putfield, zO_iaload, zO_baload, zO_laload, zO_iastore, zO_bastore, zO_lastore, zO_arraylength, zO_invokevirtual, zO_lreturn, zO_areturn, zO_return_, zO_tableswitch, zO_lookupswitch, zO_is0, zO_is1, zO_is2, zO_is3, zO_is4, zO_is9, zO_is10, zO_is11, zO_is12, zO_ir1, zO_ir4, zB_c, zLd_0, zLd_s, zSt_c, zSt2_c, zU_c, zD_c, zY_c, zSw_n, zSw_c, zCall_c, zVirt_c, zP_0, zP_1, zP_2, zP_3, zP_4, zGet_n, zGet_z, zPut_n, zPut_z, zcw_n, zcw_0, zcw_1, zcw_2, List.length_cons, List.length_nil, List.take_succ_cons, List.take_zero, List.drop_succ_cons, List.drop_zero, List.reverse_cons, List.reverse_nil, List.nil_append, List.cons_append, List.append_nil, List.set_cons_zero, List.set_cons_succ, List.getD_cons_zero, List.getD_cons_succ, true_and, and_true, ne_eq, not_false_eq_true, not_true_eq_false, zif, Nat.reduceAdd, Nat.reduceLeDiff, Nat.reduceLT, Nat.reduceSub, Nat.reduceEqDiff, Nat.zero_le, Nat.lt_add_one, Nat.reduceMod, false_implies, true_implies, implies_true, forall_const, Int.reduceLE, Int.reduceLT, Int.reduceEq, Int.reduceNeg, ite10_0, ite10_1, zem, zem2, Classical.not_not, and_self, or_true, true_or, or_false, false_or, zT_39, zN_39, zGf_192_39, zGf_193_39, zGf_194_39, zPf_194_39, zGf_195_39, zGf_196_39, zGf_197_39, zGf_198_39, zPf_198_39, zGf_199_39, zPf_199_39, zGf_200_39, zPf_200_39, zGf_201_39, zGf_202_39, zPf_202_39, zGf_203_39, zGf_204_39, zPf_204_39, zGf_205_39, zGf_206_39, zGf_207_39, zGf_208_39, zGf_209_39, zGf_210_39, zGf_211_39, zGf_212_39, zGf_213_39, zGf_214_39, zPf_214_39, zGf_215_39, zGf_216_39, zAl_40, zAs_40, zAl_50, zAs_50, hz]
      rw [zw_e (z := zshl 1 n - 1) (by omega) (by omega)]
      exact ⟨fun e => absurd e (by omega), fun _ => ⟨fun e => yes (hLW.mpr e), fun e => no (fun w => e (hLW.mp w))⟩⟩
  simp only [e166, k166_0, zO_nop, zO_goto, zO_iload_n0, zO_iload_n1, zO_iload_n2, zO_iload_n3, zO_iload, zO_lload_n0, zO_lload_n1, zO_lload_n2, zO_lload_n3, zO_lload, zO_aload_n0, zO_aload_n1, zO_aload_n2, zO_aload_n3, zO_aload, zO_istore_n0, zO_istore_n1, zO_istore_n2, zO_istore_n3, zO_istore, zO_astore_n0, zO_astore_n1, zO_astore_n2, zO_astore_n3, zO_astore, zO_lstore, zO_iinc, zO_iconst, zO_bipush, zO_sipush, zO_lconst0, zO_lconst1, zO_ldc, zO_ldc2_w, zO_iadd, zO_isub, zO_imul, zO_idiv, zO_irem, zO_ineg, zO_iand, zO_ior, zO_ixor, zO_ishl, zO_ishr, zO_iushr, zO_ladd, zO_lmul, zO_land, zO_lor, zO_lshl, zO_lcmp, zO_i2l, zO_l2i, zO_i2b, zO_dup0, zO_dup2, zO_dup200, zO_dup202, zO_dup220, zO_dup222, zO_ifCond_eq, zO_ifCond_ne, zO_ifCond_lt, zO_ifCond_ge, zO_ifCond_gt, zO_ifCond_le, zO_if_icmp_eq, zO_if_icmp_ne, zO_if_icmp_lt, zO_if_icmp_ge, zO_if_icmp_gt, zO_if_icmp_le, zO_getfield, zO_putfield, zO_iaload, zO_baload, zO_laload, zO_iastore, zO_bastore, zO_lastore, zO_arraylength, zO_invokevirtual, zO_lreturn, zO_areturn, zO_return_, zO_tableswitch, zO_lookupswitch, zO_is0, zO_is1, zO_is2, zO_is3, zO_is4, zO_is9, zO_is10, zO_is11, zO_is12, zO_ir1, zO_ir4, zB_c, zLd_0, zLd_s, zSt_c, zSt2_c, zU_c, zD_c, zY_c, zSw_n, zSw_c, zCall_c, zVirt_c, zP_0, zP_1, zP_2, zP_3, zP_4, zGet_n, zGet_z, zPut_n, zPut_z, zcw_n, zcw_0, zcw_1, zcw_2, List.length_cons, List.length_nil, List.take_succ_cons, List.take_zero, List.drop_succ_cons, List.drop_zero, List.reverse_cons, List.reverse_nil, List.nil_append, List.cons_append, List.append_nil, List.set_cons_zero, List.set_cons_succ, List.getD_cons_zero, List.getD_cons_succ, true_and, and_true, ne_eq, not_false_eq_true, not_true_eq_false, zif, Nat.reduceAdd, Nat.reduceLeDiff, Nat.reduceLT, Nat.reduceSub, Nat.reduceEqDiff, Nat.zero_le, Nat.lt_add_one, Nat.reduceMod, false_implies, true_implies, implies_true, forall_const, Int.reduceLE, Int.reduceLT, Int.reduceEq, Int.reduceNeg, ite10_0, ite10_1, zem, zem2, Classical.not_not, and_self, or_true, true_or, or_false, false_or]
  refine hi 0 (0, 0) (by omega) (by omega) ⟨?_, fun i' hi' => by have := hi'.1; have := hi'.2; omega⟩ _ _ _
  rw [hV, hDk]
  refine ⟨by simp, fun k hk => ⟨fun q => absurd q (tb0 hk), fun ⟨i', w, _⟩ => ?_⟩, fun i' k w => ?_, fun w => absurd rfl w⟩
  · unfold zrg at w; omega
  · unfold zrg at w; omega
