/-! equations of the first degree: keeping one, learning one -/
theorem K_keepEquation {d : Nat} {b t : Int} {μ : zM} (hb : 0 ≤ b ∧ b ≤ 120) (ht : 0 ≤ t ∧ t ≤ 30) (he : ∀ k, zrg 5 k → 0 ≤ μ 22 k ∧ μ 22 k ≤ 30) : zC (d + 1) 9 [(2, 19), (0, b), (0, t)] μ (fun x u => x = 0 ∧ zfr [(23, -1)] μ u ∧ ∀ i, u 23 i = if b ≤ i ∧ i < b + 5 then μ 22 (i - b) * t % 31 else μ 23 i) := by
  generalize hQ : (fun (x : Int) (u : zM) => x = 0 ∧ zfr [(23, -1)] μ u ∧ ∀ i, u 23 i = if b ≤ i ∧ i < b + 5 then μ 22 (i - b) * t % 31 else μ 23 i) = Q
  have hl : ∀ k w, 0 ≤ k → k ≤ 5 → (zfr [(23, -1)] μ w ∧ ∀ i, w 23 i = if b ≤ i ∧ i < b + k then μ 22 (i - b) * t % 31 else μ 23 i) → zR d 9 Q 2 [(2, 19), (0, b), (0, t), (0, k)] [] w := by
    refine zloop (n := 5) (Inv := fun k w => zfr [(23, -1)] μ w ∧ ∀ i, w 23 i = if b ≤ i ∧ i < b + k then μ 22 (i - b) * t % 31 else μ 23 i) ?_ ?_
    · rintro k w k0 k1 ⟨f, g⟩ ih
      have e0 := he k ⟨k0, k1⟩
      have e1 : w 22 k = μ 22 k := by rw [zfr_c f (by decide)]
      have p := zmul_bd e0 ht
      have e2 : (zw (w 22 k * t)).tmod 31 = μ 22 k * t % 31 := by rw [e1, zw_e (by omega) (by omega), Int.tmod_eq_emod_of_nonneg p.1]
      have e3 : zw (b + k) = b + k := by rw [zw_e (by omega) (by omega)]
      have ih2 := ih (zu w 23 (b + k) (μ 22 k * t % 31)) ⟨zfr_w f (by decide), fun i => by
        by_cases q : i = b + k
        · rw [q, zu_at, if_pos (by omega)]
          rw [show b + k - b = k by omega]
        · rw [zu_ne (by omega), g i]
          by_cases q2 : b ≤ i ∧ i < b + k
          · rw [if_pos q2, if_pos (by omega)]
          · rw [if_neg q2, if_neg (by omega)]⟩
      rw [u9_2]
      simp only [k9_2, e9, k9_0, u9_32, k9_32, zO_nop, zO_goto, zO_iload_n0, zO_iload_n1, zO_iload_n2, zO_iload_n3, zO_iload, zO_lload_n0, zO_lload_n1, zO_lload_n2, zO_lload_n3, zO_lload, zO_aload_n0, zO_aload_n1, zO_aload_n2, zO_aload_n3, zO_aload, zO_istore_n0, zO_istore_n1, zO_istore_n2, zO_istore_n3, zO_istore, zO_astore_n0, zO_astore_n1, zO_astore_n2, zO_astore_n3, zO_astore, zO_lstore, zO_iinc, zO_iconst, zO_bipush, zO_sipush, zO_lconst0, zO_lconst1, zO_ldc, zO_ldc2_w, zO_iadd, zO_isub, zO_imul, zO_idiv, zO_irem, zO_ineg, zO_iand, zO_ior, zO_ixor, zO_ishl, zO_ishr, zO_iushr, zO_ladd, zO_lmul, zO_land, zO_lor, zO_lshl, zO_lcmp, zO_i2l, zO_l2i, zO_i2b, zO_dup0, zO_dup2, zO_dup200, zO_dup202, zO_dup220, zO_dup222, zO_ifCond_eq, zO_ifCond_ne, zO_ifCond_lt, zO_ifCond_ge, zO_ifCond_gt, zO_ifCond_le, zO_if_icmp_eq, zO_if_icmp_ne, zO_if_icmp_lt, zO_if_icmp_ge, zO_if_icmp_gt, zO_if_icmp_le, zO_getfield, zO_putfield, zO_iaload, zO_baload, zO_laload, zO_iastore, zO_bastore, zO_lastore, zO_arraylength, zO_invokevirtual, zO_lreturn, zO_areturn, zO_return_, zO_tableswitch, zO_lookupswitch, zO_is0, zO_is1, zO_is2, zO_is3, zO_is4, zO_is9, zO_is10, zO_is11, zO_is12, zO_ir1, zO_ir4, zB_c, zLd_0, zLd_s, zSt_c, zSt2_c, zU_c, zD_c, zY_c, zSw_n, zSw_c, zCall_c, zVirt_c, zP_0, zP_1, zP_2, zP_3, zP_4, zGet_n, zGet_z, zPut_n, zPut_z, zcw_n, zcw_0, zcw_1, zcw_2, List.length_cons, List.length_nil, List.take_succ_cons, List.take_zero, List.drop_succ_cons, List.drop_zero, List.reverse_cons, List.reverse_nil, List.nil_append, List.cons_append, List.append_nil, List.set_cons_zero, List.set_cons_succ, List.getD_cons_zero, List.getD_cons_succ, true_and, and_true, ne_eq, not_false_eq_true, not_true_eq_false, zif, Nat.reduceAdd, Nat.reduceLeDiff, Nat.reduceLT, Nat.reduceSub, Nat.reduceEqDiff, Nat.zero_le, Nat.lt_add_one, Nat.reduceMod, false_implies, true_implies, implies_true, forall_const, Int.reduceLE, Int.reduceLT, Int.reduceEq, Int.reduceNeg, ite10_0, ite10_1, zem, zem2, Classical.not_not, and_self, or_true, true_or, or_false, false_or, zT_19, zN_19, zGf_0_19, zPf_0_19, zGf_1_19, zGf_2_19, zGf_3_19, zGf_4_19, zAl_22, zAs_22, zAl_23, zAs_23, e2, e3]
      rw [zw_e (z := k + 1) (by omega) (by omega)]
      refine ⟨fun _ => ?_, fun e => absurd k1 e⟩
      (repeat' (first | assumption | (with_reducible refine And.intro ?_ ?_) | (intro hh; first | subst hh | skip)))
      all_goals omega
    · rintro w ⟨f, g⟩
      rw [u9_2]
      simp only [k9_2, e9, k9_0, u9_32, k9_32, zO_nop, zO_goto, zO_iload_n0, zO_iload_n1, zO_iload_n2, zO_iload_n3, zO_iload, zO_lload_n0, zO_lload_n1, zO_lload_n2, zO_lload_n3, zO_lload, zO_aload_n0, zO_aload_n1, zO_aload_n2, zO_aload_n3, zO_aload, zO_istore_n0, zO_istore_n1, zO_istore_n2, zO_istore_n3, zO_istore, zO_astore_n0, zO_astore_n1, zO_astore_n2, zO_astore_n3, zO_astore, zO_lstore, zO_iinc, zO_iconst, zO_bipush, zO_sipush, zO_lconst0, zO_lconst1, zO_ldc, zO_ldc2_w, zO_iadd, zO_isub, zO_imul, zO_idiv, zO_irem, zO_ineg, zO_iand, zO_ior, zO_ixor, zO_ishl, zO_ishr, zO_iushr, zO_ladd, zO_lmul, zO_land, zO_lor, zO_lshl, zO_lcmp, zO_i2l, zO_l2i, zO_i2b, zO_dup0, zO_dup2, zO_dup200, zO_dup202, zO_dup220, zO_dup222, zO_ifCond_eq, zO_ifCond_ne, zO_ifCond_lt, zO_ifCond_ge, zO_ifCond_gt, zO_ifCond_le, zO_if_icmp_eq, zO_if_icmp_ne, zO_if_icmp_lt, zO_if_icmp_ge, zO_if_icmp_gt, zO_if_icmp_le, zO_getfield, zO_putfield, zO_iaload, zO_baload, zO_laload, zO_iastore, zO_bastore, zO_lastore, zO_arraylength, zO_invokevirtual, zO_lreturn, zO_areturn, zO_return_, zO_tableswitch, zO_lookupswitch, zO_is0, zO_is1, zO_is2, zO_is3, zO_is4, zO_is9, zO_is10, zO_is11, zO_is12, zO_ir1, zO_ir4, zB_c, zLd_0, zLd_s, zSt_c, zSt2_c, zU_c, zD_c, zY_c, zSw_n, zSw_c, zCall_c, zVirt_c, zP_0, zP_1, zP_2, zP_3, zP_4, zGet_n, zGet_z, zPut_n, zPut_z, zcw_n, zcw_0, zcw_1, zcw_2, List.length_cons, List.length_nil, List.take_succ_cons, List.take_zero, List.drop_succ_cons, List.drop_zero, List.reverse_cons, List.reverse_nil, List.nil_append, List.cons_append, List.append_nil, List.set_cons_zero, List.set_cons_succ, List.getD_cons_zero, List.getD_cons_succ, true_and, and_true, ne_eq, not_false_eq_true, not_true_eq_false, zif, Nat.reduceAdd, Nat.reduceLeDiff, Nat.reduceLT, Nat.reduceSub, Nat.reduceEqDiff, Nat.zero_le, Nat.lt_add_one, Nat.reduceMod, false_implies, true_implies, implies_true, forall_const, Int.reduceLE, Int.reduceLT, Int.reduceEq, Int.reduceNeg, ite10_0, ite10_1, zem, zem2, Classical.not_not, and_self, or_true, true_or, or_false, false_or]
      rw [← hQ]
      exact ⟨rfl, f, g⟩
  simp only [e9, k9_0, zO_nop, zO_goto, zO_iload_n0, zO_iload_n1, zO_iload_n2, zO_iload_n3, zO_iload, zO_lload_n0, zO_lload_n1, zO_lload_n2, zO_lload_n3, zO_lload, zO_aload_n0, zO_aload_n1, zO_aload_n2, zO_aload_n3, zO_aload, zO_istore_n0, zO_istore_n1, zO_istore_n2, zO_istore_n3, zO_istore, zO_astore_n0, zO_astore_n1, zO_astore_n2, zO_astore_n3, zO_astore, zO_lstore, zO_iinc, zO_iconst, zO_bipush, zO_sipush, zO_lconst0, zO_lconst1, zO_ldc, zO_ldc2_w, zO_iadd, zO_isub, zO_imul, zO_idiv, zO_irem, zO_ineg, zO_iand, zO_ior, zO_ixor, zO_ishl, zO_ishr, zO_iushr, zO_ladd, zO_lmul, zO_land, zO_lor, zO_lshl, zO_lcmp, zO_i2l, zO_l2i, zO_i2b, zO_dup0, zO_dup2, zO_dup200, zO_dup202, zO_dup220, zO_dup222, zO_ifCond_eq, zO_ifCond_ne, zO_ifCond_lt, zO_ifCond_ge, zO_ifCond_gt, zO_ifCond_le, zO_if_icmp_eq, zO_if_icmp_ne, zO_if_icmp_lt, zO_if_icmp_ge, zO_if_icmp_gt, zO_if_icmp_le, zO_getfield, zO_putfield, zO_iaload, zO_baload, zO_laload, zO_iastore, zO_bastore, zO_lastore, zO_arraylength, zO_invokevirtual, zO_lreturn, zO_areturn, zO_return_, zO_tableswitch, zO_lookupswitch, zO_is0, zO_is1, zO_is2, zO_is3, zO_is4, zO_is9, zO_is10, zO_is11, zO_is12, zO_ir1, zO_ir4, zB_c, zLd_0, zLd_s, zSt_c, zSt2_c, zU_c, zD_c, zY_c, zSw_n, zSw_c, zCall_c, zVirt_c, zP_0, zP_1, zP_2, zP_3, zP_4, zGet_n, zGet_z, zPut_n, zPut_z, zcw_n, zcw_0, zcw_1, zcw_2, List.length_cons, List.length_nil, List.take_succ_cons, List.take_zero, List.drop_succ_cons, List.drop_zero, List.reverse_cons, List.reverse_nil, List.nil_append, List.cons_append, List.append_nil, List.set_cons_zero, List.set_cons_succ, List.getD_cons_zero, List.getD_cons_succ, true_and, and_true, ne_eq, not_false_eq_true, not_true_eq_false, zif, Nat.reduceAdd, Nat.reduceLeDiff, Nat.reduceLT, Nat.reduceSub, Nat.reduceEqDiff, Nat.zero_le, Nat.lt_add_one, Nat.reduceMod, false_implies, true_implies, implies_true, forall_const, Int.reduceLE, Int.reduceLT, Int.reduceEq, Int.reduceNeg, ite10_0, ite10_1, zem, zem2, Classical.not_not, and_self, or_true, true_or, or_false, false_or]
  exact hl 0 μ (by omega) (by omega) ⟨zfr_rf, fun i => by rw [if_neg (by omega)]⟩
def evq (e χ : Int → Int) : Int := zs (fun k => e k * χ k) 5
theorem ev_cg {f g : Int → Int} (m : Nat) (h : ∀ k, zrg m k → (31 : Int) ∣ f k - g k) : (31 : Int) ∣ zs f m - zs g m := by
  have := zsu_lin (f := f) (g := g) 1 (-1) m
  have h2 := zsu_d (f := fun i => 1 * f i + -1 * g i) m fun i hi => by have := h i hi; show (31 : Int) ∣ 1 * f i + -1 * g i; omega
  rw [this] at h2
  omega
theorem ev_st {e e' f χ : Int → Int} {a t : Int} (h : ∀ k, zrg 5 k → (31 : Int) ∣ e' k - (a * e k + t * f k)) (hf : (31 : Int) ∣ t * evq f χ) : ((31 : Int) ∣ evq e' χ ↔ (31 : Int) ∣ a * evq e χ) := by
  unfold evq at *
  have h1 := ev_cg (f := fun k => e' k * χ k) (g := fun k => a * (e k * χ k) + t * (f k * χ k)) 5 fun k hk => by
    obtain ⟨q, hq⟩ := h k hk
    refine ⟨q * χ k, ?_⟩
    show e' k * χ k - (a * (e k * χ k) + t * (f k * χ k)) = 31 * (q * χ k)
    rw [← Int.mul_assoc 31, ← hq, Int.sub_mul, Int.add_mul, Int.mul_assoc a, Int.mul_assoc t]
  rw [zsu_lin] at h1
  rw [show ((5 : Nat) : Int) = 5 by rfl] at h1
  omega
def kS (kn χ : Int → Int) : Prop := ∀ s, 1 ≤ s → s ≤ 4 → kn (5 * s + s) = 0 ∨ (31 : Int) ∣ evq (fun k => kn (5 * s + k)) χ
def kW (kn : Int → Int) : Prop := (∀ i, zrg 25 i → 0 ≤ kn i ∧ kn i ≤ 30) ∧ ∀ s, 1 ≤ s → s ≤ 4 → kn (5 * s + s) = 0 ∨ (kn (5 * s + s) = 1 ∧ ∀ k, s < k → k < 5 → kn (5 * s + k) = 0)
theorem ev_0 {e χ : Int → Int} (h : ∀ k, 0 < k → k < 5 → e k = 0) (h0 : χ 0 = 1) : evq e χ = e 0 := by
  unfold evq
  show ((((0 + e 0 * χ 0) + e 1 * χ 1) + e 2 * χ 2) + e 3 * χ 3) + e 4 * χ 4 = e 0
  rw [h 1 (by omega) (by omega), h 2 (by omega) (by omega), h 3 (by omega) (by omega), h 4 (by omega) (by omega), h0]
  omega
theorem ks_keep {kn kn' e χ : Int → Int} {s : Int} (hw : kW kn) (hs : 1 ≤ s ∧ s ≤ 4) (he : ∀ k, zrg 5 k → 0 ≤ e k ∧ e k ≤ 30) (hz : ∀ k, s < k → k < 5 → e k = 0) (h0 : kn (5 * s + s) = 0) (h1 : ¬ e s = 0) (h' : ∀ i, zrg 25 i → kn' i = if 5 * s ≤ i ∧ i < 5 * s + 5 then e (i - 5 * s) * inv31 (e s) % 31 else kn i) : kW kn' ∧ ((kS kn χ ∧ (31 : Int) ∣ evq e χ) ↔ kS kn' χ) := by
  have iv := inv_1 (x := e s) (by have := he s ⟨by omega, by omega⟩; omega)
  have row : ∀ k, zrg 5 k → kn' (5 * s + k) = e k * inv31 (e s) % 31 := fun k hk => by
    rw [h' _ ⟨by have := hk.1; omega, by have := hk.2; omega⟩, if_pos (by have := hk.1; have := hk.2; omega), show 5 * s + k - 5 * s = k by omega]
  have oth : ∀ s' k, 1 ≤ s' → s' ≤ 4 → ¬ s' = s → zrg 5 k → kn' (5 * s' + k) = kn (5 * s' + k) := fun s' k a b c hk => by
    rw [h' _ ⟨by have := hk.1; omega, by have := hk.2; omega⟩, if_neg (by have := hk.1; have := hk.2; omega)]
  have r1 : kn' (5 * s + s) = 1 := by rw [row s ⟨by omega, by omega⟩]; exact iv.1
  refine ⟨⟨fun i hi => ?_, fun s' a b => ?_⟩, ?_⟩
  · rw [h' i hi]
    split
    · omega
    · exact hw.1 i hi
  · by_cases q : s' = s
    · rw [q]
      exact Or.inr ⟨r1, fun k c d => by rw [row k ⟨by omega, d⟩, hz k c d]; simp⟩
    · rw [oth s' s' a b q ⟨by omega, by omega⟩]
      rcases hw.2 s' a b with z | ⟨z1, z2⟩
      · exact Or.inl z
      · exact Or.inr ⟨z1, fun k c d => by rw [oth s' k a b q ⟨by omega, d⟩]; exact z2 k c d⟩
  · have er : (31 : Int) ∣ evq (fun k => kn' (5 * s + k)) χ ↔ (31 : Int) ∣ inv31 (e s) * evq e χ := by
      refine ev_st (f := fun _ => 0) (t := 0) (fun k hk => ?_) (by rw [Int.zero_mul]; exact ⟨0, rfl⟩)
      rw [row k hk, Int.mul_comm]
      omega
    have er2 : (31 : Int) ∣ inv31 (e s) * evq e χ ↔ (31 : Int) ∣ evq e χ := by
      refine ⟨fun h => ?_, fun h => Int.dvd_trans h ⟨_, Int.mul_comm _ _⟩⟩
      rcases p31 h with q | q
      · omega
      · exact q
    have eo : ∀ s', 1 ≤ s' → s' ≤ 4 → ¬ s' = s → evq (fun k => kn' (5 * s' + k)) χ = evq (fun k => kn (5 * s' + k)) χ := fun s' a b c => by
      unfold evq
      exact zs_cg (by omega) fun k hk => by show kn' (5 * s' + k) * χ k = kn (5 * s' + k) * χ k; rw [oth s' k a b c hk]
    constructor
    · rintro ⟨h, g⟩ s' a b
      by_cases q : s' = s
      · rw [q]; exact Or.inr (er.2 (er2.2 g))
      · rw [oth s' s' a b q ⟨by omega, by omega⟩, eo s' a b q]; exact h s' a b
    · intro h
      refine ⟨fun s' a b => ?_, ?_⟩
      · by_cases q : s' = s
        · rw [q]; exact Or.inl h0
        · have := h s' a b
          rw [oth s' s' a b q ⟨by omega, by omega⟩, eo s' a b q] at this
          exact this
      · rcases h s hs.1 hs.2 with z | z
        · omega
        · exact er2.1 (er.1 z)
