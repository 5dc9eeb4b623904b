/-! one row with times another's, the search for a row -/
def adR (A : Int → Int → Int) (p q t i m : Int) : Int := if i = p then (A p m + t * A q m) % 31 else A i m
theorem adR_bd {n p q t : Int} {A : Int → Int → Int} (h : mBd n A) : mBd n (adR A p q t) := fun i m hi hm => by
  unfold adR
  by_cases a : i = p
  · rw [if_pos a]; omega
  · rw [if_neg a]; exact h i m hi hm
theorem adR_e {n p q t : Int} {A : Int → Int → Int} (h : mBd n A) (hp : zrg n p) (hq : zrg n q) (ht : 0 ≤ t ∧ t ≤ 31) {m : Int} (hm : zrg n m) : (zw (A p m + zw (t * A q m))).tmod 31 = (A p m + t * A q m) % 31 := by
  have h1 := h p m hp hm
  have h2 := zmul_bd ht (h q m hq hm)
  rw [zw_e (z := t * A q m) (by omega) (by omega), zw_e (by omega) (by omega), Int.tmod_eq_emod_of_nonneg (by omega)]
theorem K_addRow {d : Nat} {n p q t : Int} {A B : Int → Int → Int} {μ : zM} (hn : 1 ≤ n ∧ n ≤ 5) (hp : zrg n p) (hq : zrg n q) (ht : 0 ≤ t ∧ t ≤ 31) (hA : mTb 27 0 n A μ) (hB : mTb 25 0 n B μ) (hAb : mBd n A) (hBb : mBd n B) : zC (d + 1) 43 [(2, 24), (0, p), (0, q), (0, t)] μ (fun x u => x = 0 ∧ zfr [(25, -1), (27, -1)] μ u ∧ mTb 27 0 n (adR A p q t) u ∧ mTb 25 0 n (adR B p q t) u) := by
  generalize hQ : (fun (x : Int) (u : zM) => x = 0 ∧ zfr [(25, -1), (27, -1)] μ u ∧ mTb 27 0 n (adR A p q t) u ∧ mTb 25 0 n (adR B p q t) u) = Q
  have p0 := hp.1
  have p1 := hp.2
  have q0 := hq.1
  have q1 := hq.2
  obtain ⟨J, hJ⟩ : ∃ J : Int → (Int → Int → Int) → Int → zM → Prop, J = fun c A k w => ∀ i m, zrg n i → zrg n m → w c (5 * i + m) = if m < k then adR A p q t i m else A i m := ⟨_, rfl⟩
  have Js : ∀ (c : Int) (A : Int → Int → Int) (k : Int) (w w' : zM), J c A k w → (∀ x, ¬ x = 5 * p + k → w' c x = w c x) → (zrg n k → w' c (5 * p + k) = (A p k + t * A q k) % 31) → 0 ≤ k → k < 5 → J c A (k + 1) w' := by
    intro c A k w w' h h1 h2 k0 k5
    rw [hJ] at h ⊢
    intro i m hi hm
    by_cases e : 5 * i + m = 5 * p + k
    · unfold zrg at hi hm
      obtain ⟨rfl, rfl⟩ : i = p ∧ m = k := by omega
      rw [h2 ⟨k0, hm.2⟩, if_pos (by omega)]
      unfold adR
      rw [if_pos rfl]
    · rw [h1 _ e, h i m hi hm]
      by_cases a : m < k
      · rw [if_pos a, if_pos (show m < k + 1 by omega)]
      · rw [if_neg a]
        by_cases b : m < k + 1
        · rw [if_pos b]
          unfold adR
          rw [if_neg (by omega)]
        · rw [if_neg b]
  have hl : ∀ k w, 0 ≤ k → k ≤ 5 → (zfr [(25, -1), (27, -1)] μ w ∧ J 27 A k w ∧ J 25 B k w) → zR d 43 Q 3 [(2, 24), (0, p), (0, q), (0, t), (0, k)] [] w := by
    refine zloop (n := 5) (Inv := fun k w => zfr [(25, -1), (27, -1)] μ w ∧ J 27 A k w ∧ J 25 B k w) ?_ ?_
    · rintro k w k0 k1 ⟨f, g1, g2⟩ ih
      have e1 : zw (zw (p * 5) + k) = 5 * p + k := by simp (disch := omega) only [zw_e]; omega
      have e2 : zw (zw (q * 5) + k) = 5 * q + k := by simp (disch := omega) only [zw_e]; omega
      have val : ∀ (c : Int) (A : Int → Int → Int), mBd n A → J c A k w → zrg n k → (zw (w c (5 * p + k) + zw (t * w c (5 * q + k)))).tmod 31 = (A p k + t * A q k) % 31 := by
        intro c A hb h hk
        rw [hJ] at h
        have a1 := h p k hp hk
        have a2 := h q k hq hk
        rw [if_neg (by omega)] at a1 a2
        rw [a1, a2]
        exact adR_e hb hp hq ht hk
      have v1 := val 27 A hAb g1
      have v2 := val 25 B hBb g2
      have n1 := Js 27 A k w (zu (zu w 27 (5 * p + k) ((zw (w 27 (5 * p + k) + zw (t * w 27 (5 * q + k)))).tmod 31)) 25 (5 * p + k) ((zw (w 25 (5 * p + k) + zw (t * w 25 (5 * q + k)))).tmod 31)) g1 (fun x hx => by rw [zu_c (by decide), zu_ne (by omega)]) (fun hk => by rw [zu_c (by decide), zu_at]; exact v1 hk) k0 k1
      have n2 := Js 25 B k w (zu (zu w 27 (5 * p + k) ((zw (w 27 (5 * p + k) + zw (t * w 27 (5 * q + k)))).tmod 31)) 25 (5 * p + k) ((zw (w 25 (5 * p + k) + zw (t * w 25 (5 * q + k)))).tmod 31)) g2 (fun x hx => by rw [zu_ne (by omega), zu_c (by decide)]) (fun hk => by rw [zu_at]; exact v2 hk) k0 k1
      have ih2 := ih _ ⟨zfr_w (zfr_w f (by decide)) (by decide), n1, n2⟩
      rw [u43_3]
      simp only [k43_3, e43, k43_0, u43_93, k43_93, zO_nop, zO_goto, zO_iload_n0, zO_iload_n1, zO_iload_n2, zO_iload_n3, zO_iload, zO_lload_n0, zO_lload_n1, zO_lload_n2, zO_lload_n3, zO_lload, zO_aload_n0, zO_aload_n1, zO_aload_n2, zO_aload_n3, zO_aload, zO_istore_n0, zO_istore_n1, zO_istore_n2, zO_istore_n3, zO_istore, zO_astore_n0, zO_astore_n1, zO_astore_n2, zO_astore_n3, zO_astore, zO_lstore, zO_iinc, zO_iconst, zO_bipush, zO_sipush, zO_lconst0, zO_lconst1, zO_ldc, zO_ldc2_w, zO_iadd, zO_isub, zO_imul, zO_idiv, zO_irem, zO_ineg, zO_iand, zO_ior, zO_ixor, zO_ishl, zO_ishr, zO_iushr, zO_ladd, zO_lmul, zO_land, zO_lor, zO_lshl, zO_lcmp, zO_i2l, zO_l2i, zO_i2b, zO_dup0, zO_dup2, zO_dup200, zO_dup202, zO_dup220, zO_dup222, zO_ifCond_eq, zO_ifCond_ne, zO_ifCond_lt, zO_ifCond_ge, zO_ifCond_gt, zO_ifCond_le, zO_if_icmp_eq, zO_if_icmp_ne, zO_if_icmp_lt, zO_if_icmp_ge, zO_if_icmp_gt, zO_if_icmp_le, zO_getfield, zO_putfield, zO_iaload, zO_baload, zO_laload, zO_iastore, zO_bastore, zO_lastore, zO_arraylength, zO_invokevirtual, zO_lreturn, zO_areturn, zO_return_, zO_tableswitch, zO_lookupswitch, zO_is0, zO_is1, zO_is2, zO_is3, zO_is4, zO_is9, zO_is10, zO_is11, zO_is12, zO_ir1, zO_ir4, zB_c, zLd_0, zLd_s, zSt_c, zSt2_c, zU_c, zD_c, zY_c, zSw_n, zSw_c, zCall_c, zVirt_c, zP_0, zP_1, zP_2, zP_3, zP_4, zGet_n, zGet_z, zPut_n, zPut_z, zcw_n, zcw_0, zcw_1, zcw_2, List.length_cons, List.length_nil, List.take_succ_cons, List.take_zero, List.drop_succ_cons, List.drop_zero, List.reverse_cons, List.reverse_nil, List.nil_append, List.cons_append, List.append_nil, List.set_cons_zero, List.set_cons_succ, List.getD_cons_zero, List.getD_cons_succ, true_and, and_true, ne_eq, not_false_eq_true, not_true_eq_false, zif, Nat.reduceAdd, Nat.reduceLeDiff, Nat.reduceLT, Nat.reduceSub, Nat.reduceEqDiff, Nat.zero_le, Nat.lt_add_one, Nat.reduceMod, false_implies, true_implies, implies_true, forall_const, Int.reduceLE, Int.reduceLT, Int.reduceEq, Int.reduceNeg, ite10_0, ite10_1, zem, zem2, Classical.not_not, and_self, or_true, true_or, or_false, false_or, zT_24, zN_24, zGf_128_24, zGf_129_24, zGf_130_24, zGf_131_24, zAl_25, zAs_25, zAl_27, zAs_27, e1, e2, zu_d, Int.reduceEq, false_and, if_false]
      rw [zw_e (z := k + 1) (by omega) (by omega)]
      refine ⟨fun _ => ?_, fun e => absurd k1 e⟩
      (repeat' (first | assumption | (with_reducible refine And.intro ?_ ?_) | (intro hh; first | subst hh | skip)))
      all_goals omega
    · rintro w ⟨f, g1, g2⟩
      rw [u43_3]
      simp only [k43_3, e43, k43_0, u43_93, k43_93, zO_nop, zO_goto, zO_iload_n0, zO_iload_n1, zO_iload_n2, zO_iload_n3, zO_iload, zO_lload_n0, zO_lload_n1, zO_lload_n2, zO_lload_n3, zO_lload, zO_aload_n0, zO_aload_n1, zO_aload_n2, zO_aload_n3, zO_aload, zO_istore_n0, zO_istore_n1, zO_istore_n2, zO_istore_n3, zO_istore, zO_astore_n0, zO_astore_n1, zO_astore_n2, zO_astore_n3, zO_astore, zO_lstore, zO_iinc, zO_iconst, zO_bipush, zO_sipush, zO_lconst0, zO_lconst1, zO_ldc, zO_ldc2_w, zO_iadd, zO_isub, zO_imul, zO_idiv, zO_irem, zO_ineg, zO_iand, zO_ior, zO_ixor, zO_ishl, zO_ishr, zO_iushr, zO_ladd, zO_lmul, zO_land, zO_lor, zO_lshl, zO_lcmp, zO_i2l, zO_l2i, zO_i2b, zO_dup0, zO_dup2, zO_dup200, zO_dup202, zO_dup220, zO_dup222, zO_ifCond_eq, zO_ifCond_ne, zO_ifCond_lt, zO_ifCond_ge, zO_ifCond_gt, zO_ifCond_le, zO_if_icmp_eq, zO_if_icmp_ne, zO_if_icmp_lt, zO_if_icmp_ge, zO_if_icmp_gt, zO_if_icmp_le, zO_getfield, zO_putfield, zO_iaload, zO_baload, zO_laload, zO_iastore, zO_bastore, zO_lastore, zO_arraylength, zO_invokevirtual, zO_lreturn, zO_areturn, zO_return_, zO_tableswitch, zO_lookupswitch, zO_is0, zO_is1, zO_is2, zO_is3, zO_is4, zO_is9, zO_is10, zO_is11, zO_is12, zO_ir1, zO_ir4, zB_c, zLd_0, zLd_s, zSt_c, zSt2_c, zU_c, zD_c, zY_c, zSw_n, zSw_c, zCall_c, zVirt_c, zP_0, zP_1, zP_2, zP_3, zP_4, zGet_n, zGet_z, zPut_n, zPut_z, zcw_n, zcw_0, zcw_1, zcw_2, List.length_cons, List.length_nil, List.take_succ_cons, List.take_zero, List.drop_succ_cons, List.drop_zero, List.reverse_cons, List.reverse_nil, List.nil_append, List.cons_append, List.append_nil, List.set_cons_zero, List.set_cons_succ, List.getD_cons_zero, List.getD_cons_succ, true_and, and_true, ne_eq, not_false_eq_true, not_true_eq_false, zif, Nat.reduceAdd, Nat.reduceLeDiff, Nat.reduceLT, Nat.reduceSub, Nat.reduceEqDiff, Nat.zero_le, Nat.lt_add_one, Nat.reduceMod, false_implies, true_implies, implies_true, forall_const, Int.reduceLE, Int.reduceLT, Int.reduceEq, Int.reduceNeg, ite10_0, ite10_1, zem, zem2, Classical.not_not, and_self, or_true, true_or, or_false, false_or]
      rw [← hQ]
      rw [hJ] at g1 g2
      refine ⟨rfl, f, fun i m hi hm => ?_, fun i m hi hm => ?_⟩
      · rw [Int.zero_add, g1 i m hi hm, if_pos (by have := hm.2; omega)]
      · rw [Int.zero_add, g2 i m hi hm, if_pos (by have := hm.2; omega)]
  simp only [e43, k43_0, zO_nop, zO_goto, zO_iload_n0, zO_iload_n1, zO_iload_n2, zO_iload_n3, zO_iload, zO_lload_n0, zO_lload_n1, zO_lload_n2, zO_lload_n3, zO_lload, zO_aload_n0, zO_aload_n1, zO_aload_n2, zO_aload_n3, zO_aload, zO_istore_n0, zO_istore_n1, zO_istore_n2, zO_istore_n3, zO_istore, zO_astore_n0, zO_astore_n1, zO_astore_n2, zO_astore_n3, zO_astore, zO_lstore, zO_iinc, zO_iconst, zO_bipush, zO_sipush, zO_lconst0, zO_lconst1, zO_ldc, zO_ldc2_w, zO_iadd, zO_isub, zO_imul, zO_idiv, zO_irem, zO_ineg, zO_iand, zO_ior, zO_ixor, zO_ishl, zO_ishr, zO_iushr, zO_ladd, zO_lmul, zO_land, zO_lor, zO_lshl, zO_lcmp, zO_i2l, zO_l2i, zO_i2b, zO_dup0, zO_dup2, zO_dup200, zO_dup202, zO_dup220, zO_dup222, zO_ifCond_eq, zO_ifCond_ne, zO_ifCond_lt, zO_ifCond_ge, zO_ifCond_gt, zO_ifCond_le, zO_if_icmp_eq, zO_if_icmp_ne, zO_if_icmp_lt, zO_if_icmp_ge, zO_if_icmp_gt, zO_if_icmp_le, zO_getfield, zO_putfield, zO_iaload, zO_baload, zO_laload, zO_iastore, zO_bastore, zO_lastore, zO_arraylength, zO_invokevirtual, zO_lreturn, zO_areturn, zO_return_, zO_tableswitch, zO_lookupswitch, zO_is0, zO_is1, zO_is2, zO_is3, zO_is4, zO_is9, zO_is10, zO_is11, zO_is12, zO_ir1, zO_ir4, zB_c, zLd_0, zLd_s, zSt_c, zSt2_c, zU_c, zD_c, zY_c, zSw_n, zSw_c, zCall_c, zVirt_c, zP_0, zP_1, zP_2, zP_3, zP_4, zGet_n, zGet_z, zPut_n, zPut_z, zcw_n, zcw_0, zcw_1, zcw_2, List.length_cons, List.length_nil, List.take_succ_cons, List.take_zero, List.drop_succ_cons, List.drop_zero, List.reverse_cons, List.reverse_nil, List.nil_append, List.cons_append, List.append_nil, List.set_cons_zero, List.set_cons_succ, List.getD_cons_zero, List.getD_cons_succ, true_and, and_true, ne_eq, not_false_eq_true, not_true_eq_false, zif, Nat.reduceAdd, Nat.reduceLeDiff, Nat.reduceLT, Nat.reduceSub, Nat.reduceEqDiff, Nat.zero_le, Nat.lt_add_one, Nat.reduceMod, false_implies, true_implies, implies_true, forall_const, Int.reduceLE, Int.reduceLT, Int.reduceEq, Int.reduceNeg, ite10_0, ite10_1, zem, zem2, Classical.not_not, and_self, or_true, true_or, or_false, false_or]
  refine hl 0 μ (by omega) (by omega) ⟨zfr_rf, ?_, ?_⟩
  · rw [hJ]
    intro i m hi hm
    have := hA i m hi hm
    rw [Int.zero_add] at this
    rw [if_neg (by have := hm.1; omega), this]
  · rw [hJ]
    intro i m hi hm
    have := hB i m hi hm
    rw [Int.zero_add] at this
    rw [if_neg (by have := hm.1; omega), this]
/-- a row times t, on the reference's side -/
def scR (A : Int → Int → Int) (p t i m : Int) : Int := if i = p then A p m * t % 31 else A i m
theorem scR_bd {n p t : Int} {A : Int → Int → Int} (h : mBd n A) : mBd n (scR A p t) := fun i m hi hm => by
  unfold scR
  by_cases a : i = p
  · rw [if_pos a]; omega
  · rw [if_neg a]; exact h i m hi hm
theorem L_scales48 {d : Nat} {n p t : Int} {A : Int → Int → Int} {μ : zM} (hn : 1 ≤ n ∧ n ≤ 5) (hz : μ 40 1 = n) (hp : zrg n p) (ht : 0 ≤ t ∧ t ≤ 31) (hA : mTb 48 0 n A μ) (hAb : mBd n A) : zC (d + 1) 155 [(2, 39), (2, 48), (0, p), (0, t)] μ (fun x u => x = 0 ∧ zfr [(48, -1)] μ u ∧ mTb 48 0 n (scR A p t) u) := by
  generalize hQ : (fun (x : Int) (u : zM) => x = 0 ∧ zfr [(48, -1)] μ u ∧ mTb 48 0 n (scR A p t) u) = Q
  have p0 := hp.1
  have p1 := hp.2
  have hl : ∀ k w, 0 ≤ k → k ≤ n → (zfr [(48, -1)] μ w ∧ ∀ i m, zrg n i → zrg n m → w 48 (5 * i + m) = if m < k then scR A p t i m else A i m) → zR d 155 Q 3 [(2, 39), (2, 48), (0, p), (0, t), (0, k)] [] w := by
    refine zloop (n := n) (Inv := fun k w => zfr [(48, -1)] μ w ∧ ∀ i m, zrg n i → zrg n m → w 48 (5 * i + m) = if m < k then scR A p t i m else A i m) ?_ ?_
    · rintro k w k0 k1 ⟨f, g⟩ ih
      have hk : zrg n k := ⟨k0, k1⟩
      have hz1 : w 40 1 = n := by rw [zfr_c f (by decide)]; exact hz
      have e1 : zw (zw (5 * p) + k) = 5 * p + k := by simp (disch := omega) only [zw_e]
      have eA : w 48 (5 * p + k) = A p k := by rw [g p k hp hk, if_neg (by omega)]
      have b := hAb p k hp hk
      have pb := zmul_bd b ht
      have e2 : (zw (A p k * t)).tmod 31 = A p k * t % 31 := by rw [zw_e (by omega) (by omega), Int.tmod_eq_emod_of_nonneg pb.1]
      have ih2 := ih (zu w 48 (5 * p + k) (A p k * t % 31)) ⟨zfr_w f (by decide), fun i m hi hm => by
        rw [zu_d]
        by_cases e : 5 * i + m = 5 * p + k
        · unfold zrg at hi hm
          obtain ⟨rfl, rfl⟩ : i = p ∧ m = k := by omega
          rw [if_pos ⟨rfl, rfl⟩, if_pos (by omega)]
          unfold scR
          rw [if_pos rfl]
        · rw [if_neg (fun z => e z.2), g i m hi hm]
          by_cases a : m < k
          · rw [if_pos a, if_pos (show m < k + 1 by omega)]
          · rw [if_neg a]
            by_cases b : m < k + 1
            · rw [if_pos b]
              unfold scR
              rw [if_neg (by omega)]
            · rw [if_neg b]⟩
      rw [u155_3]
      simp only [k155_3, e155, k155_0, u155_41, k155_41, zO_nop, zO_goto, zO_iload_n0, zO_iload_n1, zO_iload_n2, zO_iload_n3, zO_iload, zO_lload_n0, zO_lload_n1, zO_lload_n2, zO_lload_n3, zO_lload, zO_aload_n0, zO_aload_n1, zO_aload_n2, zO_aload_n3, zO_aload, zO_istore_n0, zO_istore_n1, zO_istore_n2, zO_istore_n3, zO_istore, zO_astore_n0, zO_astore_n1, zO_astore_n2, zO_astore_n3, zO_astore, zO_lstore, zO_iinc, zO_iconst, zO_bipush, zO_sipush, zO_lconst0, zO_lconst1, zO_ldc, zO_ldc2_w, zO_iadd, zO_isub, zO_imul, zO_idiv, zO_irem, zO_ineg, zO_iand, zO_ior, zO_ixor, zO_ishl, zO_ishr, zO_iushr, zO_ladd, zO_lmul, zO_land, zO_lor, zO_lshl, zO_lcmp, zO_i2l, zO_l2i, zO_i2b, zO_dup0, zO_dup2, zO_dup200, zO_dup202, zO_dup220, zO_dup222, zO_ifCond_eq, zO_ifCond_ne, zO_ifCond_lt, zO_ifCond_ge, zO_ifCond_gt, zO_ifCond_le, zO_if_icmp_eq, zO_if_icmp_ne, zO_if_icmp_lt, zO_if_icmp_ge, zO_if_icmp_gt, zO_if_icmp_le, zO_getfield, zO_putfield, zO_iaload, zO_baload, zO_laload, zO_iastore, zO_bastore, zO_lastore, zO_arraylength, zO_invokevirtual, zO_lreturn, zO_areturn, zO_return_, zO_tableswitch, zO_lookupswitch, zO_is0, zO_is1, zO_is2, zO_is3, zO_is4, zO_is9, zO_is10, zO_is11, zO_is12, zO_ir1, zO_ir4, zB_c, zLd_0, zLd_s, zSt_c, zSt2_c, zU_c, zD_c, zY_c, zSw_n, zSw_c, zCall_c, zVirt_c, zP_0, zP_1, zP_2, zP_3, zP_4, zGet_n, zGet_z, zPut_n, zPut_z, zcw_n, zcw_0, zcw_1, zcw_2, List.length_cons, List.length_nil, List.take_succ_cons, List.take_zero, List.drop_succ_cons, List.drop_zero, List.reverse_cons, List.reverse_nil, List.nil_append, List.cons_append, List.append_nil, List.set_cons_zero, List.set_cons_succ, List.getD_cons_zero, List.getD_cons_succ, true_and, and_true, ne_eq, not_false_eq_true, not_true_eq_false, zif, Nat.reduceAdd, Nat.reduceLeDiff, Nat.reduceLT, Nat.reduceSub, Nat.reduceEqDiff, Nat.zero_le, Nat.lt_add_one, Nat.reduceMod, false_implies, true_implies, implies_true, forall_const, Int.reduceLE, Int.reduceLT, Int.reduceEq, Int.reduceNeg, ite10_0, ite10_1, zem, zem2, Classical.not_not, and_self, or_true, true_or, or_false, false_or, zT_39, zN_39, zGf_192_39, zGf_193_39, zGf_194_39, zPf_194_39, zGf_195_39, zGf_196_39, zGf_197_39, zGf_198_39, zPf_198_39, zGf_199_39, zPf_199_39, zGf_200_39, zPf_200_39, zGf_201_39, zGf_202_39, zPf_202_39, zGf_203_39, zGf_204_39, zPf_204_39, zGf_205_39, zGf_206_39, zGf_207_39, zGf_208_39, zGf_209_39, zGf_210_39, zGf_211_39, zGf_212_39, zGf_213_39, zGf_214_39, zPf_214_39, zGf_215_39, zGf_216_39, zAl_40, zAs_40, zAl_48, zAs_48, hz1, e1, eA, e2]
      rw [zw_e (z := k + 1) (by omega) (by omega)]
      refine ⟨fun _ => ?_, fun e => absurd k1 e⟩
      (repeat' (first | assumption | (with_reducible refine And.intro ?_ ?_) | (intro hh; first | subst hh | skip)))
      all_goals omega
    · rintro w ⟨f, g⟩
      have hz1 : w 40 1 = n := by rw [zfr_c f (by decide)]; exact hz
      rw [u155_3]
      simp only [k155_3, e155, k155_0, u155_41, k155_41, zO_nop, zO_goto, zO_iload_n0, zO_iload_n1, zO_iload_n2, zO_iload_n3, zO_iload, zO_lload_n0, zO_lload_n1, zO_lload_n2, zO_lload_n3, zO_lload, zO_aload_n0, zO_aload_n1, zO_aload_n2, zO_aload_n3, zO_aload, zO_istore_n0, zO_istore_n1, zO_istore_n2, zO_istore_n3, zO_istore, zO_astore_n0, zO_astore_n1, zO_astore_n2, zO_astore_n3, zO_astore, zO_lstore, zO_iinc, zO_iconst, zO_bipush, zO_sipush, zO_lconst0, zO_lconst1, zO_ldc, zO_ldc2_w, zO_iadd, zO_isub, zO_imul, zO_idiv, zO_irem, zO_ineg, zO_iand, zO_ior, zO_ixor, zO_ishl, zO_ishr, zO_iushr, zO_ladd, zO_lmul, zO_land, zO_lor, zO_lshl, zO_lcmp, zO_i2l, zO_l2i, zO_i2b, zO_dup0, zO_dup2, zO_dup200, zO_dup202, zO_dup220, zO_dup222, zO_ifCond_eq, zO_ifCond_ne, zO_ifCond_lt, zO_ifCond_ge, zO_ifCond_gt, zO_ifCond_le, zO_if_icmp_eq, zO_if_icmp_ne, zO_if_icmp_lt, zO_if_icmp_ge, zO_if_icmp_gt, zO_if_icmp_le, zO_getfield, zO_putfield, zO_iaload, zO_baload, zO_laload, zO_iastore, zO_bastore, zO_lastore, zO_arraylength, zO_invokevirtual, zO_lreturn, zO_areturn, zO_return_, zO_tableswitch, zO_lookupswitch, zO_is0, zO_is1, zO_is2, zO_is3, zO_is4, zO_is9, zO_is10, zO_is11, zO_is12, zO_ir1, zO_ir4, zB_c, zLd_0, zLd_s, zSt_c, zSt2_c, zU_c, zD_c, zY_c, zSw_n, zSw_c, zCall_c, zVirt_c, zP_0, zP_1, zP_2, zP_3, zP_4, zGet_n, zGet_z, zPut_n, zPut_z, zcw_n, zcw_0, zcw_1, zcw_2, List.length_cons, List.length_nil, List.take_succ_cons, List.take_zero, List.drop_succ_cons, List.drop_zero, List.reverse_cons, List.reverse_nil, List.nil_append, List.cons_append, List.append_nil, List.set_cons_zero, List.set_cons_succ, List.getD_cons_zero, List.getD_cons_succ, true_and, and_true, ne_eq, not_false_eq_true, not_true_eq_false, zif, Nat.reduceAdd, Nat.reduceLeDiff, Nat.reduceLT, Nat.reduceSub, Nat.reduceEqDiff, Nat.zero_le, Nat.lt_add_one, Nat.reduceMod, false_implies, true_implies, implies_true, forall_const, Int.reduceLE, Int.reduceLT, Int.reduceEq, Int.reduceNeg, ite10_0, ite10_1, zem, zem2, Classical.not_not, and_self, or_true, true_or, or_false, false_or, zT_39, zN_39, zGf_192_39, zGf_193_39, zGf_194_39, zPf_194_39, zGf_195_39, zGf_196_39, zGf_197_39, zGf_198_39, zPf_198_39, zGf_199_39, zPf_199_39, zGf_200_39, zPf_200_39, zGf_201_39, zGf_202_39, zPf_202_39, zGf_203_39, zGf_204_39, zPf_204_39, zGf_205_39, zGf_206_39, zGf_207_39, zGf_208_39, zGf_209_39, zGf_210_39, zGf_211_39, zGf_212_39, zGf_213_39, zGf_214_39, zPf_214_39, zGf_215_39, zGf_216_39, zAl_40, zAs_40, hz1]
      refine ⟨fun e => absurd e (by omega), fun _ => ?_⟩
      rw [← hQ]
      refine ⟨rfl, f, fun i m hi hm => ?_⟩
      rw [Int.zero_add, g i m hi hm, if_pos hm.2]
  simp only [e155, k155_0, zO_nop, zO_goto, zO_iload_n0, zO_iload_n1, zO_iload_n2, zO_iload_n3, zO_iload, zO_lload_n0, zO_lload_n1, zO_lload_n2, zO_lload_n3, zO_lload, zO_aload_n0, zO_aload_n1, zO_aload_n2, zO_aload_n3, zO_aload, zO_istore_n0, zO_istore_n1, zO_istore_n2, zO_istore_n3, zO_istore, zO_astore_n0, zO_astore_n1, zO_astore_n2, zO_astore_n3, zO_astore, zO_lstore, zO_iinc, zO_iconst, zO_bipush, zO_sipush, zO_lconst0, zO_lconst1, zO_ldc, zO_ldc2_w, zO_iadd, zO_isub, zO_imul, zO_idiv, zO_irem, zO_ineg, zO_iand, zO_ior, zO_ixor, zO_ishl, zO_ishr, zO_iushr, zO_ladd, zO_lmul, zO_land, zO_lor, zO_lshl, zO_lcmp, zO_i2l, zO_l2i, zO_i2b, zO_dup0, zO_dup2, zO_dup200, zO_dup202, zO_dup220, zO_dup222, zO_ifCond_eq, zO_ifCond_ne, zO_ifCond_lt, zO_ifCond_ge, zO_ifCond_gt, zO_ifCond_le, zO_if_icmp_eq, zO_if_icmp_ne, zO_if_icmp_lt, zO_if_icmp_ge, zO_if_icmp_gt, zO_if_icmp_le, zO_getfield, zO_putfield, zO_iaload, zO_baload, zO_laload, zO_iastore, zO_bastore, zO_lastore, zO_arraylength, zO_invokevirtual, zO_lreturn, zO_areturn, zO_return_, zO_tableswitch, zO_lookupswitch, zO_is0, zO_is1, zO_is2, zO_is3, zO_is4, zO_is9, zO_is10, zO_is11, zO_is12, zO_ir1, zO_ir4, zB_c, zLd_0, zLd_s, zSt_c, zSt2_c, zU_c, zD_c, zY_c, zSw_n, zSw_c, zCall_c, zVirt_c, zP_0, zP_1, zP_2, zP_3, zP_4, zGet_n, zGet_z, zPut_n, zPut_z, zcw_n, zcw_0, zcw_1, zcw_2, List.length_cons, List.length_nil, List.take_succ_cons, List.take_zero, List.drop_succ_cons, List.drop_zero, List.reverse_cons, List.reverse_nil, List.nil_append, List.cons_append, List.append_nil, List.set_cons_zero, List.set_cons_succ, List.getD_cons_zero, List.getD_cons_succ, true_and, and_true, ne_eq, not_false_eq_true, not_true_eq_false, zif, Nat.reduceAdd, Nat.reduceLeDiff, Nat.reduceLT, Nat.reduceSub, Nat.reduceEqDiff, Nat.zero_le, Nat.lt_add_one, Nat.reduceMod, false_implies, true_implies, implies_true, forall_const, Int.reduceLE, Int.reduceLT, Int.reduceEq, Int.reduceNeg, ite10_0, ite10_1, zem, zem2, Classical.not_not, and_self, or_true, true_or, or_false, false_or]
  refine hl 0 μ (by omega) (by omega) ⟨zfr_rf, fun i m hi hm => ?_⟩
  have := hA i m hi hm
  rw [Int.zero_add] at this
  rw [if_neg (by have := hm.1; omega), this]
theorem L_takesOff48 {d : Nat} {n p q t : Int} {A : Int → Int → Int} {μ : zM} (hn : 1 ≤ n ∧ n ≤ 5) (hz : μ 40 1 = n) (hp : zrg n p) (hq : zrg n q) (ht : 0 ≤ t ∧ t ≤ 30) (hA : mTb 48 0 n A μ) (hAb : mBd n A) : zC (d + 1) 156 [(2, 39), (2, 48), (0, p), (0, q), (0, t)] μ (fun x u => x = 0 ∧ zfr [(48, -1)] μ u ∧ mTb 48 0 n (adR A p q (31 - t)) u) := by
  generalize hQ : (fun (x : Int) (u : zM) => x = 0 ∧ zfr [(48, -1)] μ u ∧ mTb 48 0 n (adR A p q (31 - t)) u) = Q
  have p0 := hp.1
  have p1 := hp.2
  have q0 := hq.1
  have q1 := hq.2
  have hl : ∀ k w, 0 ≤ k → k ≤ n → (zfr [(48, -1)] μ w ∧ ∀ i m, zrg n i → zrg n m → w 48 (5 * i + m) = if m < k then adR A p q (31 - t) i m else A i m) → zR d 156 Q 3 [(2, 39), (2, 48), (0, p), (0, q), (0, t), (0, k)] [] w := by
    refine zloop (n := n) (Inv := fun k w => zfr [(48, -1)] μ w ∧ ∀ i m, zrg n i → zrg n m → w 48 (5 * i + m) = if m < k then adR A p q (31 - t) i m else A i m) ?_ ?_
    · rintro k w k0 k1 ⟨f, g⟩ ih
      have hk : zrg n k := ⟨k0, k1⟩
      have hz1 : w 40 1 = n := by rw [zfr_c f (by decide)]; exact hz
      have e1 : zw (zw (5 * p) + k) = 5 * p + k := by simp (disch := omega) only [zw_e]
      have e3 : zw (zw (5 * q) + k) = 5 * q + k := by simp (disch := omega) only [zw_e]
      have e4 : zw (31 - t) = 31 - t := zw_e (by omega) (by omega)
      have eA : w 48 (5 * p + k) = A p k := by rw [g p k hp hk, if_neg (by omega)]
      have eB : w 48 (5 * q + k) = A q k := by rw [g q k hq hk, if_neg (by omega)]
      have e2 := adR_e (t := 31 - t) hAb hp hq (by omega) hk
      have ih2 := ih (zu w 48 (5 * p + k) ((A p k + (31 - t) * A q k) % 31)) ⟨zfr_w f (by decide), fun i m hi hm => by
        rw [zu_d]
        by_cases e : 5 * i + m = 5 * p + k
        · unfold zrg at hi hm
          obtain ⟨rfl, rfl⟩ : i = p ∧ m = k := by omega
          rw [if_pos ⟨rfl, rfl⟩, if_pos (by omega)]
          unfold adR
          rw [if_pos rfl]
        · rw [if_neg (fun z => e z.2), g i m hi hm]
          by_cases a : m < k
          · rw [if_pos a, if_pos (show m < k + 1 by omega)]
          · rw [if_neg a]
            by_cases b : m < k + 1
            · rw [if_pos b]
              unfold adR
              rw [if_neg (by omega)]
            · rw [if_neg b]⟩
      rw [u156_3]
      simp only [k156_3, e156, k156_0, u156_54, k156_54, zO_nop, zO_goto, zO_iload_n0, zO_iload_n1, zO_iload_n2, zO_iload_n3, zO_iload, zO_lload_n0, zO_lload_n1, zO_lload_n2, zO_lload_n3, zO_lload, zO_aload_n0, zO_aload_n1, zO_aload_n2, zO_aload_n3, zO_aload, zO_istore_n0, zO_istore_n1, zO_istore_n2, zO_istore_n3, zO_istore, zO_astore_n0, zO_astore_n1, zO_astore_n2, zO_astore_n3, zO_astore, zO_lstore, zO_iinc, zO_iconst, zO_bipush, zO_sipush, zO_lconst0, zO_lconst1, zO_ldc, zO_ldc2_w, zO_iadd, zO_isub, zO_imul, zO_idiv, zO_irem, zO_ineg, zO_iand, zO_ior, zO_ixor, zO_ishl, zO_ishr, zO_iushr, zO_ladd, zO_lmul, zO_land, zO_lor, zO_lshl, zO_lcmp, zO_i2l, zO_l2i, zO_i2b, zO_dup0, zO_dup2, zO_dup200, zO_dup202, zO_dup220, zO_dup222, zO_ifCond_eq, zO_ifCond_ne, zO_ifCond_lt, zO_ifCond_ge, zO_ifCond_gt, zO_ifCond_le, zO_if_icmp_eq, zO_if_icmp_ne, zO_if_icmp_lt, zO_if_icmp_ge, zO_if_icmp_gt, zO_if_icmp_le, zO_getfield, zO_putfield, zO_iaload, zO_baload, zO_laload, zO_iastore, zO_bastore, zO_lastore, zO_arraylength, zO_invokevirtual, zO_lreturn, zO_areturn, zO_return_, zO_tableswitch, zO_lookupswitch, zO_is0, zO_is1, zO_is2, zO_is3, zO_is4, zO_is9, zO_is10, zO_is11, zO_is12, zO_ir1, zO_ir4, zB_c, zLd_0, zLd_s, zSt_c, zSt2_c, zU_c, zD_c, zY_c, zSw_n, zSw_c, zCall_c, zVirt_c, zP_0, zP_1, zP_2, zP_3, zP_4, zGet_n, zGet_z, zPut_n, zPut_z, zcw_n, zcw_0, zcw_1, zcw_2, List.length_cons, List.length_nil, List.take_succ_cons, List.take_zero, List.drop_succ_cons, List.drop_zero, List.reverse_cons, List.reverse_nil, List.nil_append, List.cons_append, List.append_nil, List.set_cons_zero, List.set_cons_succ, List.getD_cons_zero, List.getD_cons_succ, true_and, and_true, ne_eq, not_false_eq_true, not_true_eq_false, zif, Nat.reduceAdd, Nat.reduceLeDiff, Nat.reduceLT, Nat.reduceSub, Nat.reduceEqDiff, Nat.zero_le, Nat.lt_add_one, Nat.reduceMod, false_implies, true_implies, implies_true, forall_const, Int.reduceLE, Int.reduceLT, Int.reduceEq, Int.reduceNeg, ite10_0, ite10_1, zem, zem2, Classical.not_not, and_self, or_true, true_or, or_false, false_or, zT_39, zN_39, zGf_192_39, zGf_193_39, zGf_194_39, zPf_194_39, zGf_195_39, zGf_196_39, zGf_197_39, zGf_198_39, zPf_198_39, zGf_199_39, zPf_199_39, zGf_200_39, zPf_200_39, zGf_201_39, zGf_202_39, zPf_202_39, zGf_203_39, zGf_204_39, zPf_204_39, zGf_205_39, zGf_206_39, zGf_207_39, zGf_208_39, zGf_209_39, zGf_210_39, zGf_211_39, zGf_212_39, zGf_213_39, zGf_214_39, zPf_214_39, zGf_215_39, zGf_216_39, zAl_40, zAs_40, zAl_48, zAs_48, hz1, e1, e3, e4, eA, eB, e2]
      rw [zw_e (z := k + 1) (by omega) (by omega)]
      refine ⟨fun _ => ?_, fun e => absurd k1 e⟩
      (repeat' (first | assumption | (with_reducible refine And.intro ?_ ?_) | (intro hh; first | subst hh | skip)))
      all_goals omega
    · rintro w ⟨f, g⟩
      have hz1 : w 40 1 = n := by rw [zfr_c f (by decide)]; exact hz
      rw [u156_3]
      simp only [k156_3, e156, k156_0, u156_54, k156_54, zO_nop, zO_goto, zO_iload_n0, zO_iload_n1, zO_iload_n2, zO_iload_n3, zO_iload, zO_lload_n0, zO_lload_n1, zO_lload_n2, zO_lload_n3, zO_lload, zO_aload_n0, zO_aload_n1, zO_aload_n2, zO_aload_n3, zO_aload, zO_istore_n0, zO_istore_n1, zO_istore_n2, zO_istore_n3, zO_istore, zO_astore_n0, zO_astore_n1, zO_astore_n2, zO_astore_n3, zO_astore, zO_lstore, zO_iinc, zO_iconst, zO_bipush, zO_sipush, zO_lconst0, zO_lconst1, zO_ldc, zO_ldc2_w, zO_iadd, zO_isub, zO_imul, zO_idiv, zO_irem, zO_ineg, zO_iand, zO_ior, zO_ixor, zO_ishl, zO_ishr, zO_iushr, zO_ladd, zO_lmul, zO_land, zO_lor, zO_lshl, zO_lcmp, zO_i2l, zO_l2i, zO_i2b, zO_dup0, zO_dup2, zO_dup200, zO_dup202, zO_dup220, zO_dup222, zO_ifCond_eq, zO_ifCond_ne, zO_ifCond_lt, zO_ifCond_ge, zO_ifCond_gt, zO_ifCond_le, zO_if_icmp_eq, zO_if_icmp_ne, zO_if_icmp_lt, zO_if_icmp_ge, zO_if_icmp_gt, zO_if_icmp_le, zO_getfield, zO_putfield, zO_iaload, zO_baload, zO_laload, zO_iastore, zO_bastore, zO_lastore, zO_arraylength, zO_invokevirtual, zO_lreturn, zO_areturn, zO_return_, zO_tableswitch, zO_lookupswitch, zO_is0, zO_is1, zO_is2, zO_is3, zO_is4, zO_is9, zO_is10, zO_is11, zO_is12, zO_ir1, zO_ir4, zB_c, zLd_0, zLd_s, zSt_c, zSt2_c, zU_c, zD_c, zY_c, zSw_n, zSw_c, zCall_c, zVirt_c, zP_0, zP_1, zP_2, zP_3, zP_4, zGet_n, zGet_z, zPut_n, zPut_z, zcw_n, zcw_0, zcw_1, zcw_2, List.length_cons, List.length_nil, List.take_succ_cons, List.take_zero, List.drop_succ_cons, List.drop_zero, List.reverse_cons, List.reverse_nil, List.nil_append, List.cons_append, List.append_nil, List.set_cons_zero, List.set_cons_succ, List.getD_cons_zero, List.getD_cons_succ, true_and, and_true, ne_eq, not_false_eq_true, not_true_eq_false, zif, Nat.reduceAdd, Nat.reduceLeDiff, Nat.reduceLT, Nat.reduceSub, Nat.reduceEqDiff, Nat.zero_le, Nat.lt_add_one, Nat.reduceMod, false_implies, true_implies, implies_true, forall_const, Int.reduceLE, Int.reduceLT, Int.reduceEq, Int.reduceNeg, ite10_0, ite10_1, zem, zem2, Classical.not_not, and_self, or_true, true_or, or_false, false_or, zT_39, zN_39, zGf_192_39, zGf_193_39, zGf_194_39, zPf_194_39, zGf_195_39, zGf_196_39, zGf_197_39, zGf_198_39, zPf_198_39, zGf_199_39, zPf_199_39, zGf_200_39, zPf_200_39, zGf_201_39, zGf_202_39, zPf_202_39, zGf_203_39, zGf_204_39, zPf_204_39, zGf_205_39, zGf_206_39, zGf_207_39, zGf_208_39, zGf_209_39, zGf_210_39, zGf_211_39, zGf_212_39, zGf_213_39, zGf_214_39, zPf_214_39, zGf_215_39, zGf_216_39, zAl_40, zAs_40, hz1]
      refine ⟨fun e => absurd e (by omega), fun _ => ?_⟩
      rw [← hQ]
      refine ⟨rfl, f, fun i m hi hm => ?_⟩
      rw [Int.zero_add, g i m hi hm, if_pos hm.2]
  simp only [e156, k156_0, zO_nop, zO_goto, zO_iload_n0, zO_iload_n1, zO_iload_n2, zO_iload_n3, zO_iload, zO_lload_n0, zO_lload_n1, zO_lload_n2, zO_lload_n3, zO_lload, zO_aload_n0, zO_aload_n1, zO_aload_n2, zO_aload_n3, zO_aload, zO_istore_n0, zO_istore_n1, zO_istore_n2, zO_istore_n3, zO_istore, zO_astore_n0, zO_astore_n1, zO_astore_n2, zO_astore_n3, zO_astore, zO_lstore, zO_iinc, zO_iconst, zO_bipush, zO_sipush, zO_lconst0, zO_lconst1, zO_ldc, zO_ldc2_w, zO_iadd, zO_isub, zO_imul, zO_idiv, zO_irem, zO_ineg, zO_iand, zO_ior, zO_ixor, zO_ishl, zO_ishr, zO_iushr, zO_ladd, zO_lmul, zO_land, zO_lor, zO_lshl, zO_lcmp, zO_i2l, zO_l2i, zO_i2b, zO_dup0, zO_dup2, zO_dup200, zO_dup202, zO_dup220, zO_dup222, zO_ifCond_eq, zO_ifCond_ne, zO_ifCond_lt, zO_ifCond_ge, zO_ifCond_gt, zO_ifCond_le, zO_if_icmp_eq, zO_if_icmp_ne, zO_if_icmp_lt, zO_if_icmp_ge, zO_if_icmp_gt, zO_if_icmp_le, zO_getfield, zO_putfield, zO_iaload, zO_baload, zO_laload, zO_iastore, zO_bastore, zO_lastore, zO_arraylength, zO_invokevirtual, zO_lreturn, zO_areturn, zO_return_, zO_tableswitch, zO_lookupswitch, zO_is0, zO_is1, zO_is2, zO_is3, zO_is4, zO_is9, zO_is10, zO_is11, zO_is12, zO_ir1, zO_ir4, zB_c, zLd_0, zLd_s, zSt_c, zSt2_c, zU_c, zD_c, zY_c, zSw_n, zSw_c, zCall_c, zVirt_c, zP_0, zP_1, zP_2, zP_3, zP_4, zGet_n, zGet_z, zPut_n, zPut_z, zcw_n, zcw_0, zcw_1, zcw_2, List.length_cons, List.length_nil, List.take_succ_cons, List.take_zero, List.drop_succ_cons, List.drop_zero, List.reverse_cons, List.reverse_nil, List.nil_append, List.cons_append, List.append_nil, List.set_cons_zero, List.set_cons_succ, List.getD_cons_zero, List.getD_cons_succ, true_and, and_true, ne_eq, not_false_eq_true, not_true_eq_false, zif, Nat.reduceAdd, Nat.reduceLeDiff, Nat.reduceLT, Nat.reduceSub, Nat.reduceEqDiff, Nat.zero_le, Nat.lt_add_one, Nat.reduceMod, false_implies, true_implies, implies_true, forall_const, Int.reduceLE, Int.reduceLT, Int.reduceEq, Int.reduceNeg, ite10_0, ite10_1, zem, zem2, Classical.not_not, and_self, or_true, true_or, or_false, false_or]
  refine hl 0 μ (by omega) (by omega) ⟨zfr_rf, fun i m hi hm => ?_⟩
  have := hA i m hi hm
  rw [Int.zero_add] at this
  rw [if_neg (by have := hm.1; omega), this]
theorem L_scales49 {d : Nat} {n p t : Int} {A : Int → Int → Int} {μ : zM} (hn : 1 ≤ n ∧ n ≤ 5) (hz : μ 40 1 = n) (hp : zrg n p) (ht : 0 ≤ t ∧ t ≤ 31) (hA : mTb 49 0 n A μ) (hAb : mBd n A) : zC (d + 1) 155 [(2, 39), (2, 49), (0, p), (0, t)] μ (fun x u => x = 0 ∧ zfr [(49, -1)] μ u ∧ mTb 49 0 n (scR A p t) u) := by
  generalize hQ : (fun (x : Int) (u : zM) => x = 0 ∧ zfr [(49, -1)] μ u ∧ mTb 49 0 n (scR A p t) u) = Q
  have p0 := hp.1
  have p1 := hp.2
  have hl : ∀ k w, 0 ≤ k → k ≤ n → (zfr [(49, -1)] μ w ∧ ∀ i m, zrg n i → zrg n m → w 49 (5 * i + m) = if m < k then scR A p t i m else A i m) → zR d 155 Q 3 [(2, 39), (2, 49), (0, p), (0, t), (0, k)] [] w := by
    refine zloop (n := n) (Inv := fun k w => zfr [(49, -1)] μ w ∧ ∀ i m, zrg n i → zrg n m → w 49 (5 * i + m) = if m < k then scR A p t i m else A i m) ?_ ?_
    · rintro k w k0 k1 ⟨f, g⟩ ih
      have hk : zrg n k := ⟨k0, k1⟩
      have hz1 : w 40 1 = n := by rw [zfr_c f (by decide)]; exact hz
      have e1 : zw (zw (5 * p) + k) = 5 * p + k := by simp (disch := omega) only [zw_e]
      have eA : w 49 (5 * p + k) = A p k := by rw [g p k hp hk, if_neg (by omega)]
      have b := hAb p k hp hk
      have pb := zmul_bd b ht
      have e2 : (zw (A p k * t)).tmod 31 = A p k * t % 31 := by rw [zw_e (by omega) (by omega), Int.tmod_eq_emod_of_nonneg pb.1]
      have ih2 := ih (zu w 49 (5 * p + k) (A p k * t % 31)) ⟨zfr_w f (by decide), fun i m hi hm => by
        rw [zu_d]
        by_cases e : 5 * i + m = 5 * p + k
        · unfold zrg at hi hm
          obtain ⟨rfl, rfl⟩ : i = p ∧ m = k := by omega
          rw [if_pos ⟨rfl, rfl⟩, if_pos (by omega)]
          unfold scR
          rw [if_pos rfl]
        · rw [if_neg (fun z => e z.2), g i m hi hm]
          by_cases a : m < k
          · rw [if_pos a, if_pos (show m < k + 1 by omega)]
          · rw [if_neg a]
            by_cases b : m < k + 1
            · rw [if_pos b]
              unfold scR
              rw [if_neg (by omega)]
            · rw [if_neg b]⟩
      rw [u155_3]
      simp only [k155_3, e155, k155_0, u155_41, k155_41, zO_nop, zO_goto, zO_iload_n0, zO_iload_n1, zO_iload_n2, zO_iload_n3, zO_iload, zO_lload_n0, zO_lload_n1, zO_lload_n2, zO_lload_n3, zO_lload, zO_aload_n0, zO_aload_n1, zO_aload_n2, zO_aload_n3, zO_aload, zO_istore_n0, zO_istore_n1, zO_istore_n2, zO_istore_n3, zO_istore, zO_astore_n0, zO_astore_n1, zO_astore_n2, zO_astore_n3, zO_astore, zO_lstore, zO_iinc, zO_iconst, zO_bipush, zO_sipush, zO_lconst0, zO_lconst1, zO_ldc, zO_ldc2_w, zO_iadd, zO_isub, zO_imul, zO_idiv, zO_irem, zO_ineg, zO_iand, zO_ior, zO_ixor, zO_ishl, zO_ishr, zO_iushr, zO_ladd, zO_lmul, zO_land, zO_lor, zO_lshl, zO_lcmp, zO_i2l, zO_l2i, zO_i2b, zO_dup0, zO_dup2, zO_dup200, zO_dup202, zO_dup220, zO_dup222, zO_ifCond_eq, zO_ifCond_ne, zO_ifCond_lt, zO_ifCond_ge, zO_ifCond_gt, zO_ifCond_le, zO_if_icmp_eq, zO_if_icmp_ne, zO_if_icmp_lt, zO_if_icmp_ge, zO_if_icmp_gt, zO_if_icmp_le, zO_getfield, zO_putfield, zO_iaload, zO_baload, zO_laload, zO_iastore, zO_bastore, zO_lastore, zO_arraylength, zO_invokevirtual, zO_lreturn, zO_areturn, zO_return_, zO_tableswitch, zO_lookupswitch, zO_is0, zO_is1, zO_is2, zO_is3, zO_is4, zO_is9, zO_is10, zO_is11, zO_is12, zO_ir1, zO_ir4, zB_c, zLd_0, zLd_s, zSt_c, zSt2_c, zU_c, zD_c, zY_c, zSw_n, zSw_c, zCall_c, zVirt_c, zP_0, zP_1, zP_2, zP_3, zP_4, zGet_n, zGet_z, zPut_n, zPut_z, zcw_n, zcw_0, zcw_1, zcw_2, List.length_cons, List.length_nil, List.take_succ_cons, List.take_zero, List.drop_succ_cons, List.drop_zero, List.reverse_cons, List.reverse_nil, List.nil_append, List.cons_append, List.append_nil, List.set_cons_zero, List.set_cons_succ, List.getD_cons_zero, List.getD_cons_succ, true_and, and_true, ne_eq, not_false_eq_true, not_true_eq_false, zif, Nat.reduceAdd, Nat.reduceLeDiff, Nat.reduceLT, Nat.reduceSub, Nat.reduceEqDiff, Nat.zero_le, Nat.lt_add_one, Nat.reduceMod, false_implies, true_implies, implies_true, forall_const, Int.reduceLE, Int.reduceLT, Int.reduceEq, Int.reduceNeg, ite10_0, ite10_1, zem, zem2, Classical.not_not, and_self, or_true, true_or, or_false, false_or, zT_39, zN_39, zGf_192_39, zGf_193_39, zGf_194_39, zPf_194_39, zGf_195_39, zGf_196_39, zGf_197_39, zGf_198_39, zPf_198_39, zGf_199_39, zPf_199_39, zGf_200_39, zPf_200_39, zGf_201_39, zGf_202_39, zPf_202_39, zGf_203_39, zGf_204_39, zPf_204_39, zGf_205_39, zGf_206_39, zGf_207_39, zGf_208_39, zGf_209_39, zGf_210_39, zGf_211_39, zGf_212_39, zGf_213_39, zGf_214_39, zPf_214_39, zGf_215_39, zGf_216_39, zAl_40, zAs_40, zAl_49, zAs_49, hz1, e1, eA, e2]
      rw [zw_e (z := k + 1) (by omega) (by omega)]
      refine ⟨fun _ => ?_, fun e => absurd k1 e⟩
      (repeat' (first | assumption | (with_reducible refine And.intro ?_ ?_) | (intro hh; first | subst hh | skip)))
      all_goals omega
    · rintro w ⟨f, g⟩
      have hz1 : w 40 1 = n := by rw [zfr_c f (by decide)]; exact hz
      rw [u155_3]
      simp only [k155_3, e155, k155_0, u155_41, k155_41, zO_nop, zO_goto, zO_iload_n0, zO_iload_n1, zO_iload_n2, zO_iload_n3, zO_iload, zO_lload_n0, zO_lload_n1, zO_lload_n2, zO_lload_n3, zO_lload, zO_aload_n0, zO_aload_n1, zO_aload_n2, zO_aload_n3, zO_aload, zO_istore_n0, zO_istore_n1, zO_istore_n2, zO_istore_n3, zO_istore, zO_astore_n0, zO_astore_n1, zO_astore_n2, zO_astore_n3, zO_astore, zO_lstore, zO_iinc, zO_iconst, zO_bipush, zO_sipush, zO_lconst0, zO_lconst1, zO_ldc, zO_ldc2_w, zO_iadd, zO_isub, zO_imul, zO_idiv, zO_irem, zO_ineg, zO_iand, zO_ior, zO_ixor, zO_ishl, zO_ishr, zO_iushr, zO_ladd, zO_lmul, zO_land, zO_lor, zO_lshl, zO_lcmp, zO_i2l, zO_l2i, zO_i2b, zO_dup0, zO_dup2, zO_dup200, zO_dup202, zO_dup220, zO_dup222, zO_ifCond_eq, zO_ifCond_ne, zO_ifCond_lt, zO_ifCond_ge, zO_ifCond_gt, zO_ifCond_le, zO_if_icmp_eq, zO_if_icmp_ne, zO_if_icmp_lt, zO_if_icmp_ge, zO_if_icmp_gt, zO_if_icmp_le, zO_getfield, zO_putfield, zO_iaload, zO_baload, zO_laload, zO_iastore, zO_bastore, zO_lastore, zO_arraylength, zO_invokevirtual, zO_lreturn, zO_areturn, zO_return_, zO_tableswitch, zO_lookupswitch, zO_is0, zO_is1, zO_is2, zO_is3, zO_is4, zO_is9, zO_is10, zO_is11, zO_is12, zO_ir1, zO_ir4, zB_c, zLd_0, zLd_s, zSt_c, zSt2_c, zU_c, zD_c, zY_c, zSw_n, zSw_c, zCall_c, zVirt_c, zP_0, zP_1, zP_2, zP_3, zP_4, zGet_n, zGet_z, zPut_n, zPut_z, zcw_n, zcw_0, zcw_1, zcw_2, List.length_cons, List.length_nil, List.take_succ_cons, List.take_zero, List.drop_succ_cons, List.drop_zero, List.reverse_cons, List.reverse_nil, List.nil_append, List.cons_append, List.append_nil, List.set_cons_zero, List.set_cons_succ, List.getD_cons_zero, List.getD_cons_succ, true_and, and_true, ne_eq, not_false_eq_true, not_true_eq_false, zif, Nat.reduceAdd, Nat.reduceLeDiff, Nat.reduceLT, Nat.reduceSub, Nat.reduceEqDiff, Nat.zero_le, Nat.lt_add_one, Nat.reduceMod, false_implies, true_implies, implies_true, forall_const, Int.reduceLE, Int.reduceLT, Int.reduceEq, Int.reduceNeg, ite10_0, ite10_1, zem, zem2, Classical.not_not, and_self, or_true, true_or, or_false, false_or, zT_39, zN_39, zGf_192_39, zGf_193_39, zGf_194_39, zPf_194_39, zGf_195_39, zGf_196_39, zGf_197_39, zGf_198_39, zPf_198_39, zGf_199_39, zPf_199_39, zGf_200_39, zPf_200_39, zGf_201_39, zGf_202_39, zPf_202_39, zGf_203_39, zGf_204_39, zPf_204_39, zGf_205_39, zGf_206_39, zGf_207_39, zGf_208_39, zGf_209_39, zGf_210_39, zGf_211_39, zGf_212_39, zGf_213_39, zGf_214_39, zPf_214_39, zGf_215_39, zGf_216_39, zAl_40, zAs_40, hz1]
      refine ⟨fun e => absurd e (by omega), fun _ => ?_⟩
      rw [← hQ]
      refine ⟨rfl, f, fun i m hi hm => ?_⟩
      rw [Int.zero_add, g i m hi hm, if_pos hm.2]
  simp only [e155, k155_0, zO_nop, zO_goto, zO_iload_n0, zO_iload_n1, zO_iload_n2, zO_iload_n3, zO_iload, zO_lload_n0, zO_lload_n1, zO_lload_n2, zO_lload_n3, zO_lload, zO_aload_n0, zO_aload_n1, zO_aload_n2, zO_aload_n3, zO_aload, zO_istore_n0, zO_istore_n1, zO_istore_n2, zO_istore_n3, zO_istore, zO_astore_n0, zO_astore_n1, zO_astore_n2, zO_astore_n3, zO_astore, zO_lstore, zO_iinc, zO_iconst, zO_bipush, zO_sipush, zO_lconst0, zO_lconst1, zO_ldc, zO_ldc2_w, zO_iadd, zO_isub, zO_imul, zO_idiv, zO_irem, zO_ineg, zO_iand, zO_ior, zO_ixor, zO_ishl, zO_ishr, zO_iushr, zO_ladd, zO_lmul, zO_land, zO_lor, zO_lshl, zO_lcmp, zO_i2l, zO_l2i, zO_i2b, zO_dup0, zO_dup2, zO_dup200, zO_dup202, zO_dup220, zO_dup222, zO_ifCond_eq, zO_ifCond_ne, zO_ifCond_lt, zO_ifCond_ge, zO_ifCond_gt, zO_ifCond_le, zO_if_icmp_eq, zO_if_icmp_ne, zO_if_icmp_lt, zO_if_icmp_ge, zO_if_icmp_gt, zO_if_icmp_le, zO_getfield, zO_putfield, zO_iaload, zO_baload, zO_laload, zO_iastore, zO_bastore, zO_lastore, zO_arraylength, zO_invokevirtual, zO_lreturn, zO_areturn, zO_return_, zO_tableswitch, zO_lookupswitch, zO_is0, zO_is1, zO_is2, zO_is3, zO_is4, zO_is9, zO_is10, zO_is11, zO_is12, zO_ir1, zO_ir4, zB_c, zLd_0, zLd_s, zSt_c, zSt2_c, zU_c, zD_c, zY_c, zSw_n, zSw_c, zCall_c, zVirt_c, zP_0, zP_1, zP_2, zP_3, zP_4, zGet_n, zGet_z, zPut_n, zPut_z, zcw_n, zcw_0, zcw_1, zcw_2, List.length_cons, List.length_nil, List.take_succ_cons, List.take_zero, List.drop_succ_cons, List.drop_zero, List.reverse_cons, List.reverse_nil, List.nil_append, List.cons_append, List.append_nil, List.set_cons_zero, List.set_cons_succ, List.getD_cons_zero, List.getD_cons_succ, true_and, and_true, ne_eq, not_false_eq_true, not_true_eq_false, zif, Nat.reduceAdd, Nat.reduceLeDiff, Nat.reduceLT, Nat.reduceSub, Nat.reduceEqDiff, Nat.zero_le, Nat.lt_add_one, Nat.reduceMod, false_implies, true_implies, implies_true, forall_const, Int.reduceLE, Int.reduceLT, Int.reduceEq, Int.reduceNeg, ite10_0, ite10_1, zem, zem2, Classical.not_not, and_self, or_true, true_or, or_false, false_or]
  refine hl 0 μ (by omega) (by omega) ⟨zfr_rf, fun i m hi hm => ?_⟩
  have := hA i m hi hm
  rw [Int.zero_add] at this
  rw [if_neg (by have := hm.1; omega), this]
theorem L_takesOff49 {d : Nat} {n p q t : Int} {A : Int → Int → Int} {μ : zM} (hn : 1 ≤ n ∧ n ≤ 5) (hz : μ 40 1 = n) (hp : zrg n p) (hq : zrg n q) (ht : 0 ≤ t ∧ t ≤ 30) (hA : mTb 49 0 n A μ) (hAb : mBd n A) : zC (d + 1) 156 [(2, 39), (2, 49), (0, p), (0, q), (0, t)] μ (fun x u => x = 0 ∧ zfr [(49, -1)] μ u ∧ mTb 49 0 n (adR A p q (31 - t)) u) := by
  generalize hQ : (fun (x : Int) (u : zM) => x = 0 ∧ zfr [(49, -1)] μ u ∧ mTb 49 0 n (adR A p q (31 - t)) u) = Q
  have p0 := hp.1
  have p1 := hp.2
  have q0 := hq.1
  have q1 := hq.2
  have hl : ∀ k w, 0 ≤ k → k ≤ n → (zfr [(49, -1)] μ w ∧ ∀ i m, zrg n i → zrg n m → w 49 (5 * i + m) = if m < k then adR A p q (31 - t) i m else A i m) → zR d 156 Q 3 [(2, 39), (2, 49), (0, p), (0, q), (0, t), (0, k)] [] w := by
    refine zloop (n := n) (Inv := fun k w => zfr [(49, -1)] μ w ∧ ∀ i m, zrg n i → zrg n m → w 49 (5 * i + m) = if m < k then adR A p q (31 - t) i m else A i m) ?_ ?_
    · rintro k w k0 k1 ⟨f, g⟩ ih
      have hk : zrg n k := ⟨k0, k1⟩
      have hz1 : w 40 1 = n := by rw [zfr_c f (by decide)]; exact hz
      have e1 : zw (zw (5 * p) + k) = 5 * p + k := by simp (disch := omega) only [zw_e]
      have e3 : zw (zw (5 * q) + k) = 5 * q + k := by simp (disch := omega) only [zw_e]
      have e4 : zw (31 - t) = 31 - t := zw_e (by omega) (by omega)
      have eA : w 49 (5 * p + k) = A p k := by rw [g p k hp hk, if_neg (by omega)]
      have eB : w 49 (5 * q + k) = A q k := by rw [g q k hq hk, if_neg (by omega)]
      have e2 := adR_e (t := 31 - t) hAb hp hq (by omega) hk
      have ih2 := ih (zu w 49 (5 * p + k) ((A p k + (31 - t) * A q k) % 31)) ⟨zfr_w f (by decide), fun i m hi hm => by
        rw [zu_d]
        by_cases e : 5 * i + m = 5 * p + k
        · unfold zrg at hi hm
          obtain ⟨rfl, rfl⟩ : i = p ∧ m = k := by omega
          rw [if_pos ⟨rfl, rfl⟩, if_pos (by omega)]
          unfold adR
          rw [if_pos rfl]
        · rw [if_neg (fun z => e z.2), g i m hi hm]
          by_cases a : m < k
          · rw [if_pos a, if_pos (show m < k + 1 by omega)]
          · rw [if_neg a]
            by_cases b : m < k + 1
            · rw [if_pos b]
              unfold adR
              rw [if_neg (by omega)]
            · rw [if_neg b]⟩
      rw [u156_3]
      simp only [k156_3, e156, k156_0, u156_54, k156_54, zO_nop, zO_goto, zO_iload_n0, zO_iload_n1, zO_iload_n2, zO_iload_n3, zO_iload, zO_lload_n0, zO_lload_n1, zO_lload_n2, zO_lload_n3, zO_lload, zO_aload_n0, zO_aload_n1, zO_aload_n2, zO_aload_n3, zO_aload, zO_istore_n0, zO_istore_n1, zO_istore_n2, zO_istore_n3, zO_istore, zO_astore_n0, zO_astore_n1, zO_astore_n2, zO_astore_n3, zO_astore, zO_lstore, zO_iinc, zO_iconst, zO_bipush, zO_sipush, zO_lconst0, zO_lconst1, zO_ldc, zO_ldc2_w, zO_iadd, zO_isub, zO_imul, zO_idiv, zO_irem, zO_ineg, zO_iand, zO_ior, zO_ixor, zO_ishl, zO_ishr, zO_iushr, zO_ladd, zO_lmul, zO_land, zO_lor, zO_lshl, zO_lcmp, zO_i2l, zO_l2i, zO_i2b, zO_dup0, zO_dup2, zO_dup200, zO_dup202, zO_dup220, zO_dup222, zO_ifCond_eq, zO_ifCond_ne, zO_ifCond_lt, zO_ifCond_ge, zO_ifCond_gt, zO_ifCond_le, zO_if_icmp_eq, zO_if_icmp_ne, zO_if_icmp_lt, zO_if_icmp_ge, zO_if_icmp_gt, zO_if_icmp_le, zO_getfield, zO_putfield, zO_iaload, zO_baload, zO_laload, zO_iastore, zO_bastore, zO_lastore, zO_arraylength, zO_invokevirtual, zO_lreturn, zO_areturn, zO_return_, zO_tableswitch, zO_lookupswitch, zO_is0, zO_is1, zO_is2, zO_is3, zO_is4, zO_is9, zO_is10, zO_is11, zO_is12, zO_ir1, zO_ir4, zB_c, zLd_0, zLd_s, zSt_c, zSt2_c, zU_c, zD_c, zY_c, zSw_n, zSw_c, zCall_c, zVirt_c, zP_0, zP_1, zP_2, zP_3, zP_4, zGet_n, zGet_z, zPut_n, zPut_z, zcw_n, zcw_0, zcw_1, zcw_2, List.length_cons, List.length_nil, List.take_succ_cons, List.take_zero, List.drop_succ_cons, List.drop_zero, List.reverse_cons, List.reverse_nil, List.nil_append, List.cons_append, List.append_nil, List.set_cons_zero, List.set_cons_succ, List.getD_cons_zero, List.getD_cons_succ, true_and, and_true, ne_eq, not_false_eq_true, not_true_eq_false, zif, Nat.reduceAdd, Nat.reduceLeDiff, Nat.reduceLT, Nat.reduceSub, Nat.reduceEqDiff, Nat.zero_le, Nat.lt_add_one, Nat.reduceMod, false_implies, true_implies, implies_true, forall_const, Int.reduceLE, Int.reduceLT, Int.reduceEq, Int.reduceNeg, ite10_0, ite10_1, zem, zem2, Classical.not_not, and_self, or_true, true_or, or_false, false_or, zT_39, zN_39, zGf_192_39, zGf_193_39, zGf_194_39, zPf_194_39, zGf_195_39, zGf_196_39, zGf_197_39, zGf_198_39, zPf_198_39, zGf_199_39, zPf_199_39, zGf_200_39, zPf_200_39, zGf_201_39, zGf_202_39, zPf_202_39, zGf_203_39, zGf_204_39, zPf_204_39, zGf_205_39, zGf_206_39, zGf_207_39, zGf_208_39, zGf_209_39, zGf_210_39, zGf_211_39, zGf_212_39, zGf_213_39, zGf_214_39, zPf_214_39, zGf_215_39, zGf_216_39, zAl_40, zAs_40, zAl_49, zAs_49, hz1, e1, e3, e4, eA, eB, e2]
      rw [zw_e (z := k + 1) (by omega) (by omega)]
      refine ⟨fun _ => ?_, fun e => absurd k1 e⟩
      (repeat' (first | assumption | (with_reducible refine And.intro ?_ ?_) | (intro hh; first | subst hh | skip)))
      all_goals omega
    · rintro w ⟨f, g⟩
      have hz1 : w 40 1 = n := by rw [zfr_c f (by decide)]; exact hz
      rw [u156_3]
      simp only [k156_3, e156, k156_0, u156_54, k156_54, zO_nop, zO_goto, zO_iload_n0, zO_iload_n1, zO_iload_n2, zO_iload_n3, zO_iload, zO_lload_n0, zO_lload_n1, zO_lload_n2, zO_lload_n3, zO_lload, zO_aload_n0, zO_aload_n1, zO_aload_n2, zO_aload_n3, zO_aload, zO_istore_n0, zO_istore_n1, zO_istore_n2, zO_istore_n3, zO_istore, zO_astore_n0, zO_astore_n1, zO_astore_n2, zO_astore_n3, zO_astore, zO_lstore, zO_iinc, zO_iconst, zO_bipush, zO_sipush, zO_lconst0, zO_lconst1, zO_ldc, zO_ldc2_w, zO_iadd, zO_isub, zO_imul, zO_idiv, zO_irem, zO_ineg, zO_iand, zO_ior, zO_ixor, zO_ishl, zO_ishr, zO_iushr, zO_ladd, zO_lmul, zO_land, zO_lor, zO_lshl, zO_lcmp, zO_i2l, zO_l2i, zO_i2b, zO_dup0, zO_dup2, zO_dup200, zO_dup202, zO_dup220, zO_dup222, zO_ifCond_eq, zO_ifCond_ne, zO_ifCond_lt, zO_ifCond_ge, zO_ifCond_gt, zO_ifCond_le, zO_if_icmp_eq, zO_if_icmp_ne, zO_if_icmp_lt, zO_if_icmp_ge, zO_if_icmp_gt, zO_if_icmp_le, zO_getfield, zO_putfield, zO_iaload, zO_baload, zO_laload, zO_iastore, zO_bastore, zO_lastore, zO_arraylength, zO_invokevirtual, zO_lreturn, zO_areturn, zO_return_, zO_tableswitch, zO_lookupswitch, zO_is0, zO_is1, zO_is2, zO_is3, zO_is4, zO_is9, zO_is10, zO_is11, zO_is12, zO_ir1, zO_ir4, zB_c, zLd_0, zLd_s, zSt_c, zSt2_c, zU_c, zD_c, zY_c, zSw_n, zSw_c, zCall_c, zVirt_c, zP_0, zP_1, zP_2, zP_3, zP_4, zGet_n, zGet_z, zPut_n, zPut_z, zcw_n, zcw_0, zcw_1, zcw_2, List.length_cons, List.length_nil, List.take_succ_cons, List.take_zero, List.drop_succ_cons, List.drop_zero, List.reverse_cons, List.reverse_nil, List.nil_append, List.cons_append, List.append_nil, List.set_cons_zero, List.set_cons_succ, List.getD_cons_zero, List.getD_cons_succ, true_and, and_true, ne_eq, not_false_eq_true, not_true_eq_false, zif, Nat.reduceAdd, Nat.reduceLeDiff, Nat.reduceLT, Nat.reduceSub, Nat.reduceEqDiff, Nat.zero_le, Nat.lt_add_one, Nat.reduceMod, false_implies, true_implies, implies_true, forall_const, Int.reduceLE, Int.reduceLT, Int.reduceEq, Int.reduceNeg, ite10_0, ite10_1, zem, zem2, Classical.not_not, and_self, or_true, true_or, or_false, false_or, zT_39, zN_39, zGf_192_39, zGf_193_39, zGf_194_39, zPf_194_39, zGf_195_39, zGf_196_39, zGf_197_39, zGf_198_39, zPf_198_39, zGf_199_39, zPf_199_39, zGf_200_39, zPf_200_39, zGf_201_39, zGf_202_39, zPf_202_39, zGf_203_39, zGf_204_39, zPf_204_39, zGf_205_39, zGf_206_39, zGf_207_39, zGf_208_39, zGf_209_39, zGf_210_39, zGf_211_39, zGf_212_39, zGf_213_39, zGf_214_39, zPf_214_39, zGf_215_39, zGf_216_39, zAl_40, zAs_40, hz1]
      refine ⟨fun e => absurd e (by omega), fun _ => ?_⟩
      rw [← hQ]
      refine ⟨rfl, f, fun i m hi hm => ?_⟩
      rw [Int.zero_add, g i m hi hm, if_pos hm.2]
  simp only [e156, k156_0, zO_nop, zO_goto, zO_iload_n0, zO_iload_n1, zO_iload_n2, zO_iload_n3, zO_iload, zO_lload_n0, zO_lload_n1, zO_lload_n2, zO_lload_n3, zO_lload, zO_aload_n0, zO_aload_n1, zO_aload_n2, zO_aload_n3, zO_aload, zO_istore_n0, zO_istore_n1, zO_istore_n2, zO_istore_n3, zO_istore, zO_astore_n0, zO_astore_n1, zO_astore_n2, zO_astore_n3, zO_astore, zO_lstore, zO_iinc, zO_iconst, zO_bipush, zO_sipush, zO_lconst0, zO_lconst1, zO_ldc, zO_ldc2_w, zO_iadd, zO_isub, zO_imul, zO_idiv, zO_irem, zO_ineg, zO_iand, zO_ior, zO_ixor, zO_ishl, zO_ishr, zO_iushr, zO_ladd, zO_lmul, zO_land, zO_lor, zO_lshl, zO_lcmp, zO_i2l, zO_l2i, zO_i2b, zO_dup0, zO_dup2, zO_dup200, zO_dup202, zO_dup220, zO_dup222, zO_ifCond_eq, zO_ifCond_ne, zO_ifCond_lt, zO_ifCond_ge, zO_ifCond_gt, zO_ifCond_le, zO_if_icmp_eq, zO_if_icmp_ne, zO_if_icmp_lt, zO_if_icmp_ge, zO_if_icmp_gt, zO_if_icmp_le, zO_getfield, zO_putfield, zO_iaload, zO_baload, zO_laload, zO_iastore, zO_bastore, zO_lastore, zO_arraylength, zO_invokevirtual, zO_lreturn, zO_areturn, zO_return_, zO_tableswitch, zO_lookupswitch, zO_is0, zO_is1, zO_is2, zO_is3, zO_is4, zO_is9, zO_is10, zO_is11, zO_is12, zO_ir1, zO_ir4, zB_c, zLd_0, zLd_s, zSt_c, zSt2_c, zU_c, zD_c, zY_c, zSw_n, zSw_c, zCall_c, zVirt_c, zP_0, zP_1, zP_2, zP_3, zP_4, zGet_n, zGet_z, zPut_n, zPut_z, zcw_n, zcw_0, zcw_1, zcw_2, List.length_cons, List.length_nil, List.take_succ_cons, List.take_zero, List.drop_succ_cons, List.drop_zero, List.reverse_cons, List.reverse_nil, List.nil_append, List.cons_append, List.append_nil, List.set_cons_zero, List.set_cons_succ, List.getD_cons_zero, List.getD_cons_succ, true_and, and_true, ne_eq, not_false_eq_true, not_true_eq_false, zif, Nat.reduceAdd, Nat.reduceLeDiff, Nat.reduceLT, Nat.reduceSub, Nat.reduceEqDiff, Nat.zero_le, Nat.lt_add_one, Nat.reduceMod, false_implies, true_implies, implies_true, forall_const, Int.reduceLE, Int.reduceLT, Int.reduceEq, Int.reduceNeg, ite10_0, ite10_1, zem, zem2, Classical.not_not, and_self, or_true, true_or, or_false, false_or]
  refine hl 0 μ (by omega) (by omega) ⟨zfr_rf, fun i m hi hm => ?_⟩
  have := hA i m hi hm
  rw [Int.zero_add] at this
  rw [if_neg (by have := hm.1; omega), this]
