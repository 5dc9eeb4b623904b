/-! SMALL LISTS: rules of three SORTS -/
def noC (N : Int → Int → Int → Int) (n : Int) : Prop := ∀ i j k l, zrg n i → zrg n j → zrg n k → zrg n l → ¬ clM N n i j k l
theorem isC_no {N : Int → Int → Int → Int} {n r : Int} (h : isC N n r) : r = -5 ↔ noC N n := by
  rcases h with ⟨e, g⟩ | ⟨i, j, k, l, g1, g2, g3, g4, g5, g6, g7⟩
  · exact ⟨fun _ => g, fun _ => e⟩
  · unfold zrg at g1 g2 g3 g4
    exact ⟨fun e => by omega, fun e => absurd g5 (e i j k l g1 g2 g3 g4)⟩
theorem noC_ext {N M : Int → Int → Int → Int} {n : Int} (h : ∀ i j k, zrg n i → zrg n j → zrg n k → N i j k = M i j k) : noC N n ↔ noC M n :=
  ⟨fun g i j k l a b c d q => g i j k l a b c d ((clM_ext h a b c d).mpr q), fun g i j k l a b c d q => g i j k l a b c d ((clM_ext h a b c d).mp q)⟩
def smN (p q r s i j k : Int) : Int := if i = 0 ∨ j = 0 then (if k = i + j then 1 else 0) else if i = 1 ∧ j = 1 then (if k = 0 then 1 else if k = 1 then p else q) else if i = 2 ∧ j = 2 then (if k = 0 then 1 else if k = 1 then r else s) else (if k = 0 then 0 else if k = 1 then q else r)
theorem smN_b {p q r s : Int} (hp : 0 ≤ p ∧ p ≤ 9) (hq : 0 ≤ q ∧ q ≤ 9) (hr : 0 ≤ r ∧ r ≤ 9) (hs : 0 ≤ s ∧ s ≤ 9) : zNb 3 (smN p q r s) := by
  intro i j k _ _ _
  unfold smN
  grind
theorem smN_p {p q r s : Int} : zNp 3 (smN p q r s) := by
  intro a c _ _
  unfold smN
  rw [if_pos (Or.inl rfl), if_pos (Or.inr rfl)]
  simp
theorem K_becomeGiven {d : Nat} {i j o x y : Int} {μ : zM} {P : Int → zM → Prop} (hi : 0 ≤ i ∧ i ≤ 4) (hj : 0 ≤ j ∧ j ≤ 4) : zC (d + 2) 18 [(2, 17), (0, i), (0, j), (0, o), (0, x), (0, y)] μ P ↔ P 0 (zu (zu (zu (zu (zu (zu μ 18 (25 * i + 5 * j + 0) o) 18 (25 * i + 5 * j + 1) x) 18 (25 * i + 5 * j + 2) y) 18 (25 * j + 5 * i + 0) o) 18 (25 * j + 5 * i + 1) x) 18 (25 * j + 5 * i + 2) y) := by
  simp only [e18, k18_0, zO_nop, zO_goto, zO_iload_n0, zO_iload_n1, zO_iload_n2, zO_iload_n3, zO_iload, zO_lload_n0, zO_lload_n1, zO_lload_n2, zO_lload_n3, zO_lload, zO_aload_n0, zO_aload_n1, zO_aload_n2, zO_aload_n3, zO_aload, zO_istore_n0, zO_istore_n1, zO_istore_n2, zO_istore_n3, zO_istore, zO_astore_n0, zO_astore_n1, zO_astore_n2, zO_astore_n3, zO_astore, zO_lstore, zO_iinc, zO_iconst, zO_bipush, zO_sipush, zO_lconst0, zO_lconst1, zO_ldc, zO_ldc2_w, zO_iadd, zO_isub, zO_imul, zO_idiv, zO_irem, zO_ineg, zO_iand, zO_ior, zO_ixor, zO_ishl, zO_ishr, zO_iushr, zO_ladd, zO_lmul, zO_land, zO_lor, zO_lshl, zO_lcmp, zO_i2l, zO_l2i, zO_i2b, zO_dup0, zO_dup2, zO_dup200, zO_dup202, zO_dup220, zO_dup222, zO_ifCond_eq, zO_ifCond_ne, zO_ifCond_lt, zO_ifCond_ge, zO_ifCond_gt, zO_ifCond_le, zO_if_icmp_eq, zO_if_icmp_ne, zO_if_icmp_lt, zO_if_icmp_ge, zO_if_icmp_gt, zO_if_icmp_le, zO_getfield, zO_putfield, zO_iaload, zO_baload, zO_laload, zO_iastore, zO_bastore, zO_lastore, zO_arraylength, zO_invokevirtual, zO_lreturn, zO_areturn, zO_return_, zO_tableswitch, zO_lookupswitch, zO_is0, zO_is1, zO_is2, zO_is3, zO_is4, zO_is9, zO_is10, zO_is11, zO_is12, zO_ir1, zO_ir4, zB_c, zLd_0, zLd_s, zSt_c, zSt2_c, zU_c, zD_c, zY_c, zSw_n, zSw_c, zCall_c, zVirt_c, zP_0, zP_1, zP_2, zP_3, zP_4, zGet_n, zGet_z, zPut_n, zPut_z, zcw_n, zcw_0, zcw_1, zcw_2, List.length_cons, List.length_nil, List.take_succ_cons, List.take_zero, List.drop_succ_cons, List.drop_zero, List.reverse_cons, List.reverse_nil, List.nil_append, List.cons_append, List.append_nil, List.set_cons_zero, List.set_cons_succ, List.getD_cons_zero, List.getD_cons_succ, true_and, and_true, ne_eq, not_false_eq_true, not_true_eq_false, zif, Nat.reduceAdd, Nat.reduceLeDiff, Nat.reduceLT, Nat.reduceSub, Nat.reduceEqDiff, Nat.zero_le, Nat.lt_add_one, Nat.reduceMod, false_implies, true_implies, implies_true, forall_const, Int.reduceLE, Int.reduceLT, Int.reduceEq, Int.reduceNeg, ite10_0, ite10_1, zem, zem2, Classical.not_not, and_self, or_true, true_or, or_false, false_or, zT_17, zN_17, zGf_32_17, zPf_32_17, zGf_33_17, zAl_18, zAs_18, K_place hi hj (show 0 ≤ (0 : Int) ∧ (0 : Int) ≤ 4 by omega), K_place hi hj (show 0 ≤ (1 : Int) ∧ (1 : Int) ≤ 4 by omega), K_place hi hj (show 0 ≤ (2 : Int) ∧ (2 : Int) ≤ 4 by omega), K_place hj hi (show 0 ≤ (0 : Int) ∧ (0 : Int) ≤ 4 by omega), K_place hj hi (show 0 ≤ (1 : Int) ∧ (1 : Int) ≤ 4 by omega), K_place hj hi (show 0 ≤ (2 : Int) ∧ (2 : Int) ≤ 4 by omega)]
  refine ⟨fun h => ?_, fun h => ?_⟩
  · obtain ⟨_, _, _, _, _, _, _, _, _, _, _, _, h⟩ := h
    exact h
  · (repeat' (first | assumption | (with_reducible refine And.intro ?_ ?_) | (intro hh; first | subst hh | skip)))
    all_goals omega
theorem K_becomeSmall {d : Nat} {p q r s : Int} {μ : zM} : zC (d + 3) 17 [(2, 17), (0, p), (0, q), (0, r), (0, s)] μ (fun x u => x = 0 ∧ zfr [(17, -1), (18, -1)] μ u ∧ u 17 0 = 3 ∧ zFu 18 3 (smN p q r s) u) := by
  generalize hQ : (fun (x : Int) (u : zM) => x = 0 ∧ zfr [(17, -1), (18, -1)] μ u ∧ u 17 0 = 3 ∧ zFu 18 3 (smN p q r s) u) = Q
  have G3 : ∀ {i j o x y : Int} {w : zM} {P : Int → zM → Prop}, 0 ≤ i ∧ i ≤ 4 → 0 ≤ j ∧ j ≤ 4 → (∀ u, zfr [(18, -1)] w u → (∀ a, u 18 a = if a = 25 * i + 5 * j ∨ a = 25 * j + 5 * i then o else if a = 25 * i + 5 * j + 1 ∨ a = 25 * j + 5 * i + 1 then x else if a = 25 * i + 5 * j + 2 ∨ a = 25 * j + 5 * i + 2 then y else w 18 a) → P 0 u) → zC (d + 2) 18 [(2, 17), (0, i), (0, j), (0, o), (0, x), (0, y)] w P := by
    intro i j o x y w P hi hj hP
    rw [K_becomeGiven hi hj]
    refine hP _ (zfr_w (zfr_w (zfr_w (zfr_w (zfr_w (zfr_w zfr_rf (by decide)) (by decide)) (by decide)) (by decide)) (by decide)) (by decide)) (fun a => ?_)
    simp only [zu_d, true_and, Int.add_zero]
    grind
  have PL : ∀ {i j k : Int} {w : zM} {P : Int → zM → Prop}, 0 ≤ i ∧ i ≤ 4 → 0 ≤ j ∧ j ≤ 4 → (zC (d + 2) 13 [(0, i), (0, j), (0, k)] w P ↔ P (if k = i + j then 1 else 0) w) := fun hi hj => K_plain (d := d + 1) hi hj
  have tail : ∀ w, zfr [(17, -1), (18, -1)] μ w → w 17 0 = 3 → (∀ b c, zrg 3 b → zrg 3 c → w 18 (5 * b + c) = (if c = b then 1 else 0) ∧ w 18 (25 * b + c) = (if c = b then 1 else 0)) → zR (d + 2) 17 Q 8 [(2, 17), (0, p), (0, q), (0, r), (0, s), (0, 3)] [] w := by
    intro w f h17 hw
    rw [u17_8]
    simp only [k17_8, e17, k17_0, u17_51, k17_51, zO_nop, zO_goto, zO_iload_n0, zO_iload_n1, zO_iload_n2, zO_iload_n3, zO_iload, zO_lload_n0, zO_lload_n1, zO_lload_n2, zO_lload_n3, zO_lload, zO_aload_n0, zO_aload_n1, zO_aload_n2, zO_aload_n3, zO_aload, zO_istore_n0, zO_istore_n1, zO_istore_n2, zO_istore_n3, zO_istore, zO_astore_n0, zO_astore_n1, zO_astore_n2, zO_astore_n3, zO_astore, zO_lstore, zO_iinc, zO_iconst, zO_bipush, zO_sipush, zO_lconst0, zO_lconst1, zO_ldc, zO_ldc2_w, zO_iadd, zO_isub, zO_imul, zO_idiv, zO_irem, zO_ineg, zO_iand, zO_ior, zO_ixor, zO_ishl, zO_ishr, zO_iushr, zO_ladd, zO_lmul, zO_land, zO_lor, zO_lshl, zO_lcmp, zO_i2l, zO_l2i, zO_i2b, zO_dup0, zO_dup2, zO_dup200, zO_dup202, zO_dup220, zO_dup222, zO_ifCond_eq, zO_ifCond_ne, zO_ifCond_lt, zO_ifCond_ge, zO_ifCond_gt, zO_ifCond_le, zO_if_icmp_eq, zO_if_icmp_ne, zO_if_icmp_lt, zO_if_icmp_ge, zO_if_icmp_gt, zO_if_icmp_le, zO_getfield, zO_putfield, zO_iaload, zO_baload, zO_laload, zO_iastore, zO_bastore, zO_lastore, zO_arraylength, zO_invokevirtual, zO_lreturn, zO_areturn, zO_return_, zO_tableswitch, zO_lookupswitch, zO_is0, zO_is1, zO_is2, zO_is3, zO_is4, zO_is9, zO_is10, zO_is11, zO_is12, zO_ir1, zO_ir4, zB_c, zLd_0, zLd_s, zSt_c, zSt2_c, zU_c, zD_c, zY_c, zSw_n, zSw_c, zCall_c, zVirt_c, zP_0, zP_1, zP_2, zP_3, zP_4, zGet_n, zGet_z, zPut_n, zPut_z, zcw_n, zcw_0, zcw_1, zcw_2, List.length_cons, List.length_nil, List.take_succ_cons, List.take_zero, List.drop_succ_cons, List.drop_zero, List.reverse_cons, List.reverse_nil, List.nil_append, List.cons_append, List.append_nil, List.set_cons_zero, List.set_cons_succ, List.getD_cons_zero, List.getD_cons_succ, true_and, and_true, ne_eq, not_false_eq_true, not_true_eq_false, zif, Nat.reduceAdd, Nat.reduceLeDiff, Nat.reduceLT, Nat.reduceSub, Nat.reduceEqDiff, Nat.zero_le, Nat.lt_add_one, Nat.reduceMod, false_implies, true_implies, implies_true, forall_const, Int.reduceLE, Int.reduceLT, Int.reduceEq, Int.reduceNeg, ite10_0, ite10_1, zem, zem2, Classical.not_not, and_self, or_true, true_or, or_false, false_or, zT_17, zN_17, zGf_32_17, zPf_32_17, zGf_33_17, zAl_18, zAs_18, h17]
    refine G3 (by omega) (by omega) (fun u1 f1 g1 => ?_)
    refine G3 (by omega) (by omega) (fun u2 f2 g2 => ?_)
    refine G3 (by omega) (by omega) (fun u3 f3 g3 => ?_)
    rw [← hQ]
    have fA : zfr [(18, -1)] w u3 := zfr_tr f1 (zfr_tr f2 f3)
    refine ⟨rfl, zfr_tr f (zfr_up fA (by decide)), by rw [zfr_c fA (by decide)]; exact h17, fun a b c ha hb hc => ?_⟩
    rw [g3, g2, g1]
    have hb2 := hw b c hb hc
    have ha2 := hw a c ha hc
    unfold zrg at ha hb hc
    unfold smN
    obtain ha | ha | ha : a = 0 ∨ a = 1 ∨ a = 2 := by omega
    all_goals obtain hb | hb | hb : b = 0 ∨ b = 1 ∨ b = 2 := by omega
    all_goals subst ha
    all_goals subst hb
    all_goals obtain hc | hc | hc : c = 0 ∨ c = 1 ∨ c = 2 := by omega
    all_goals subst hc
    all_goals simp at hb2 ha2 ⊢
    all_goals (try simp [ha2, hb2])
  have step : ∀ b w, zrg 3 b → zfr [(17, -1), (18, -1)] μ w → w 17 0 = 3 → (∀ u, zfr [(18, -1)] w u → (∀ c, 0 ≤ c → c < 3 → u 18 (5 * b + c) = (if c = b then 1 else 0) ∧ u 18 (25 * b + c) = (if c = b then 1 else 0)) → (∀ a, (∀ c, 0 ≤ c → c < 3 → ¬ a = 5 * b + c ∧ ¬ a = 25 * b + c) → u 18 a = w 18 a) → zR (d + 2) 17 Q 8 [(2, 17), (0, p), (0, q), (0, r), (0, s), (0, b + 1)] [] u) → zR (d + 2) 17 Q 8 [(2, 17), (0, p), (0, q), (0, r), (0, s), (0, b)] [] w := by
    intro b w hb f h17 hnext
    have b0 := hb.1
    have b1 := hb.2
    rw [u17_8]
    simp only [k17_8, e17, k17_0, u17_51, k17_51, zO_nop, zO_goto, zO_iload_n0, zO_iload_n1, zO_iload_n2, zO_iload_n3, zO_iload, zO_lload_n0, zO_lload_n1, zO_lload_n2, zO_lload_n3, zO_lload, zO_aload_n0, zO_aload_n1, zO_aload_n2, zO_aload_n3, zO_aload, zO_istore_n0, zO_istore_n1, zO_istore_n2, zO_istore_n3, zO_istore, zO_astore_n0, zO_astore_n1, zO_astore_n2, zO_astore_n3, zO_astore, zO_lstore, zO_iinc, zO_iconst, zO_bipush, zO_sipush, zO_lconst0, zO_lconst1, zO_ldc, zO_ldc2_w, zO_iadd, zO_isub, zO_imul, zO_idiv, zO_irem, zO_ineg, zO_iand, zO_ior, zO_ixor, zO_ishl, zO_ishr, zO_iushr, zO_ladd, zO_lmul, zO_land, zO_lor, zO_lshl, zO_lcmp, zO_i2l, zO_l2i, zO_i2b, zO_dup0, zO_dup2, zO_dup200, zO_dup202, zO_dup220, zO_dup222, zO_ifCond_eq, zO_ifCond_ne, zO_ifCond_lt, zO_ifCond_ge, zO_ifCond_gt, zO_ifCond_le, zO_if_icmp_eq, zO_if_icmp_ne, zO_if_icmp_lt, zO_if_icmp_ge, zO_if_icmp_gt, zO_if_icmp_le, zO_getfield, zO_putfield, zO_iaload, zO_baload, zO_laload, zO_iastore, zO_bastore, zO_lastore, zO_arraylength, zO_invokevirtual, zO_lreturn, zO_areturn, zO_return_, zO_tableswitch, zO_lookupswitch, zO_is0, zO_is1, zO_is2, zO_is3, zO_is4, zO_is9, zO_is10, zO_is11, zO_is12, zO_ir1, zO_ir4, zB_c, zLd_0, zLd_s, zSt_c, zSt2_c, zU_c, zD_c, zY_c, zSw_n, zSw_c, zCall_c, zVirt_c, zP_0, zP_1, zP_2, zP_3, zP_4, zGet_n, zGet_z, zPut_n, zPut_z, zcw_n, zcw_0, zcw_1, zcw_2, List.length_cons, List.length_nil, List.take_succ_cons, List.take_zero, List.drop_succ_cons, List.drop_zero, List.reverse_cons, List.reverse_nil, List.nil_append, List.cons_append, List.append_nil, List.set_cons_zero, List.set_cons_succ, List.getD_cons_zero, List.getD_cons_succ, true_and, and_true, ne_eq, not_false_eq_true, not_true_eq_false, zif, Nat.reduceAdd, Nat.reduceLeDiff, Nat.reduceLT, Nat.reduceSub, Nat.reduceEqDiff, Nat.zero_le, Nat.lt_add_one, Nat.reduceMod, false_implies, true_implies, implies_true, forall_const, Int.reduceLE, Int.reduceLT, Int.reduceEq, Int.reduceNeg, ite10_0, ite10_1, zem, zem2, Classical.not_not, and_self, or_true, true_or, or_false, false_or, zT_17, zN_17, zGf_32_17, zPf_32_17, zGf_33_17, zAl_18, zAs_18, h17, PL (show 0 ≤ (0 : Int) ∧ (0 : Int) ≤ 4 by omega) (show 0 ≤ b ∧ b ≤ 4 by omega)]
    rw [zw_e (by omega) (by omega)]
    refine ⟨fun _ => G3 (by omega) (by omega) (fun u f1 g1 => hnext u f1 (fun c c0 c1 => ?_) (fun a ha => ?_)), fun e => absurd b1 e⟩
    · rw [g1, g1]
      refine ⟨?_, ?_⟩
      · grind
      · grind
    · have h0 := ha 0 (by omega) (by omega)
      have h1 := ha 1 (by omega) (by omega)
      have h2 := ha 2 (by omega) (by omega)
      rw [g1]
      rw [if_neg (by omega), if_neg (by omega), if_neg (by omega)]
  simp only [e17, k17_0, e17, k17_0, u17_51, k17_51, zO_nop, zO_goto, zO_iload_n0, zO_iload_n1, zO_iload_n2, zO_iload_n3, zO_iload, zO_lload_n0, zO_lload_n1, zO_lload_n2, zO_lload_n3, zO_lload, zO_aload_n0, zO_aload_n1, zO_aload_n2, zO_aload_n3, zO_aload, zO_istore_n0, zO_istore_n1, zO_istore_n2, zO_istore_n3, zO_istore, zO_astore_n0, zO_astore_n1, zO_astore_n2, zO_astore_n3, zO_astore, zO_lstore, zO_iinc, zO_iconst, zO_bipush, zO_sipush, zO_lconst0, zO_lconst1, zO_ldc, zO_ldc2_w, zO_iadd, zO_isub, zO_imul, zO_idiv, zO_irem, zO_ineg, zO_iand, zO_ior, zO_ixor, zO_ishl, zO_ishr, zO_iushr, zO_ladd, zO_lmul, zO_land, zO_lor, zO_lshl, zO_lcmp, zO_i2l, zO_l2i, zO_i2b, zO_dup0, zO_dup2, zO_dup200, zO_dup202, zO_dup220, zO_dup222, zO_ifCond_eq, zO_ifCond_ne, zO_ifCond_lt, zO_ifCond_ge, zO_ifCond_gt, zO_ifCond_le, zO_if_icmp_eq, zO_if_icmp_ne, zO_if_icmp_lt, zO_if_icmp_ge, zO_if_icmp_gt, zO_if_icmp_le, zO_getfield, zO_putfield, zO_iaload, zO_baload, zO_laload, zO_iastore, zO_bastore, zO_lastore, zO_arraylength, zO_invokevirtual, zO_lreturn, zO_areturn, zO_return_, zO_tableswitch, zO_lookupswitch, zO_is0, zO_is1, zO_is2, zO_is3, zO_is4, zO_is9, zO_is10, zO_is11, zO_is12, zO_ir1, zO_ir4, zB_c, zLd_0, zLd_s, zSt_c, zSt2_c, zU_c, zD_c, zY_c, zSw_n, zSw_c, zCall_c, zVirt_c, zP_0, zP_1, zP_2, zP_3, zP_4, zGet_n, zGet_z, zPut_n, zPut_z, zcw_n, zcw_0, zcw_1, zcw_2, List.length_cons, List.length_nil, List.take_succ_cons, List.take_zero, List.drop_succ_cons, List.drop_zero, List.reverse_cons, List.reverse_nil, List.nil_append, List.cons_append, List.append_nil, List.set_cons_zero, List.set_cons_succ, List.getD_cons_zero, List.getD_cons_succ, true_and, and_true, ne_eq, not_false_eq_true, not_true_eq_false, zif, Nat.reduceAdd, Nat.reduceLeDiff, Nat.reduceLT, Nat.reduceSub, Nat.reduceEqDiff, Nat.zero_le, Nat.lt_add_one, Nat.reduceMod, false_implies, true_implies, implies_true, forall_const, Int.reduceLE, Int.reduceLT, Int.reduceEq, Int.reduceNeg, ite10_0, ite10_1, zem, zem2, Classical.not_not, and_self, or_true, true_or, or_false, false_or, zT_17, zN_17, zGf_32_17, zPf_32_17, zGf_33_17, zAl_18, zAs_18]
  have f0 : zfr [(17, -1), (18, -1)] μ (zu μ 17 0 3) := zfr_w zfr_rf (by decide)
  refine step 0 _ ⟨by omega, by omega⟩ f0 (zu_at _ _ _ _) (fun u1 f1 g1 k1 => ?_)
  have e1 : u1 17 0 = 3 := by rw [zfr_c f1 (by decide), zu_at]
  refine step (0 + 1) u1 ⟨by omega, by omega⟩ (zfr_tr f0 (zfr_up f1 (by decide))) e1 (fun u2 f2 g2 k2 => ?_)
  have e2 : u2 17 0 = 3 := by rw [zfr_c f2 (by decide), e1]
  refine step (0 + 1 + 1) u2 ⟨by omega, by omega⟩ (zfr_tr (zfr_tr f0 (zfr_up f1 (by decide))) (zfr_up f2 (by decide))) e2 (fun u3 f3 g3 k3 => ?_)
  have e3 : u3 17 0 = 3 := by rw [zfr_c f3 (by decide), e2]
  refine tail u3 (zfr_tr (zfr_tr (zfr_tr f0 (zfr_up f1 (by decide))) (zfr_up f2 (by decide))) (zfr_up f3 (by decide))) e3 (fun b c hb hc => ?_)
  unfold zrg at hb hc
  obtain hb | hb | hb : b = 2 ∨ b = 1 ∨ b = 0 := by omega
  · subst hb
    exact g3 c hc.1 hc.2
  · subst hb
    rw [k3 (5 * 1 + c) (fun x x0 x1 => by omega), k3 (25 * 1 + c) (fun x x0 x1 => by omega)]
    exact g2 c hc.1 hc.2
  · subst hb
    have h2 := g1 c hc.1 hc.2
    by_cases q : c = 0
    · subst q
      rw [k3 _ (fun x x0 x1 => by omega), k3 _ (fun x x0 x1 => by omega), k2 _ (fun x x0 x1 => by omega), k2 _ (fun x x0 x1 => by omega)]
      exact h2
    · rw [k3 _ (fun x x0 x1 => by omega), k3 _ (fun x x0 x1 => by omega), k2 _ (fun x x0 x1 => by omega), k2 _ (fun x x0 x1 => by omega)]
      exact h2
