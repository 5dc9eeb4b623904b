/-! the tape: what is read off it, as functions; the class's small readers -/
def tB (T : Int → Int) (L p : Int) : Int := if p < L then T p else 0
def tN (T : Int → Int) (L : Int) : Nat → Int → Int → Int × Int
  | 0, v, p => (v, p)
  | k + 1, v, p => if 48 ≤ tB T L p ∧ tB T L p ≤ 57 then tN T L k (10 * v + (tB T L p - 48)) (p + 1) else (v, p)
def tM (T : Int → Int) (L lo : Int) (figs : Nat) (p : Int) : Int × Int := if 48 + lo ≤ tB T L p ∧ tB T L p ≤ 57 then tN T L figs 0 p else (1, p)
abbrev tL (T : Int → Int) (L n lo p : Int) : Prop := 97 + lo ≤ tB T L p ∧ tB T L p ≤ 96 + n
def tA (most s v : Int) (S : Int → Int) : Int → Int := fun x => if x = s then (if S s + v ≤ most then S s + v else most) else S x
abbrev tR : Type := Bool × Int × (Int → Int) × Int
def pT (T : Int → Int) (L n lo most : Int) (figs : Nat) : Nat → Int → (Int → Int) → Int → tR
  | 0, p, S, t => (false, p, S, t)
  | k + 1, p, S, t => if tL T L n 0 (tM T L lo figs p).2 then (if tB T L ((tM T L lo figs p).2 + 1) = 43 then pT T L n lo most figs k ((tM T L lo figs p).2 + 2) (tA most (tB T L (tM T L lo figs p).2 - 97) (tM T L lo figs p).1 S) (t + 1) else (true, (tM T L lo figs p).2 + 1, tA most (tB T L (tM T L lo figs p).2 - 97) (tM T L lo figs p).1 S, t + 1)) else (false, (tM T L lo figs p).2, S, t)
def pS (T : Int → Int) (L n lo most : Int) (figs : Nat) (p : Int) : tR := if tB T L p = 48 then (true, p + 1, fun _ => 0, 0) else pT T L n lo most figs 60 p (fun _ => 0) 0
def tT (T : Int → Int) (L : Int) (μ : zM) : Prop := (0 ≤ L ∧ L ≤ 60) ∧ μ 29 1 = L ∧ ∀ p, 0 ≤ p → p < L → μ 30 p = T p ∧ 1 ≤ T p ∧ T p ≤ 127
def tP (T : Int → Int) (L : Int) : Prop := (0 ≤ L ∧ L ≤ 60) ∧ ∀ p, 0 ≤ p → p < L → 1 ≤ T p ∧ T p ≤ 127
theorem tT_P {T : Int → Int} {L : Int} {μ : zM} (h : tT T L μ) : tP T L := ⟨h.1, fun p a b => (h.2.2 p a b).2⟩
theorem tB_bd {T : Int → Int} {L p : Int} (h : tP T L) (hp : 0 ≤ p) : (0 ≤ tB T L p ∧ tB T L p ≤ 127) ∧ (¬ tB T L p = 0 → p < L) := by
  unfold tB
  by_cases q : p < L
  · rw [if_pos q]
    have := h.2 p hp q
    exact ⟨by omega, fun _ => q⟩
  · rw [if_neg q]
    exact ⟨by omega, fun e => absurd rfl e⟩
def tV (k : Nat) (v : Int) : Prop := 0 ≤ v ∧ (k = 3 → v ≤ 0) ∧ (k = 2 → v ≤ 9) ∧ (k = 1 → v ≤ 99) ∧ v ≤ 999 ∧ k ≤ 3
theorem tN_bd {T : Int → Int} {L : Int} (h : tP T L) : ∀ (k : Nat) (v p : Int), tV k v → 0 ≤ p → p ≤ L → (0 ≤ (tN T L k v p).1 ∧ (tN T L k v p).1 ≤ 999) ∧ p ≤ (tN T L k v p).2 ∧ (tN T L k v p).2 ≤ L := by
  intro k
  induction k with
  | zero => intro v p hv p0 pL; unfold tV at hv; exact ⟨⟨hv.1, hv.2.2.2.2.1⟩, Int.le_refl _, pL⟩
  | succ k ih =>
    intro v p hv p0 pL
    have hb := tB_bd h p0
    unfold tN
    unfold tV at hv
    by_cases q : 48 ≤ tB T L p ∧ tB T L p ≤ 57
    · rw [if_pos q]
      have := hb.2 (by omega)
      have t := ih (10 * v + (tB T L p - 48)) (p + 1) (by unfold tV; omega) (by omega) (by omega)
      exact ⟨t.1, by omega, t.2.2⟩
    · rw [if_neg q]
      exact ⟨⟨hv.1, hv.2.2.2.2.1⟩, Int.le_refl _, pL⟩
theorem tM_bd {T : Int → Int} {L lo p : Int} {figs : Nat} (h : tP T L) (hf : figs ≤ 3) (p0 : 0 ≤ p) (pL : p ≤ L) : (0 ≤ (tM T L lo figs p).1 ∧ (tM T L lo figs p).1 ≤ 999) ∧ p ≤ (tM T L lo figs p).2 ∧ (tM T L lo figs p).2 ≤ L := by
  unfold tM
  by_cases q : 48 + lo ≤ tB T L p ∧ tB T L p ≤ 57
  · rw [if_pos q]
    exact tN_bd h figs 0 p (by unfold tV; omega) p0 pL
  · rw [if_neg q]
    show (0 ≤ (1 : Int) ∧ (1 : Int) ≤ 999) ∧ p ≤ p ∧ p ≤ L
    omega
theorem tT_fr {T : Int → Int} {L : Int} {μ w : zM} {S : List (Int × Int)} (h : tT T L μ) (f : zfr S μ w) (h1 : zfq S 29 1 = false) (h2 : 30 ∉ S.map Prod.fst) : tT T L w := ⟨h.1, by rw [f _ _ h1]; exact h.2.1, fun q a b => by rw [zfr_c f h2]; exact h.2.2 q a b⟩
theorem K_nextByte {d : Nat} {T : Int → Int} {L p : Int} {μ : zM} {P : Int → zM → Prop} (h : tT T L μ) (hp : μ 29 4 = p) (p0 : 0 ≤ p) : zC (d + 1) 38 [(2, 29)] μ P ↔ P (tB T L p) μ := by
  have hL := h.1
  have h1 := h.2.1
  simp only [e38, k38_0, u38_39, k38_39, u38_40, k38_40, zO_nop, zO_goto, zO_iload_n0, zO_iload_n1, zO_iload_n2, zO_iload_n3, zO_iload, zO_lload_n0, zO_lload_n1, zO_lload_n2, zO_lload_n3, zO_lload, zO_aload_n0, zO_aload_n1, zO_aload_n2, zO_aload_n3, zO_aload, zO_istore_n0, zO_istore_n1, zO_istore_n2, zO_istore_n3, zO_istore, zO_astore_n0, zO_astore_n1, zO_astore_n2, zO_astore_n3, zO_astore, zO_lstore, zO_iinc, zO_iconst, zO_bipush, zO_sipush, zO_lconst0, zO_lconst1, zO_ldc, zO_ldc2_w, zO_iadd, zO_isub, zO_imul, zO_idiv, zO_irem, zO_ineg, zO_iand, zO_ior, zO_ixor, zO_ishl, zO_ishr, zO_iushr, zO_ladd, zO_lmul, zO_land, zO_lor, zO_lshl, zO_lcmp, zO_i2l, zO_l2i, zO_i2b, zO_dup0, zO_dup2, zO_dup200, zO_dup202, zO_dup220, zO_dup222, zO_ifCond_eq, zO_ifCond_ne, zO_ifCond_lt, zO_ifCond_ge, zO_ifCond_gt, zO_ifCond_le, zO_if_icmp_eq, zO_if_icmp_ne, zO_if_icmp_lt, zO_if_icmp_ge, zO_if_icmp_gt, zO_if_icmp_le, zO_getfield, zO_putfield, zO_iaload, zO_baload, zO_laload, zO_iastore, zO_bastore, zO_lastore, zO_arraylength, zO_invokevirtual, zO_lreturn, zO_areturn, zO_return_, zO_tableswitch, zO_lookupswitch, zO_is0, zO_is1, zO_is2, zO_is3, zO_is4, zO_is9, zO_is10, zO_is11, zO_is12, zO_ir1, zO_ir4, zB_c, zLd_0, zLd_s, zSt_c, zSt2_c, zU_c, zD_c, zY_c, zSw_n, zSw_c, zCall_c, zVirt_c, zP_0, zP_1, zP_2, zP_3, zP_4, zGet_n, zGet_z, zPut_n, zPut_z, zcw_n, zcw_0, zcw_1, zcw_2, List.length_cons, List.length_nil, List.take_succ_cons, List.take_zero, List.drop_succ_cons, List.drop_zero, List.reverse_cons, List.reverse_nil, List.nil_append, List.cons_append, List.append_nil, List.set_cons_zero, List.set_cons_succ, List.getD_cons_zero, List.getD_cons_succ, true_and, and_true, ne_eq, not_false_eq_true, not_true_eq_false, zif, Nat.reduceAdd, Nat.reduceLeDiff, Nat.reduceLT, Nat.reduceSub, Nat.reduceEqDiff, Nat.zero_le, Nat.lt_add_one, Nat.reduceMod, false_implies, true_implies, implies_true, forall_const, Int.reduceLE, Int.reduceLT, Int.reduceEq, Int.reduceNeg, ite10_0, ite10_1, zem, zem2, Classical.not_not, and_self, or_true, true_or, or_false, false_or, zT_29, zN_29, zGf_96_29, zGf_97_29, zPf_97_29, zGf_98_29, zGf_99_29, zPf_99_29, zGf_100_29, zPf_100_29, zGf_101_29, zAl_30, zAs_30, hp, h1]
  unfold tB
  by_cases q : p < L
  · rw [if_pos q, ← (h.2.2 p p0 q).1]
    exact ⟨fun e => (((e.2 (by omega)).1 q).1 (by omega)).2.2, fun e => ⟨fun z => absurd z (by omega), fun _ => ⟨fun _ => ⟨fun _ => ⟨p0, by omega, e⟩, fun z => absurd (by omega) z⟩, fun z => absurd q z⟩⟩⟩
  · rw [if_neg q]
    exact ⟨fun e => (e.2 (by omega)).2 q, fun e => ⟨fun _ => e, fun _ => ⟨fun z => absurd z q, fun _ => e⟩⟩⟩
theorem K_passed {d : Nat} {T : Int → Int} {L p c : Int} {μ : zM} {P : Int → zM → Prop} (h : tT T L μ) (hp : μ 29 4 = p) (p0 : 0 ≤ p) (pL : p ≤ L) : zC (d + 2) 37 [(2, 29), (0, c)] μ P ↔ (tB T L p = c → P 1 (zu μ 29 4 (p + 1))) ∧ (¬ tB T L p = c → P 0 μ) := by
  have hL := h.1
  simp only [e37, k37_0, u37_10, k37_10, zO_nop, zO_goto, zO_iload_n0, zO_iload_n1, zO_iload_n2, zO_iload_n3, zO_iload, zO_lload_n0, zO_lload_n1, zO_lload_n2, zO_lload_n3, zO_lload, zO_aload_n0, zO_aload_n1, zO_aload_n2, zO_aload_n3, zO_aload, zO_istore_n0, zO_istore_n1, zO_istore_n2, zO_istore_n3, zO_istore, zO_astore_n0, zO_astore_n1, zO_astore_n2, zO_astore_n3, zO_astore, zO_lstore, zO_iinc, zO_iconst, zO_bipush, zO_sipush, zO_lconst0, zO_lconst1, zO_ldc, zO_ldc2_w, zO_iadd, zO_isub, zO_imul, zO_idiv, zO_irem, zO_ineg, zO_iand, zO_ior, zO_ixor, zO_ishl, zO_ishr, zO_iushr, zO_ladd, zO_lmul, zO_land, zO_lor, zO_lshl, zO_lcmp, zO_i2l, zO_l2i, zO_i2b, zO_dup0, zO_dup2, zO_dup200, zO_dup202, zO_dup220, zO_dup222, zO_ifCond_eq, zO_ifCond_ne, zO_ifCond_lt, zO_ifCond_ge, zO_ifCond_gt, zO_ifCond_le, zO_if_icmp_eq, zO_if_icmp_ne, zO_if_icmp_lt, zO_if_icmp_ge, zO_if_icmp_gt, zO_if_icmp_le, zO_getfield, zO_putfield, zO_iaload, zO_baload, zO_laload, zO_iastore, zO_bastore, zO_lastore, zO_arraylength, zO_invokevirtual, zO_lreturn, zO_areturn, zO_return_, zO_tableswitch, zO_lookupswitch, zO_is0, zO_is1, zO_is2, zO_is3, zO_is4, zO_is9, zO_is10, zO_is11, zO_is12, zO_ir1, zO_ir4, zB_c, zLd_0, zLd_s, zSt_c, zSt2_c, zU_c, zD_c, zY_c, zSw_n, zSw_c, zCall_c, zVirt_c, zP_0, zP_1, zP_2, zP_3, zP_4, zGet_n, zGet_z, zPut_n, zPut_z, zcw_n, zcw_0, zcw_1, zcw_2, List.length_cons, List.length_nil, List.take_succ_cons, List.take_zero, List.drop_succ_cons, List.drop_zero, List.reverse_cons, List.reverse_nil, List.nil_append, List.cons_append, List.append_nil, List.set_cons_zero, List.set_cons_succ, List.getD_cons_zero, List.getD_cons_succ, true_and, and_true, ne_eq, not_false_eq_true, not_true_eq_false, zif, Nat.reduceAdd, Nat.reduceLeDiff, Nat.reduceLT, Nat.reduceSub, Nat.reduceEqDiff, Nat.zero_le, Nat.lt_add_one, Nat.reduceMod, false_implies, true_implies, implies_true, forall_const, Int.reduceLE, Int.reduceLT, Int.reduceEq, Int.reduceNeg, ite10_0, ite10_1, zem, zem2, Classical.not_not, and_self, or_true, true_or, or_false, false_or, zT_29, zN_29, zGf_96_29, zGf_97_29, zPf_97_29, zGf_98_29, zGf_99_29, zPf_99_29, zGf_100_29, zPf_100_29, zGf_101_29, zAl_30, zAs_30, K_nextByte h hp p0, hp]
  rw [zw_e (z := p + 1) (by omega) (by omega)]
theorem K_readLetter {d : Nat} {T : Int → Int} {L n lo p : Int} {μ : zM} {P : Int → zM → Prop} (hn : 1 ≤ n ∧ n ≤ 5) (h : tT T L μ) (hp : μ 29 4 = p) (p0 : 0 ≤ p) (pL : p ≤ L) : zC (d + 2) 36 [(2, 29), (0, lo), (0, n)] μ P ↔ (tL T L n lo p → P (tB T L p - 97) (zu μ 29 4 (p + 1))) ∧ (¬ tL T L n lo p → P (-1) μ) := by
  have hL := h.1
  have hb := tB_bd (tT_P h) p0
  simp only [e36, k36_0, u36_23, k36_23, u36_25, k36_25, zO_nop, zO_goto, zO_iload_n0, zO_iload_n1, zO_iload_n2, zO_iload_n3, zO_iload, zO_lload_n0, zO_lload_n1, zO_lload_n2, zO_lload_n3, zO_lload, zO_aload_n0, zO_aload_n1, zO_aload_n2, zO_aload_n3, zO_aload, zO_istore_n0, zO_istore_n1, zO_istore_n2, zO_istore_n3, zO_istore, zO_astore_n0, zO_astore_n1, zO_astore_n2, zO_astore_n3, zO_astore, zO_lstore, zO_iinc, zO_iconst, zO_bipush, zO_sipush, zO_lconst0, zO_lconst1, zO_ldc, zO_ldc2_w, zO_iadd, zO_isub, zO_imul, zO_idiv, zO_irem, zO_ineg, zO_iand, zO_ior, zO_ixor, zO_ishl, zO_ishr, zO_iushr, zO_ladd, zO_lmul, zO_land, zO_lor, zO_lshl, zO_lcmp, zO_i2l, zO_l2i, zO_i2b, zO_dup0, zO_dup2, zO_dup200, zO_dup202, zO_dup220, zO_dup222, zO_ifCond_eq, zO_ifCond_ne, zO_ifCond_lt, zO_ifCond_ge, zO_ifCond_gt, zO_ifCond_le, zO_if_icmp_eq, zO_if_icmp_ne, zO_if_icmp_lt, zO_if_icmp_ge, zO_if_icmp_gt, zO_if_icmp_le, zO_getfield, zO_putfield, zO_iaload, zO_baload, zO_laload, zO_iastore, zO_bastore, zO_lastore, zO_arraylength, zO_invokevirtual, zO_lreturn, zO_areturn, zO_return_, zO_tableswitch, zO_lookupswitch, zO_is0, zO_is1, zO_is2, zO_is3, zO_is4, zO_is9, zO_is10, zO_is11, zO_is12, zO_ir1, zO_ir4, zB_c, zLd_0, zLd_s, zSt_c, zSt2_c, zU_c, zD_c, zY_c, zSw_n, zSw_c, zCall_c, zVirt_c, zP_0, zP_1, zP_2, zP_3, zP_4, zGet_n, zGet_z, zPut_n, zPut_z, zcw_n, zcw_0, zcw_1, zcw_2, List.length_cons, List.length_nil, List.take_succ_cons, List.take_zero, List.drop_succ_cons, List.drop_zero, List.reverse_cons, List.reverse_nil, List.nil_append, List.cons_append, List.append_nil, List.set_cons_zero, List.set_cons_succ, List.getD_cons_zero, List.getD_cons_succ, true_and, and_true, ne_eq, not_false_eq_true, not_true_eq_false, zif, Nat.reduceAdd, Nat.reduceLeDiff, Nat.reduceLT, Nat.reduceSub, Nat.reduceEqDiff, Nat.zero_le, Nat.lt_add_one, Nat.reduceMod, false_implies, true_implies, implies_true, forall_const, Int.reduceLE, Int.reduceLT, Int.reduceEq, Int.reduceNeg, ite10_0, ite10_1, zem, zem2, Classical.not_not, and_self, or_true, true_or, or_false, false_or, zT_29, zN_29, zGf_96_29, zGf_97_29, zPf_97_29, zGf_98_29, zGf_99_29, zPf_99_29, zGf_100_29, zPf_100_29, zGf_101_29, zAl_30, zAs_30, K_nextByte h hp p0, hp]
  rw [zw_e (z := p + 1) (by omega) (by omega), zw_e (z := tB T L p - 97) (by omega) (by omega)]
  unfold tL
  refine ⟨fun e => ⟨fun q => ((e.2 (by omega)).1 (by omega)).1 (by omega), fun q => ?_⟩, fun e => ⟨fun z => e.2 (by omega), fun z => ⟨fun z2 => ⟨fun z3 => e.1 (by omega), fun z3 => absurd z2 (by omega)⟩, fun z2 => e.2 (by omega)⟩⟩⟩
  by_cases z : tB T L p - 97 < lo
  · exact e.1 z
  · exact (e.2 z).2 (by omega)
theorem K_readNumber {d : Nat} {T : Int → Int} {L lo p : Int} {figs : Nat} {μ : zM} (hf : figs ≤ 3) (hlo : 0 ≤ lo) (h : tT T L μ) (hp : μ 29 4 = p) (p0 : 0 ≤ p) (pL : p ≤ L) : zC (d + 2) 35 [(2, 29), (0, lo), (0, (figs : Int))] μ (fun r u => r = (tM T L lo figs p).1 ∧ zfr [(29, 4)] μ u ∧ u 29 4 = (tM T L lo figs p).2) := by
  generalize hQ : (fun (r : Int) (u : zM) => r = (tM T L lo figs p).1 ∧ zfr [(29, 4)] μ u ∧ u 29 4 = (tM T L lo figs p).2) = Q
  have hL := h.1
  have hT := tT_P h
  have hl : ∀ (k : Nat) (m v p' : Int) (w : zM), m = figs - k → k ≤ figs → tV k v → zfr [(29, 4)] μ w → w 29 4 = p' → 0 ≤ p' → p' ≤ L → tN T L k v p' = tM T L lo figs p → zR (d + 1) 35 Q 27 [(2, 29), (0, lo), (0, (figs : Int)), (0, tB T L p' - 48), (0, v), (0, m)] [] w := by
    intro k
    induction k with
    | zero =>
      intro m v p' w hm hk hv f hp' p0' pL' he
      rw [u35_27]
      simp only [k35_27, u35_76, k35_76, zO_nop, zO_goto, zO_iload_n0, zO_iload_n1, zO_iload_n2, zO_iload_n3, zO_iload, zO_lload_n0, zO_lload_n1, zO_lload_n2, zO_lload_n3, zO_lload, zO_aload_n0, zO_aload_n1, zO_aload_n2, zO_aload_n3, zO_aload, zO_istore_n0, zO_istore_n1, zO_istore_n2, zO_istore_n3, zO_istore, zO_astore_n0, zO_astore_n1, zO_astore_n2, zO_astore_n3, zO_astore, zO_lstore, zO_iinc, zO_iconst, zO_bipush, zO_sipush, zO_lconst0, zO_lconst1, zO_ldc, zO_ldc2_w, zO_iadd, zO_isub, zO_imul, zO_idiv, zO_irem, zO_ineg, zO_iand, zO_ior, zO_ixor, zO_ishl, zO_ishr, zO_iushr, zO_ladd, zO_lmul, zO_land, zO_lor, zO_lshl, zO_lcmp, zO_i2l, zO_l2i, zO_i2b, zO_dup0, zO_dup2, zO_dup200, zO_dup202, zO_dup220, zO_dup222, zO_ifCond_eq, zO_ifCond_ne, zO_ifCond_lt, zO_ifCond_ge, zO_ifCond_gt, zO_ifCond_le, zO_if_icmp_eq, zO_if_icmp_ne, zO_if_icmp_lt, zO_if_icmp_ge, zO_if_icmp_gt, zO_if_icmp_le, zO_getfield, zO_putfield, zO_iaload, zO_baload, zO_laload, zO_iastore, zO_bastore, zO_lastore, zO_arraylength, zO_invokevirtual, zO_lreturn, zO_areturn, zO_return_, zO_tableswitch, zO_lookupswitch, zO_is0, zO_is1, zO_is2, zO_is3, zO_is4, zO_is9, zO_is10, zO_is11, zO_is12, zO_ir1, zO_ir4, zB_c, zLd_0, zLd_s, zSt_c, zSt2_c, zU_c, zD_c, zY_c, zSw_n, zSw_c, zCall_c, zVirt_c, zP_0, zP_1, zP_2, zP_3, zP_4, zGet_n, zGet_z, zPut_n, zPut_z, zcw_n, zcw_0, zcw_1, zcw_2, List.length_cons, List.length_nil, List.take_succ_cons, List.take_zero, List.drop_succ_cons, List.drop_zero, List.reverse_cons, List.reverse_nil, List.nil_append, List.cons_append, List.append_nil, List.set_cons_zero, List.set_cons_succ, List.getD_cons_zero, List.getD_cons_succ, true_and, and_true, ne_eq, not_false_eq_true, not_true_eq_false, zif, Nat.reduceAdd, Nat.reduceLeDiff, Nat.reduceLT, Nat.reduceSub, Nat.reduceEqDiff, Nat.zero_le, Nat.lt_add_one, Nat.reduceMod, false_implies, true_implies, implies_true, forall_const, Int.reduceLE, Int.reduceLT, Int.reduceEq, Int.reduceNeg, ite10_0, ite10_1, zem, zem2, Classical.not_not, and_self, or_true, true_or, or_false, false_or, zT_29, zN_29, zGf_96_29, zGf_97_29, zPf_97_29, zGf_98_29, zGf_99_29, zPf_99_29, zGf_100_29, zPf_100_29, zGf_101_29]
      refine ⟨fun e => absurd e (by omega), fun _ => ?_⟩
      rw [← hQ]
      rw [← he]
      exact ⟨rfl, f, hp'⟩
    | succ k ih =>
      intro m v p' w hm hk hv f hp' p0' pL' he
      have hb := tB_bd hT p0'
      have stop : ¬ (48 ≤ tB T L p' ∧ tB T L p' ≤ 57) → Q v w := fun q => by
        unfold tN at he
        rw [if_neg q] at he
        rw [← hQ]
        rw [← he]
        exact ⟨rfl, f, hp'⟩
      unfold tV at hv
      rw [u35_27]
      simp only [k35_27, u35_76, k35_76, zO_nop, zO_goto, zO_iload_n0, zO_iload_n1, zO_iload_n2, zO_iload_n3, zO_iload, zO_lload_n0, zO_lload_n1, zO_lload_n2, zO_lload_n3, zO_lload, zO_aload_n0, zO_aload_n1, zO_aload_n2, zO_aload_n3, zO_aload, zO_istore_n0, zO_istore_n1, zO_istore_n2, zO_istore_n3, zO_istore, zO_astore_n0, zO_astore_n1, zO_astore_n2, zO_astore_n3, zO_astore, zO_lstore, zO_iinc, zO_iconst, zO_bipush, zO_sipush, zO_lconst0, zO_lconst1, zO_ldc, zO_ldc2_w, zO_iadd, zO_isub, zO_imul, zO_idiv, zO_irem, zO_ineg, zO_iand, zO_ior, zO_ixor, zO_ishl, zO_ishr, zO_iushr, zO_ladd, zO_lmul, zO_land, zO_lor, zO_lshl, zO_lcmp, zO_i2l, zO_l2i, zO_i2b, zO_dup0, zO_dup2, zO_dup200, zO_dup202, zO_dup220, zO_dup222, zO_ifCond_eq, zO_ifCond_ne, zO_ifCond_lt, zO_ifCond_ge, zO_ifCond_gt, zO_ifCond_le, zO_if_icmp_eq, zO_if_icmp_ne, zO_if_icmp_lt, zO_if_icmp_ge, zO_if_icmp_gt, zO_if_icmp_le, zO_getfield, zO_putfield, zO_iaload, zO_baload, zO_laload, zO_iastore, zO_bastore, zO_lastore, zO_arraylength, zO_invokevirtual, zO_lreturn, zO_areturn, zO_return_, zO_tableswitch, zO_lookupswitch, zO_is0, zO_is1, zO_is2, zO_is3, zO_is4, zO_is9, zO_is10, zO_is11, zO_is12, zO_ir1, zO_ir4, zB_c, zLd_0, zLd_s, zSt_c, zSt2_c, zU_c, zD_c, zY_c, zSw_n, zSw_c, zCall_c, zVirt_c, zP_0, zP_1, zP_2, zP_3, zP_4, zGet_n, zGet_z, zPut_n, zPut_z, zcw_n, zcw_0, zcw_1, zcw_2, List.length_cons, List.length_nil, List.take_succ_cons, List.take_zero, List.drop_succ_cons, List.drop_zero, List.reverse_cons, List.reverse_nil, List.nil_append, List.cons_append, List.append_nil, List.set_cons_zero, List.set_cons_succ, List.getD_cons_zero, List.getD_cons_succ, true_and, and_true, ne_eq, not_false_eq_true, not_true_eq_false, zif, Nat.reduceAdd, Nat.reduceLeDiff, Nat.reduceLT, Nat.reduceSub, Nat.reduceEqDiff, Nat.zero_le, Nat.lt_add_one, Nat.reduceMod, false_implies, true_implies, implies_true, forall_const, Int.reduceLE, Int.reduceLT, Int.reduceEq, Int.reduceNeg, ite10_0, ite10_1, zem, zem2, Classical.not_not, and_self, or_true, true_or, or_false, false_or, zT_29, zN_29, zGf_96_29, zGf_97_29, zPf_97_29, zGf_98_29, zGf_99_29, zPf_99_29, zGf_100_29, zPf_100_29, zGf_101_29, hp']
      rw [zw_e (z := p' + 1) (by omega) (by omega), zw_e (z := m + 1) (by omega) (by omega), zw_e (z := 10 * v) (by omega) (by omega), zw_e (by omega) (by omega)]
      refine ⟨fun _ => ⟨fun z => stop (by omega), fun z => ⟨fun z2 => stop (by omega), fun z2 => ?_⟩⟩, fun e => absurd e (by omega)⟩
      generalize hw2 : zu w 29 4 (p' + 1) = w2
      have f2 : zfr [(29, 4)] μ w2 := by rw [← hw2]; exact zfr_u f (by decide)
      have hp2 : w2 29 4 = p' + 1 := by rw [← hw2, zu_at]
      have h2 : tT T L w2 := tT_fr h f2 (by decide) (by decide)
      have hb2 := tB_bd hT (p := p' + 1) (by omega)
      have pl := hb.2 (by omega)
      rw [K_nextByte (d := d) h2 hp2 (by omega), zw_e (z := tB T L (p' + 1) - 48) (by omega) (by omega)]
      refine ih (m + 1) _ (p' + 1) w2 (by omega) (by omega) (by unfold tV; omega) f2 hp2 (by omega) (by omega) ?_
      unfold tN at he
      rw [if_pos (by omega)] at he
      exact he
  simp only [e35, k35_0, zO_nop, zO_goto, zO_iload_n0, zO_iload_n1, zO_iload_n2, zO_iload_n3, zO_iload, zO_lload_n0, zO_lload_n1, zO_lload_n2, zO_lload_n3, zO_lload, zO_aload_n0, zO_aload_n1, zO_aload_n2, zO_aload_n3, zO_aload, zO_istore_n0, zO_istore_n1, zO_istore_n2, zO_istore_n3, zO_istore, zO_astore_n0, zO_astore_n1, zO_astore_n2, zO_astore_n3, zO_astore, zO_lstore, zO_iinc, zO_iconst, zO_bipush, zO_sipush, zO_lconst0, zO_lconst1, zO_ldc, zO_ldc2_w, zO_iadd, zO_isub, zO_imul, zO_idiv, zO_irem, zO_ineg, zO_iand, zO_ior, zO_ixor, zO_ishl, zO_ishr, zO_iushr, zO_ladd, zO_lmul, zO_land, zO_lor, zO_lshl, zO_lcmp, zO_i2l, zO_l2i, zO_i2b, zO_dup0, zO_dup2, zO_dup200, zO_dup202, zO_dup220, zO_dup222, zO_ifCond_eq, zO_ifCond_ne, zO_ifCond_lt, zO_ifCond_ge, zO_ifCond_gt, zO_ifCond_le, zO_if_icmp_eq, zO_if_icmp_ne, zO_if_icmp_lt, zO_if_icmp_ge, zO_if_icmp_gt, zO_if_icmp_le, zO_getfield, zO_putfield, zO_iaload, zO_baload, zO_laload, zO_iastore, zO_bastore, zO_lastore, zO_arraylength, zO_invokevirtual, zO_lreturn, zO_areturn, zO_return_, zO_tableswitch, zO_lookupswitch, zO_is0, zO_is1, zO_is2, zO_is3, zO_is4, zO_is9, zO_is10, zO_is11, zO_is12, zO_ir1, zO_ir4, zB_c, zLd_0, zLd_s, zSt_c, zSt2_c, zU_c, zD_c, zY_c, zSw_n, zSw_c, zCall_c, zVirt_c, zP_0, zP_1, zP_2, zP_3, zP_4, zGet_n, zGet_z, zPut_n, zPut_z, zcw_n, zcw_0, zcw_1, zcw_2, List.length_cons, List.length_nil, List.take_succ_cons, List.take_zero, List.drop_succ_cons, List.drop_zero, List.reverse_cons, List.reverse_nil, List.nil_append, List.cons_append, List.append_nil, List.set_cons_zero, List.set_cons_succ, List.getD_cons_zero, List.getD_cons_succ, true_and, and_true, ne_eq, not_false_eq_true, not_true_eq_false, zif, Nat.reduceAdd, Nat.reduceLeDiff, Nat.reduceLT, Nat.reduceSub, Nat.reduceEqDiff, Nat.zero_le, Nat.lt_add_one, Nat.reduceMod, false_implies, true_implies, implies_true, forall_const, Int.reduceLE, Int.reduceLT, Int.reduceEq, Int.reduceNeg, ite10_0, ite10_1, zem, zem2, Classical.not_not, and_self, or_true, true_or, or_false, false_or, zT_29, zN_29, zGf_96_29, zGf_97_29, zPf_97_29, zGf_98_29, zGf_99_29, zPf_99_29, zGf_100_29, zPf_100_29, zGf_101_29, K_nextByte h hp p0]
  have hb := tB_bd hT p0
  rw [zw_e (z := tB T L p - 48) (by omega) (by omega)]
  have no : ¬ (48 + lo ≤ tB T L p ∧ tB T L p ≤ 57) → Q 1 μ := fun q => by
    rw [← hQ]
    unfold tM
    rw [if_neg q]
    exact ⟨rfl, zfr_rf, hp⟩
  simp only [u35_19, k35_19, u35_21, k35_21, zO_nop, zO_goto, zO_iload_n0, zO_iload_n1, zO_iload_n2, zO_iload_n3, zO_iload, zO_lload_n0, zO_lload_n1, zO_lload_n2, zO_lload_n3, zO_lload, zO_aload_n0, zO_aload_n1, zO_aload_n2, zO_aload_n3, zO_aload, zO_istore_n0, zO_istore_n1, zO_istore_n2, zO_istore_n3, zO_istore, zO_astore_n0, zO_astore_n1, zO_astore_n2, zO_astore_n3, zO_astore, zO_lstore, zO_iinc, zO_iconst, zO_bipush, zO_sipush, zO_lconst0, zO_lconst1, zO_ldc, zO_ldc2_w, zO_iadd, zO_isub, zO_imul, zO_idiv, zO_irem, zO_ineg, zO_iand, zO_ior, zO_ixor, zO_ishl, zO_ishr, zO_iushr, zO_ladd, zO_lmul, zO_land, zO_lor, zO_lshl, zO_lcmp, zO_i2l, zO_l2i, zO_i2b, zO_dup0, zO_dup2, zO_dup200, zO_dup202, zO_dup220, zO_dup222, zO_ifCond_eq, zO_ifCond_ne, zO_ifCond_lt, zO_ifCond_ge, zO_ifCond_gt, zO_ifCond_le, zO_if_icmp_eq, zO_if_icmp_ne, zO_if_icmp_lt, zO_if_icmp_ge, zO_if_icmp_gt, zO_if_icmp_le, zO_getfield, zO_putfield, zO_iaload, zO_baload, zO_laload, zO_iastore, zO_bastore, zO_lastore, zO_arraylength, zO_invokevirtual, zO_lreturn, zO_areturn, zO_return_, zO_tableswitch, zO_lookupswitch, zO_is0, zO_is1, zO_is2, zO_is3, zO_is4, zO_is9, zO_is10, zO_is11, zO_is12, zO_ir1, zO_ir4, zB_c, zLd_0, zLd_s, zSt_c, zSt2_c, zU_c, zD_c, zY_c, zSw_n, zSw_c, zCall_c, zVirt_c, zP_0, zP_1, zP_2, zP_3, zP_4, zGet_n, zGet_z, zPut_n, zPut_z, zcw_n, zcw_0, zcw_1, zcw_2, List.length_cons, List.length_nil, List.take_succ_cons, List.take_zero, List.drop_succ_cons, List.drop_zero, List.reverse_cons, List.reverse_nil, List.nil_append, List.cons_append, List.append_nil, List.set_cons_zero, List.set_cons_succ, List.getD_cons_zero, List.getD_cons_succ, true_and, and_true, ne_eq, not_false_eq_true, not_true_eq_false, zif, Nat.reduceAdd, Nat.reduceLeDiff, Nat.reduceLT, Nat.reduceSub, Nat.reduceEqDiff, Nat.zero_le, Nat.lt_add_one, Nat.reduceMod, false_implies, true_implies, implies_true, forall_const, Int.reduceLE, Int.reduceLT, Int.reduceEq, Int.reduceNeg, ite10_0, ite10_1, zem, zem2, Classical.not_not, and_self, or_true, true_or, or_false, false_or]
  refine ⟨fun z => no (by omega), fun z => ⟨fun z2 => no (by omega), fun z2 => hl figs 0 0 p μ (by omega) (by omega) (by unfold tV; omega) zfr_rf hp p0 pL ?_⟩⟩
  unfold tM
  rw [if_pos (by omega)]
