/-! the class's sums -/
def rdR (R : tR) (x : Int) (u : zM) : Prop := x = (if R.1 = true then 1 else 0) ∧ u 29 4 = R.2.1 ∧ (∀ k, zrg 5 k → u 31 k = R.2.2.1 k) ∧ u 29 3 = R.2.2.2
theorem tA_bd {most s v : Int} {S : Int → Int} (hm : 0 ≤ most) (hv : 0 ≤ v) (hs : zrg 5 s) (h : ∀ x, zrg 5 x → 0 ≤ S x ∧ S x ≤ most) : ∀ x, zrg 5 x → 0 ≤ tA most s v S x ∧ tA most s v S x ≤ most := fun x hx => by
  have := h s hs
  have := h x hx
  unfold tA
  split
  · split <;> omega
  · omega
theorem pT_bd {T : Int → Int} {L n lo most : Int} {figs : Nat} (hn : n ≤ 5) (hm : 0 ≤ most) (hf : figs ≤ 3) (h : tP T L) : ∀ (k : Nat) (p : Int) (S : Int → Int) (t : Int), 0 ≤ p → p ≤ L → (∀ x, zrg 5 x → 0 ≤ S x ∧ S x ≤ most) → (p ≤ (pT T L n lo most figs k p S t).2.1 ∧ (pT T L n lo most figs k p S t).2.1 ≤ L) ∧ (∀ x, zrg 5 x → 0 ≤ (pT T L n lo most figs k p S t).2.2.1 x ∧ (pT T L n lo most figs k p S t).2.2.1 x ≤ most) ∧ t ≤ (pT T L n lo most figs k p S t).2.2.2 ∧ (pT T L n lo most figs k p S t).2.2.2 ≤ t + k := by
  intro k
  induction k with
  | zero => intro p S t p0 pL hS; exact ⟨⟨Int.le_refl _, pL⟩, hS, Int.le_refl _, by show t ≤ t + ((0 : Nat) : Int); omega⟩
  | succ k ih =>
    intro p S t p0 pL hS
    have b := tM_bd (lo := lo) h hf p0 pL
    generalize hv : (tM T L lo figs p).1 = v at b
    generalize hq : (tM T L lo figs p).2 = q at b
    have hb := tB_bd h (p := q) (by omega)
    have hb2 := tB_bd h (p := q + 1) (by omega)
    unfold pT
    rw [hv, hq]
    by_cases l : tL T L n 0 q
    · rw [if_pos l]
      have ql := hb.2 (by omega)
      have hA := tA_bd (v := v) (s := tB T L q - 97) hm b.1.1 ⟨by omega, by omega⟩ hS
      by_cases c : tB T L (q + 1) = 43
      · rw [if_pos c]
        have := hb2.2 (by omega)
        have r := ih (q + 2) (tA most (tB T L q - 97) v S) (t + 1) (by omega) (by omega) hA
        exact ⟨⟨by omega, r.1.2⟩, r.2.1, by omega, by omega⟩
      · rw [if_neg c]
        exact ⟨⟨by show p ≤ q + 1; omega, by show q + 1 ≤ L; omega⟩, hA, by show t ≤ t + 1; omega, by show t + 1 ≤ t + ((k + 1 : Nat) : Int); omega⟩
    · rw [if_neg l]
      exact ⟨⟨by show p ≤ q; omega, by show q ≤ L; omega⟩, hS, by show t ≤ t; omega, by show t ≤ t + ((k + 1 : Nat) : Int); omega⟩
theorem pS_bd {T : Int → Int} {L n lo most p : Int} {figs : Nat} (hn : n ≤ 5) (hm : 0 ≤ most) (hf : figs ≤ 3) (h : tP T L) (p0 : 0 ≤ p) (pL : p ≤ L) : (p ≤ (pS T L n lo most figs p).2.1 ∧ (pS T L n lo most figs p).2.1 ≤ L) ∧ (∀ x, zrg 5 x → 0 ≤ (pS T L n lo most figs p).2.2.1 x ∧ (pS T L n lo most figs p).2.2.1 x ≤ most) ∧ 0 ≤ (pS T L n lo most figs p).2.2.2 ∧ (pS T L n lo most figs p).2.2.2 ≤ 60 := by
  have hb := tB_bd h p0
  unfold pS
  by_cases q : tB T L p = 48
  · rw [if_pos q]
    have := hb.2 (by omega)
    exact ⟨⟨by show p ≤ p + 1; omega, by show p + 1 ≤ L; omega⟩, fun x _ => by show 0 ≤ (0 : Int) ∧ (0 : Int) ≤ most; omega, by show (0 : Int) ≤ 0; omega, by show (0 : Int) ≤ 60; omega⟩
  · rw [if_neg q]
    have := pT_bd (lo := lo) hn hm hf h 60 p (fun _ => 0) 0 p0 pL (fun x _ => by show 0 ≤ (0 : Int) ∧ (0 : Int) ≤ most; omega)
    exact ⟨this.1, this.2.1, this.2.2.1, by omega⟩
theorem K_readSum {d : Nat} {T : Int → Int} {L n lo most p : Int} {figs : Nat} {μ : zM} (hn : 1 ≤ n ∧ n ≤ 5) (hf : 1 ≤ figs ∧ figs ≤ 3) (hlo : 0 ≤ lo) (hm : 0 ≤ most ∧ most ≤ 999) (h : tT T L μ) (hp : μ 29 4 = p) (p0 : 0 ≤ p) (pL : p ≤ L) : zC (d + 3) 34 [(2, 29), (0, n), (0, lo), (0, (figs : Int)), (0, most)] μ (fun x u => zfr [(29, 3), (29, 4), (31, -1)] μ u ∧ rdR (pS T L n lo most figs p) x u) := by
  generalize hQ : (fun (x : Int) (u : zM) => zfr [(29, 3), (29, 4), (31, -1)] μ u ∧ rdR (pS T L n lo most figs p) x u) = Q
  have hL := h.1
  have hT := tT_P h
  have hl : ∀ (k : Nat) (p' : Int) (S : Int → Int) (t : Int) (w : zM), t = 60 - k → 0 ≤ t → zfr [(29, 3), (29, 4), (31, -1)] μ w → w 29 4 = p' → 0 ≤ p' → p' ≤ L → w 29 3 = t → (∀ x, zrg 5 x → w 31 x = S x) → (∀ x, zrg 5 x → 0 ≤ S x ∧ S x ≤ most) → pT T L n lo most figs k p' S t = pS T L n lo most figs p → ∀ y z, zR (d + 2) 34 Q 27 [(2, 29), (0, n), (0, lo), (0, (figs : Int)), (0, most), (0, t), y, z] [] w := by
    intro k
    induction k with
    | zero =>
      intro p' S t w ht t0 f hp' p0' pL' h3 hS hSb he y z
      rw [u34_27]
      simp only [k34_27, u34_107, k34_107, zO_nop, zO_goto, zO_iload_n0, zO_iload_n1, zO_iload_n2, zO_iload_n3, zO_iload, zO_lload_n0, zO_lload_n1, zO_lload_n2, zO_lload_n3, zO_lload, zO_aload_n0, zO_aload_n1, zO_aload_n2, zO_aload_n3, zO_aload, zO_istore_n0, zO_istore_n1, zO_istore_n2, zO_istore_n3, zO_istore, zO_astore_n0, zO_astore_n1, zO_astore_n2, zO_astore_n3, zO_astore, zO_lstore, zO_iinc, zO_iconst, zO_bipush, zO_sipush, zO_lconst0, zO_lconst1, zO_ldc, zO_ldc2_w, zO_iadd, zO_isub, zO_imul, zO_idiv, zO_irem, zO_ineg, zO_iand, zO_ior, zO_ixor, zO_ishl, zO_ishr, zO_iushr, zO_ladd, zO_lmul, zO_land, zO_lor, zO_lshl, zO_lcmp, zO_i2l, zO_l2i, zO_i2b, zO_dup0, zO_dup2, zO_dup200, zO_dup202, zO_dup220, zO_dup222, zO_ifCond_eq, zO_ifCond_ne, zO_ifCond_lt, zO_ifCond_ge, zO_ifCond_gt, zO_ifCond_le, zO_if_icmp_eq, zO_if_icmp_ne, zO_if_icmp_lt, zO_if_icmp_ge, zO_if_icmp_gt, zO_if_icmp_le, zO_getfield, zO_putfield, zO_iaload, zO_baload, zO_laload, zO_iastore, zO_bastore, zO_lastore, zO_arraylength, zO_invokevirtual, zO_lreturn, zO_areturn, zO_return_, zO_tableswitch, zO_lookupswitch, zO_is0, zO_is1, zO_is2, zO_is3, zO_is4, zO_is9, zO_is10, zO_is11, zO_is12, zO_ir1, zO_ir4, zB_c, zLd_0, zLd_s, zSt_c, zSt2_c, zU_c, zD_c, zY_c, zSw_n, zSw_c, zCall_c, zVirt_c, zP_0, zP_1, zP_2, zP_3, zP_4, zGet_n, zGet_z, zPut_n, zPut_z, zcw_n, zcw_0, zcw_1, zcw_2, List.length_cons, List.length_nil, List.take_succ_cons, List.take_zero, List.drop_succ_cons, List.drop_zero, List.reverse_cons, List.reverse_nil, List.nil_append, List.cons_append, List.append_nil, List.set_cons_zero, List.set_cons_succ, List.getD_cons_zero, List.getD_cons_succ, true_and, and_true, ne_eq, not_false_eq_true, not_true_eq_false, zif, Nat.reduceAdd, Nat.reduceLeDiff, Nat.reduceLT, Nat.reduceSub, Nat.reduceEqDiff, Nat.zero_le, Nat.lt_add_one, Nat.reduceMod, false_implies, true_implies, implies_true, forall_const, Int.reduceLE, Int.reduceLT, Int.reduceEq, Int.reduceNeg, ite10_0, ite10_1, zem, zem2, Classical.not_not, and_self, or_true, true_or, or_false, false_or, zT_29, zN_29, zGf_96_29, zGf_97_29, zPf_97_29, zGf_98_29, zGf_99_29, zPf_99_29, zGf_100_29, zPf_100_29, zGf_101_29]
      refine ⟨fun e => absurd e (by omega), fun _ => ?_⟩
      rw [← hQ]
      rw [← he]
      exact ⟨f, rfl, hp', hS, h3⟩
    | succ k ih =>
      intro p' S t w ht t0 f hp' p0' pL' h3 hS hSb he y z
      have h' : tT T L w := tT_fr h f (by decide) (by decide)
      have b := tM_bd (lo := lo) hT hf.2 p0' pL'
      unfold pT at he
      rw [u34_27]
      simp only [k34_27, zO_nop, zO_goto, zO_iload_n0, zO_iload_n1, zO_iload_n2, zO_iload_n3, zO_iload, zO_lload_n0, zO_lload_n1, zO_lload_n2, zO_lload_n3, zO_lload, zO_aload_n0, zO_aload_n1, zO_aload_n2, zO_aload_n3, zO_aload, zO_istore_n0, zO_istore_n1, zO_istore_n2, zO_istore_n3, zO_istore, zO_astore_n0, zO_astore_n1, zO_astore_n2, zO_astore_n3, zO_astore, zO_lstore, zO_iinc, zO_iconst, zO_bipush, zO_sipush, zO_lconst0, zO_lconst1, zO_ldc, zO_ldc2_w, zO_iadd, zO_isub, zO_imul, zO_idiv, zO_irem, zO_ineg, zO_iand, zO_ior, zO_ixor, zO_ishl, zO_ishr, zO_iushr, zO_ladd, zO_lmul, zO_land, zO_lor, zO_lshl, zO_lcmp, zO_i2l, zO_l2i, zO_i2b, zO_dup0, zO_dup2, zO_dup200, zO_dup202, zO_dup220, zO_dup222, zO_ifCond_eq, zO_ifCond_ne, zO_ifCond_lt, zO_ifCond_ge, zO_ifCond_gt, zO_ifCond_le, zO_if_icmp_eq, zO_if_icmp_ne, zO_if_icmp_lt, zO_if_icmp_ge, zO_if_icmp_gt, zO_if_icmp_le, zO_getfield, zO_putfield, zO_iaload, zO_baload, zO_laload, zO_iastore, zO_bastore, zO_lastore, zO_arraylength, zO_invokevirtual, zO_lreturn, zO_areturn, zO_return_, zO_tableswitch, zO_lookupswitch, zO_is0, zO_is1, zO_is2, zO_is3, zO_is4, zO_is9, zO_is10, zO_is11, zO_is12, zO_ir1, zO_ir4, zB_c, zLd_0, zLd_s, zSt_c, zSt2_c, zU_c, zD_c, zY_c, zSw_n, zSw_c, zCall_c, zVirt_c, zP_0, zP_1, zP_2, zP_3, zP_4, zGet_n, zGet_z, zPut_n, zPut_z, zcw_n, zcw_0, zcw_1, zcw_2, List.length_cons, List.length_nil, List.take_succ_cons, List.take_zero, List.drop_succ_cons, List.drop_zero, List.reverse_cons, List.reverse_nil, List.nil_append, List.cons_append, List.append_nil, List.set_cons_zero, List.set_cons_succ, List.getD_cons_zero, List.getD_cons_succ, true_and, and_true, ne_eq, not_false_eq_true, not_true_eq_false, zif, Nat.reduceAdd, Nat.reduceLeDiff, Nat.reduceLT, Nat.reduceSub, Nat.reduceEqDiff, Nat.zero_le, Nat.lt_add_one, Nat.reduceMod, false_implies, true_implies, implies_true, forall_const, Int.reduceLE, Int.reduceLT, Int.reduceEq, Int.reduceNeg, ite10_0, ite10_1, zem, zem2, Classical.not_not, and_self, or_true, true_or, or_false, false_or, zT_29, zN_29, zGf_96_29, zGf_97_29, zPf_97_29, zGf_98_29, zGf_99_29, zPf_99_29, zGf_100_29, zPf_100_29, zGf_101_29]
      refine ⟨fun _ => ?_, fun e => absurd e (by omega)⟩
      refine zuse (K_readNumber (d := d) hf.2 hlo h' hp' p0' pL') ?_
      rintro v w1 ⟨rfl, f1, hp1⟩
      generalize (tM T L lo figs p').1 = v at he b ⊢
      generalize (tM T L lo figs p').2 = q at he b hp1
      have h1 : tT T L w1 := tT_fr h' f1 (by decide) (by decide)
      have F1 : zfr [(29, 3), (29, 4), (31, -1)] μ w1 := zfr_tr f (zfr_up f1 (by decide))
      have c31 : w1 31 = w 31 := zfr_c f1 (by decide)
      have t1 : w1 29 3 = t := by rw [f1 _ _ (by decide)]; exact h3
      have hb := tB_bd hT (p := q) (by omega)
      rw [K_readLetter (d := d) hn h1 hp1 (by omega) b.2.2]
      refine ⟨fun l => ⟨fun e => absurd e (by omega), fun _ => ?_⟩, fun l => ⟨fun _ => ?_, fun e => absurd rfl e⟩⟩
      · rw [if_pos l] at he
        have ql := hb.2 (by omega)
        generalize hs : tB T L q - 97 = s at he ⊢
        have hs5 : zrg 5 s := ⟨by omega, by omega⟩
        generalize hw2 : zu w1 29 4 (q + 1) = w2
        have f2 : zfr [(29, 4)] w1 w2 := by rw [← hw2]; exact zfr_u zfr_rf (by decide)
        have hp2 : w2 29 4 = q + 1 := by rw [← hw2, zu_at]
        have t2 : w2 29 3 = t := by rw [f2 _ _ (by decide)]; exact t1
        have s2 : w2 31 s = S s := by rw [zfr_c f2 (by decide), c31]; exact hS s hs5
        have bS := hSb s hs5
        simp only [u34_58, k34_58, zO_nop, zO_goto, zO_iload_n0, zO_iload_n1, zO_iload_n2, zO_iload_n3, zO_iload, zO_lload_n0, zO_lload_n1, zO_lload_n2, zO_lload_n3, zO_lload, zO_aload_n0, zO_aload_n1, zO_aload_n2, zO_aload_n3, zO_aload, zO_istore_n0, zO_istore_n1, zO_istore_n2, zO_istore_n3, zO_istore, zO_astore_n0, zO_astore_n1, zO_astore_n2, zO_astore_n3, zO_astore, zO_lstore, zO_iinc, zO_iconst, zO_bipush, zO_sipush, zO_lconst0, zO_lconst1, zO_ldc, zO_ldc2_w, zO_iadd, zO_isub, zO_imul, zO_idiv, zO_irem, zO_ineg, zO_iand, zO_ior, zO_ixor, zO_ishl, zO_ishr, zO_iushr, zO_ladd, zO_lmul, zO_land, zO_lor, zO_lshl, zO_lcmp, zO_i2l, zO_l2i, zO_i2b, zO_dup0, zO_dup2, zO_dup200, zO_dup202, zO_dup220, zO_dup222, zO_ifCond_eq, zO_ifCond_ne, zO_ifCond_lt, zO_ifCond_ge, zO_ifCond_gt, zO_ifCond_le, zO_if_icmp_eq, zO_if_icmp_ne, zO_if_icmp_lt, zO_if_icmp_ge, zO_if_icmp_gt, zO_if_icmp_le, zO_getfield, zO_putfield, zO_iaload, zO_baload, zO_laload, zO_iastore, zO_bastore, zO_lastore, zO_arraylength, zO_invokevirtual, zO_lreturn, zO_areturn, zO_return_, zO_tableswitch, zO_lookupswitch, zO_is0, zO_is1, zO_is2, zO_is3, zO_is4, zO_is9, zO_is10, zO_is11, zO_is12, zO_ir1, zO_ir4, zB_c, zLd_0, zLd_s, zSt_c, zSt2_c, zU_c, zD_c, zY_c, zSw_n, zSw_c, zCall_c, zVirt_c, zP_0, zP_1, zP_2, zP_3, zP_4, zGet_n, zGet_z, zPut_n, zPut_z, zcw_n, zcw_0, zcw_1, zcw_2, List.length_cons, List.length_nil, List.take_succ_cons, List.take_zero, List.drop_succ_cons, List.drop_zero, List.reverse_cons, List.reverse_nil, List.nil_append, List.cons_append, List.append_nil, List.set_cons_zero, List.set_cons_succ, List.getD_cons_zero, List.getD_cons_succ, true_and, and_true, ne_eq, not_false_eq_true, not_true_eq_false, zif, Nat.reduceAdd, Nat.reduceLeDiff, Nat.reduceLT, Nat.reduceSub, Nat.reduceEqDiff, Nat.zero_le, Nat.lt_add_one, Nat.reduceMod, false_implies, true_implies, implies_true, forall_const, Int.reduceLE, Int.reduceLT, Int.reduceEq, Int.reduceNeg, ite10_0, ite10_1, zem, zem2, Classical.not_not, and_self, or_true, true_or, or_false, false_or, zT_29, zN_29, zGf_96_29, zGf_97_29, zPf_97_29, zGf_98_29, zGf_99_29, zPf_99_29, zGf_100_29, zPf_100_29, zGf_101_29, zAl_31, zAs_31, s2, t2]
        have e29 : ∀ X, zu w2 31 s X 29 3 = t := fun X => by rw [zu_ne (by omega)]; exact t2
        rw [zw_e (z := S s + v) (by omega) (by omega), e29, zw_e (z := t + 1) (by omega) (by omega)]
        have ev : (if most < S s + v then most else S s + v) = tA most s v S s := by
          unfold tA
          rw [if_pos rfl]
          by_cases z : most < S s + v
          · rw [if_pos z, if_neg (by omega)]
          · rw [if_neg z, if_pos (by omega)]
        rw [ev]
        generalize hw3 : zu (zu w2 31 s (tA most s v S s)) 29 3 (t + 1) = w3
        have f3 : zfr [(29, 3), (31, -1)] w2 w3 := by rw [← hw3]; exact zfr_u (zfr_w zfr_rf (by decide)) (by decide)
        have F3 : zfr [(29, 3), (29, 4), (31, -1)] μ w3 := zfr_tr F1 (zfr_tr (zfr_up f2 (by decide)) (zfr_up f3 (by decide)))
        have hp3 : w3 29 4 = q + 1 := by rw [f3 _ _ (by decide)]; exact hp2
        have t3 : w3 29 3 = t + 1 := by rw [← hw3, zu_at]
        have s3 : ∀ x, zrg 5 x → w3 31 x = tA most s v S x := fun x hx => by
          rw [← hw3, zu_ne (by omega)]
          by_cases z : x = s
          · rw [z, zu_at]
          · rw [zu_ne (by omega), zfr_c f2 (by decide), c31, hS x hx]
            unfold tA
            rw [if_neg z]
        have hA := tA_bd (v := v) (s := s) hm.1 b.1.1 hs5 hSb
        have h3' : tT T L w3 := tT_fr h F3 (by decide) (by decide)
        rw [K_passed (d := d) h3' hp3 (by omega) (by omega)]
        refine ⟨hs5.1, hs5.2, hs5.1, hs5.2, fun c => ⟨fun e => absurd e (by decide), fun _ => ?_⟩, fun c => ⟨fun _ => ?_, fun e => absurd rfl e⟩⟩
        · rw [if_pos c] at he
          have ql2 := (tB_bd hT (p := q + 1) (by omega)).2 (by omega)
          generalize hw4 : zu w3 29 4 (q + 1 + 1) = w4
          have f4 : zfr [(29, 4)] w3 w4 := by rw [← hw4]; exact zfr_u zfr_rf (by decide)
          simp only [u34_101, k34_101, zO_nop, zO_goto, zO_iload_n0, zO_iload_n1, zO_iload_n2, zO_iload_n3, zO_iload, zO_lload_n0, zO_lload_n1, zO_lload_n2, zO_lload_n3, zO_lload, zO_aload_n0, zO_aload_n1, zO_aload_n2, zO_aload_n3, zO_aload, zO_istore_n0, zO_istore_n1, zO_istore_n2, zO_istore_n3, zO_istore, zO_astore_n0, zO_astore_n1, zO_astore_n2, zO_astore_n3, zO_astore, zO_lstore, zO_iinc, zO_iconst, zO_bipush, zO_sipush, zO_lconst0, zO_lconst1, zO_ldc, zO_ldc2_w, zO_iadd, zO_isub, zO_imul, zO_idiv, zO_irem, zO_ineg, zO_iand, zO_ior, zO_ixor, zO_ishl, zO_ishr, zO_iushr, zO_ladd, zO_lmul, zO_land, zO_lor, zO_lshl, zO_lcmp, zO_i2l, zO_l2i, zO_i2b, zO_dup0, zO_dup2, zO_dup200, zO_dup202, zO_dup220, zO_dup222, zO_ifCond_eq, zO_ifCond_ne, zO_ifCond_lt, zO_ifCond_ge, zO_ifCond_gt, zO_ifCond_le, zO_if_icmp_eq, zO_if_icmp_ne, zO_if_icmp_lt, zO_if_icmp_ge, zO_if_icmp_gt, zO_if_icmp_le, zO_getfield, zO_putfield, zO_iaload, zO_baload, zO_laload, zO_iastore, zO_bastore, zO_lastore, zO_arraylength, zO_invokevirtual, zO_lreturn, zO_areturn, zO_return_, zO_tableswitch, zO_lookupswitch, zO_is0, zO_is1, zO_is2, zO_is3, zO_is4, zO_is9, zO_is10, zO_is11, zO_is12, zO_ir1, zO_ir4, zB_c, zLd_0, zLd_s, zSt_c, zSt2_c, zU_c, zD_c, zY_c, zSw_n, zSw_c, zCall_c, zVirt_c, zP_0, zP_1, zP_2, zP_3, zP_4, zGet_n, zGet_z, zPut_n, zPut_z, zcw_n, zcw_0, zcw_1, zcw_2, List.length_cons, List.length_nil, List.take_succ_cons, List.take_zero, List.drop_succ_cons, List.drop_zero, List.reverse_cons, List.reverse_nil, List.nil_append, List.cons_append, List.append_nil, List.set_cons_zero, List.set_cons_succ, List.getD_cons_zero, List.getD_cons_succ, true_and, and_true, ne_eq, not_false_eq_true, not_true_eq_false, zif, Nat.reduceAdd, Nat.reduceLeDiff, Nat.reduceLT, Nat.reduceSub, Nat.reduceEqDiff, Nat.zero_le, Nat.lt_add_one, Nat.reduceMod, false_implies, true_implies, implies_true, forall_const, Int.reduceLE, Int.reduceLT, Int.reduceEq, Int.reduceNeg, ite10_0, ite10_1, zem, zem2, Classical.not_not, and_self, or_true, true_or, or_false, false_or]
          rw [zw_e (z := t + 1) (by omega) (by omega)]
          exact ih (q + 2) _ (t + 1) w4 (by omega) (by omega) (zfr_tr F3 (zfr_up f4 (by decide))) (by rw [← hw4, zu_at]; omega) (by omega) (by omega) (by rw [f4 _ _ (by decide)]; exact t3) (fun x hx => by rw [zfr_c f4 (by decide)]; exact s3 x hx) hA he _ _
        · rw [if_neg c] at he
          rw [← hQ]
          rw [← he]
          exact ⟨F3, rfl, hp3, s3, t3⟩
      · rw [if_neg l] at he
        rw [← hQ]
        rw [← he]
        exact ⟨F1, rfl, hp1, fun x hx => by rw [c31]; exact hS x hx, t1⟩
  simp only [e34, k34_0, zO_nop, zO_goto, zO_iload_n0, zO_iload_n1, zO_iload_n2, zO_iload_n3, zO_iload, zO_lload_n0, zO_lload_n1, zO_lload_n2, zO_lload_n3, zO_lload, zO_aload_n0, zO_aload_n1, zO_aload_n2, zO_aload_n3, zO_aload, zO_istore_n0, zO_istore_n1, zO_istore_n2, zO_istore_n3, zO_istore, zO_astore_n0, zO_astore_n1, zO_astore_n2, zO_astore_n3, zO_astore, zO_lstore, zO_iinc, zO_iconst, zO_bipush, zO_sipush, zO_lconst0, zO_lconst1, zO_ldc, zO_ldc2_w, zO_iadd, zO_isub, zO_imul, zO_idiv, zO_irem, zO_ineg, zO_iand, zO_ior, zO_ixor, zO_ishl, zO_ishr, zO_iushr, zO_ladd, zO_lmul, zO_land, zO_lor, zO_lshl, zO_lcmp, zO_i2l, zO_l2i, zO_i2b, zO_dup0, zO_dup2, zO_dup200, zO_dup202, zO_dup220, zO_dup222, zO_ifCond_eq, zO_ifCond_ne, zO_ifCond_lt, zO_ifCond_ge, zO_ifCond_gt, zO_ifCond_le, zO_if_icmp_eq, zO_if_icmp_ne, zO_if_icmp_lt, zO_if_icmp_ge, zO_if_icmp_gt, zO_if_icmp_le, zO_getfield, zO_putfield, zO_iaload, zO_baload, zO_laload, zO_iastore, zO_bastore, zO_lastore, zO_arraylength, zO_invokevirtual, zO_lreturn, zO_areturn, zO_return_, zO_tableswitch, zO_lookupswitch, zO_is0, zO_is1, zO_is2, zO_is3, zO_is4, zO_is9, zO_is10, zO_is11, zO_is12, zO_ir1, zO_ir4, zB_c, zLd_0, zLd_s, zSt_c, zSt2_c, zU_c, zD_c, zY_c, zSw_n, zSw_c, zCall_c, zVirt_c, zP_0, zP_1, zP_2, zP_3, zP_4, zGet_n, zGet_z, zPut_n, zPut_z, zcw_n, zcw_0, zcw_1, zcw_2, List.length_cons, List.length_nil, List.take_succ_cons, List.take_zero, List.drop_succ_cons, List.drop_zero, List.reverse_cons, List.reverse_nil, List.nil_append, List.cons_append, List.append_nil, List.set_cons_zero, List.set_cons_succ, List.getD_cons_zero, List.getD_cons_succ, true_and, and_true, ne_eq, not_false_eq_true, not_true_eq_false, zif, Nat.reduceAdd, Nat.reduceLeDiff, Nat.reduceLT, Nat.reduceSub, Nat.reduceEqDiff, Nat.zero_le, Nat.lt_add_one, Nat.reduceMod, false_implies, true_implies, implies_true, forall_const, Int.reduceLE, Int.reduceLT, Int.reduceEq, Int.reduceNeg, ite10_0, ite10_1, zem, zem2, Classical.not_not, and_self, or_true, true_or, or_false, false_or, zT_29, zN_29, zGf_96_29, zGf_97_29, zPf_97_29, zGf_98_29, zGf_99_29, zPf_99_29, zGf_100_29, zPf_100_29, zGf_101_29]
  refine zuse (K_fillI31 (d := d + 1)) ?_
  rintro r u ⟨_, f, g⟩
  generalize hw : zu u 29 3 0 = w
  have F : zfr [(29, 3), (29, 4), (31, -1)] μ w := by rw [← hw]; exact zfr_u (zfr_up f (by decide)) (by decide)
  have h1 : tT T L w := tT_fr h F (by decide) (by decide)
  have hp1 : w 29 4 = p := by rw [← hw, zu_ne (by omega), zfr_c f (by decide)]; exact hp
  have t1 : w 29 3 = 0 := by rw [← hw, zu_at]
  have s1 : ∀ x, zrg 5 x → w 31 x = 0 := fun x hx => by rw [← hw, zu_ne (by omega)]; exact g x hx.1 hx.2
  rw [K_passed (d := d) h1 hp1 p0 pL]
  simp only [u34_24, k34_24, zO_nop, zO_goto, zO_iload_n0, zO_iload_n1, zO_iload_n2, zO_iload_n3, zO_iload, zO_lload_n0, zO_lload_n1, zO_lload_n2, zO_lload_n3, zO_lload, zO_aload_n0, zO_aload_n1, zO_aload_n2, zO_aload_n3, zO_aload, zO_istore_n0, zO_istore_n1, zO_istore_n2, zO_istore_n3, zO_istore, zO_astore_n0, zO_astore_n1, zO_astore_n2, zO_astore_n3, zO_astore, zO_lstore, zO_iinc, zO_iconst, zO_bipush, zO_sipush, zO_lconst0, zO_lconst1, zO_ldc, zO_ldc2_w, zO_iadd, zO_isub, zO_imul, zO_idiv, zO_irem, zO_ineg, zO_iand, zO_ior, zO_ixor, zO_ishl, zO_ishr, zO_iushr, zO_ladd, zO_lmul, zO_land, zO_lor, zO_lshl, zO_lcmp, zO_i2l, zO_l2i, zO_i2b, zO_dup0, zO_dup2, zO_dup200, zO_dup202, zO_dup220, zO_dup222, zO_ifCond_eq, zO_ifCond_ne, zO_ifCond_lt, zO_ifCond_ge, zO_ifCond_gt, zO_ifCond_le, zO_if_icmp_eq, zO_if_icmp_ne, zO_if_icmp_lt, zO_if_icmp_ge, zO_if_icmp_gt, zO_if_icmp_le, zO_getfield, zO_putfield, zO_iaload, zO_baload, zO_laload, zO_iastore, zO_bastore, zO_lastore, zO_arraylength, zO_invokevirtual, zO_lreturn, zO_areturn, zO_return_, zO_tableswitch, zO_lookupswitch, zO_is0, zO_is1, zO_is2, zO_is3, zO_is4, zO_is9, zO_is10, zO_is11, zO_is12, zO_ir1, zO_ir4, zB_c, zLd_0, zLd_s, zSt_c, zSt2_c, zU_c, zD_c, zY_c, zSw_n, zSw_c, zCall_c, zVirt_c, zP_0, zP_1, zP_2, zP_3, zP_4, zGet_n, zGet_z, zPut_n, zPut_z, zcw_n, zcw_0, zcw_1, zcw_2, List.length_cons, List.length_nil, List.take_succ_cons, List.take_zero, List.drop_succ_cons, List.drop_zero, List.reverse_cons, List.reverse_nil, List.nil_append, List.cons_append, List.append_nil, List.set_cons_zero, List.set_cons_succ, List.getD_cons_zero, List.getD_cons_succ, true_and, and_true, ne_eq, not_false_eq_true, not_true_eq_false, zif, Nat.reduceAdd, Nat.reduceLeDiff, Nat.reduceLT, Nat.reduceSub, Nat.reduceEqDiff, Nat.zero_le, Nat.lt_add_one, Nat.reduceMod, false_implies, true_implies, implies_true, forall_const, Int.reduceLE, Int.reduceLT, Int.reduceEq, Int.reduceNeg, ite10_0, ite10_1, zem, zem2, Classical.not_not, and_self, or_true, true_or, or_false, false_or]
  refine ⟨fun c => ?_, fun c => ?_⟩
  · rw [← hQ]
    unfold pS
    rw [if_pos c]
    exact ⟨zfr_u F (by decide), rfl, zu_at _ _ _ _, fun x hx => by rw [zu_ne (by omega)]; exact s1 x hx, by rw [zu_ne (by omega)]; exact t1⟩
  · refine hl 60 p (fun _ => 0) 0 w (by omega) (by omega) F hp1 p0 pL t1 s1 (fun x _ => by show 0 ≤ (0 : Int) ∧ (0 : Int) ≤ most; omega) ?_ _ _
    unfold pS
    rw [if_neg c]
