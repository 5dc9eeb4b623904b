noncomputable def b01 (c : Prop) : Int := @ite Int c (Classical.propDecidable c) 1 0
theorem b01_y {c : Prop} (h : c) : b01 c = 1 := by unfold b01; exact if_pos h
theorem b01_n {c : Prop} (h : ¬ c) : b01 c = 0 := by unfold b01; exact if_neg h
/-- the i-th of those that are so, from one on; how many, if i is -1 -/
noncomputable def zfnd (P : Int → Prop) (f : Int → Int) (i : Int) : Nat → Int → Int → Int
  | 0, _, found => if i = -1 then found else -5
  | m + 1, c, found => @ite Int (P c) (Classical.propDecidable (P c)) (if found = i then f c else zfnd P f i m (c + 1) (found + 1)) (zfnd P f i m (c + 1) found)
theorem zfnd_y {P : Int → Prop} {f : Int → Int} {i : Int} {m : Nat} {c found : Int} (h : P c) : zfnd P f i (m + 1) c found = if found = i then f c else zfnd P f i m (c + 1) (found + 1) := by
  show @ite Int (P c) (Classical.propDecidable (P c)) _ _ = _
  exact if_pos h
theorem zfnd_n {P : Int → Prop} {f : Int → Int} {i : Int} {m : Nat} {c found : Int} (h : ¬ P c) : zfnd P f i (m + 1) c found = zfnd P f i m (c + 1) found := by
  show @ite Int (P c) (Classical.propDecidable (P c)) _ _ = _
  exact if_neg h
theorem zfnd_cg {P P' : Int → Prop} {f f' : Int → Int} {i : Int} : ∀ (m : Nat) (c found : Int), (∀ x, c ≤ x → x < c + m → (P x ↔ P' x) ∧ f x = f' x) → zfnd P f i m c found = zfnd P' f' i m c found
  | 0, _, _, _ => rfl
  | m + 1, c, found, h => by
    have h0 := h c (by omega) (by omega)
    have ih := fun fo => zfnd_cg (P := P) (P' := P') (f := f) (f' := f') (i := i) m (c + 1) fo (fun x a b => h x (by omega) (by omega))
    by_cases hp : P c
    · rw [zfnd_y hp, zfnd_y (h0.1.mp hp), ih, h0.2]
    · rw [zfnd_n hp, zfnd_n (fun z => hp (h0.1.mpr z)), ih]
theorem L_lays {d : Nat} {i j o x y : Int} {w : zM} {P : Int → zM → Prop} (hi : 0 ≤ i ∧ i ≤ 4) (hj : 0 ≤ j ∧ j ≤ 4) (hP : ∀ u, zfr [(40, -1)] w u → (∀ a, u 40 a = if a = 3 + (25 * i + 5 * j) then o else if a = 3 + (25 * i + 5 * j) + 1 then x else if a = 3 + (25 * i + 5 * j) + 2 then y else w 40 a) → P 0 u) : zC (d + 2) 170 [(2, 39), (0, i), (0, j), (0, o), (0, x), (0, y)] w P := by
  simp only [e170, k170_0, zO_nop, zO_goto, zO_iload_n0, zO_iload_n1, zO_iload_n2, zO_iload_n3, zO_iload, zO_lload_n0, zO_lload_n1, zO_lload_n2, zO_lload_n3, zO_lload, zO_aload_n0, zO_aload_n1, zO_aload_n2, zO_aload_n3, zO_aload, zO_istore_n0, zO_istore_n1, zO_istore_n2, zO_istore_n3, zO_istore, zO_astore_n0, zO_astore_n1, zO_astore_n2, zO_astore_n3, zO_astore, zO_lstore, zO_iinc, zO_iconst, zO_bipush, zO_sipush, zO_lconst0, zO_lconst1, zO_ldc, zO_ldc2_w, zO_iadd, zO_isub, zO_imul, zO_idiv, zO_irem, zO_ineg, zO_iand, zO_ior, zO_ixor, zO_ishl, zO_ishr, zO_iushr, zO_ladd, zO_lmul, zO_land, zO_lor, zO_lshl, zO_lcmp, zO_i2l, zO_l2i, zO_i2b, zO_dup0, zO_dup2, zO_dup200, zO_dup202, zO_dup220, zO_dup222, zO_ifCond_eq, zO_ifCond_ne, zO_ifCond_lt, zO_ifCond_ge, zO_ifCond_gt, zO_ifCond_le, zO_if_icmp_eq, zO_if_icmp_ne, zO_if_icmp_lt, zO_if_icmp_ge, zO_if_icmp_gt, zO_if_icmp_le, zO_getfield, zO_putfield, zO_iaload, zO_baload, zO_laload, zO_iastore, zO_bastore, zO_lastore, zO_arraylength, zO_invokevirtual, zO_lreturn, zO_areturn, zO_return_, zO_tableswitch, zO_lookupswitch, zO_is0, zO_is1, zO_is2, zO_is3, zO_is4, zO_is9, zO_is10, zO_is11, zO_is12, zO_ir1, zO_ir4, zB_c, zLd_0, zLd_s, zSt_c, zSt2_c, zU_c, zD_c, zY_c, zSw_n, zSw_c, zCall_c, zVirt_c, zP_0, zP_1, zP_2, zP_3, zP_4, zGet_n, zGet_z, zPut_n, zPut_z, zcw_n, zcw_0, zcw_1, zcw_2, List.length_cons, List.length_nil, List.take_succ_cons, List.take_zero, List.drop_succ_cons, List.drop_zero, List.reverse_cons, List.reverse_nil, List.nil_append, List.cons_append, List.append_nil, List.set_cons_zero, List.set_cons_succ, List.getD_cons_zero, List.getD_cons_succ, true_and, and_true, ne_eq, not_false_eq_true, not_true_eq_false, zif, Nat.reduceAdd, Nat.reduceLeDiff, Nat.reduceLT, Nat.reduceSub, Nat.reduceEqDiff, Nat.zero_le, Nat.lt_add_one, Nat.reduceMod, false_implies, true_implies, implies_true, forall_const, Int.reduceLE, Int.reduceLT, Int.reduceEq, Int.reduceNeg, ite10_0, ite10_1, zem, zem2, Classical.not_not, and_self, or_true, true_or, or_false, false_or, zT_39, zN_39, zGf_192_39, zGf_193_39, zGf_194_39, zPf_194_39, zGf_195_39, zGf_196_39, zGf_197_39, zGf_198_39, zPf_198_39, zGf_199_39, zPf_199_39, zGf_200_39, zPf_200_39, zGf_201_39, zGf_202_39, zPf_202_39, zGf_203_39, zGf_204_39, zPf_204_39, zGf_205_39, zGf_206_39, zGf_207_39, zGf_208_39, zGf_209_39, zGf_210_39, zGf_211_39, zGf_212_39, zGf_213_39, zGf_214_39, zPf_214_39, zGf_215_39, zGf_216_39, zAl_40, zAs_40, L_atb hi hj (show 0 ≤ (0 : Int) ∧ (0 : Int) ≤ 4 by omega), L_atb hi hj (show 0 ≤ (1 : Int) ∧ (1 : Int) ≤ 4 by omega), L_atb hi hj (show 0 ≤ (2 : Int) ∧ (2 : Int) ≤ 4 by omega)]
  have := hP (zu (zu (zu w 40 (3 + (25 * i + 5 * j + 0)) o) 40 (3 + (25 * i + 5 * j + 1)) x) 40 (3 + (25 * i + 5 * j + 2)) y) (zfr_w (zfr_w (zfr_w zfr_rf (by decide)) (by decide)) (by decide)) (fun a => by simp only [zu_d, true_and, Int.add_zero]; grind)
  (repeat' (first | assumption | (with_reducible refine And.intro ?_ ?_) | (intro hh; first | subst hh | skip)))
  all_goals omega
theorem L_isSmall {d : Nat} {p q r s : Int} {μ : zM} (hp : 0 ≤ p ∧ p ≤ 9) (hq : 0 ≤ q ∧ q ≤ 9) (hr : 0 ≤ r ∧ r ≤ 9) (hs : 0 ≤ s ∧ s ≤ 9) : zC (d + 5) 169 [(2, 39), (0, p), (0, q), (0, r), (0, s)] μ (fun x u => x = b01 (noC (smN p q r s) 3) ∧ zfr [(54, -1)] μ u) := by
  generalize hQ : (fun (x : Int) (u : zM) => x = b01 (noC (smN p q r s) 3) ∧ zfr [(54, -1)] μ u) = Q
  simp only [e169, k169_0, u169_80, k169_80, u169_81, k169_81, zO_nop, zO_goto, zO_iload_n0, zO_iload_n1, zO_iload_n2, zO_iload_n3, zO_iload, zO_lload_n0, zO_lload_n1, zO_lload_n2, zO_lload_n3, zO_lload, zO_aload_n0, zO_aload_n1, zO_aload_n2, zO_aload_n3, zO_aload, zO_istore_n0, zO_istore_n1, zO_istore_n2, zO_istore_n3, zO_istore, zO_astore_n0, zO_astore_n1, zO_astore_n2, zO_astore_n3, zO_astore, zO_lstore, zO_iinc, zO_iconst, zO_bipush, zO_sipush, zO_lconst0, zO_lconst1, zO_ldc, zO_ldc2_w, zO_iadd, zO_isub, zO_imul, zO_idiv, zO_irem, zO_ineg, zO_iand, zO_ior, zO_ixor, zO_ishl, zO_ishr, zO_iushr, zO_ladd, zO_lmul, zO_land, zO_lor, zO_lshl, zO_lcmp, zO_i2l, zO_l2i, zO_i2b, zO_dup0, zO_dup2, zO_dup200, zO_dup202, zO_dup220, zO_dup222, zO_ifCond_eq, zO_ifCond_ne, zO_ifCond_lt, zO_ifCond_ge, zO_ifCond_gt, zO_ifCond_le, zO_if_icmp_eq, zO_if_icmp_ne, zO_if_icmp_lt, zO_if_icmp_ge, zO_if_icmp_gt, zO_if_icmp_le, zO_getfield, zO_putfield, zO_iaload, zO_baload, zO_laload, zO_iastore, zO_bastore, zO_lastore, zO_arraylength, zO_invokevirtual, zO_lreturn, zO_areturn, zO_return_, zO_tableswitch, zO_lookupswitch, zO_is0, zO_is1, zO_is2, zO_is3, zO_is4, zO_is9, zO_is10, zO_is11, zO_is12, zO_ir1, zO_ir4, zB_c, zLd_0, zLd_s, zSt_c, zSt2_c, zU_c, zD_c, zY_c, zSw_n, zSw_c, zCall_c, zVirt_c, zP_0, zP_1, zP_2, zP_3, zP_4, zGet_n, zGet_z, zPut_n, zPut_z, zcw_n, zcw_0, zcw_1, zcw_2, List.length_cons, List.length_nil, List.take_succ_cons, List.take_zero, List.drop_succ_cons, List.drop_zero, List.reverse_cons, List.reverse_nil, List.nil_append, List.cons_append, List.append_nil, List.set_cons_zero, List.set_cons_succ, List.getD_cons_zero, List.getD_cons_succ, true_and, and_true, ne_eq, not_false_eq_true, not_true_eq_false, zif, Nat.reduceAdd, Nat.reduceLeDiff, Nat.reduceLT, Nat.reduceSub, Nat.reduceEqDiff, Nat.zero_le, Nat.lt_add_one, Nat.reduceMod, false_implies, true_implies, implies_true, forall_const, Int.reduceLE, Int.reduceLT, Int.reduceEq, Int.reduceNeg, ite10_0, ite10_1, zem, zem2, Classical.not_not, and_self, or_true, true_or, or_false, false_or, zT_39, zN_39, zGf_192_39, zGf_193_39, zGf_194_39, zPf_194_39, zGf_195_39, zGf_196_39, zGf_197_39, zGf_198_39, zPf_198_39, zGf_199_39, zPf_199_39, zGf_200_39, zPf_200_39, zGf_201_39, zGf_202_39, zPf_202_39, zGf_203_39, zGf_204_39, zPf_204_39, zGf_205_39, zGf_206_39, zGf_207_39, zGf_208_39, zGf_209_39, zGf_210_39, zGf_211_39, zGf_212_39, zGf_213_39, zGf_214_39, zPf_214_39, zGf_215_39, zGf_216_39, zAl_40, zAs_40, zAl_54, zAs_54, zT_40, zN_40, zT_54, zN_54, zCopy_c, Int.reduceAdd]
  have hw0 : zfr [(40, -1), (54, -1)] μ (zu (zu (zcp μ 40 54 0 0 195) 40 0 0) 40 1 3) := zfr_w (zfr_w (zfr_cp zfr_rf (by decide)) (by decide)) (by decide)
  generalize hw0e : zu (zu (zcp μ 40 54 0 0 195) 40 0 0) 40 1 3 = w0 at hw0 ⊢
  refine L_lays (d := d + 2) (by omega) (by omega) (fun u1 f1 g1 => ?_)
  refine L_lays (d := d + 2) (by omega) (by omega) (fun u2 f2 g2 => ?_)
  refine L_lays (d := d + 2) (by omega) (by omega) (fun u3 f3 g3 => ?_)
  refine L_lays (d := d + 2) (by omega) (by omega) (fun u f4 g4 => ?_)
  have fA : zfr [(40, -1)] w0 u := zfr_tr f1 (zfr_tr f2 (zfr_tr f3 f4))
  have k0 : u 40 0 = 0 := by
    rw [g4, g3, g2, g1, ← hw0e, zu_d, zu_d]; simp
  have k1 : u 40 1 = 3 := by
    rw [g4, g3, g2, g1, ← hw0e, zu_d]; simp
  have hN : ∀ a b c, zrg 3 a → zrg 3 b → zrg 3 c → nF u a b c = smN p q r s a b c := by
    intro a b c ha hb hc
    unfold nF oF smN
    rw [k0]
    by_cases h0 : a = 0 ∨ b = 0
    · rw [if_pos h0, if_pos h0]
    · rw [if_neg h0, if_neg h0]
      unfold zrg at ha hb hc
      simp only [Int.reduceEq, if_false, or_self]
      obtain ha | ha : a = 1 ∨ a = 2 := by omega
      all_goals obtain hb | hb : b = 1 ∨ b = 2 := by omega
      all_goals subst ha
      all_goals subst hb
      all_goals obtain hc | hc | hc : c = 0 ∨ c = 1 ∨ c = 2 := by omega
      all_goals subst hc
      all_goals (rw [g4, g3, g2, g1]; simp)
  have hnb : zNb 3 (nF u) := fun a b c ha hb hc => by
    rw [hN a b c ha hb hc]
    exact smN_b hp hq hr hs a b c ha hb hc
  refine zuse (L_firstClash (d := d) (n := 3) (by omega) k1 hnb) ?_
  rintro x w ⟨rfl, hc⟩
  have hx := isC_no (isC_ext hN hc)
  have hfin : zfr [(54, -1)] μ (zcp w 54 40 0 0 195) := by
    intro a i hai
    by_cases ha : a = 40
    · subst ha
      rw [zcp_d]
      by_cases hi : 0 ≤ i ∧ i < 195
      · rw [if_pos (by omega), zfr_c fA (by decide), ← hw0e]
        simp (disch := decide) only [zu_c]
        rw [zcp_d, if_pos (by omega)]
        congr 1
        omega
      · have e0 : w0 40 i = μ 40 i := by rw [← hw0e, zu_ne (by omega), zu_ne (by omega), zcp_c (by decide)]
        rw [if_neg (by omega), g4, if_neg (by omega), if_neg (by omega), if_neg (by omega), g3, if_neg (by omega), if_neg (by omega), if_neg (by omega), g2, if_neg (by omega), if_neg (by omega), if_neg (by omega), g1, if_neg (by omega), if_neg (by omega), if_neg (by omega), e0]
    · rw [zcp_c ha]
      rw [fA a i (zfq_c (by simpa using ha) i)]
      refine hw0 a i ?_
      unfold zfq at hai ⊢
      rw [List.any_eq_false] at hai ⊢
      intro y hy hb
      rcases List.mem_cons.mp hy with rfl | hy
      · simp only [Bool.and_eq_true, beq_iff_eq] at hb
        exact ha hb.1.symm
      · exact hai y hy hb
  rw [← hQ]
  (repeat' (first | assumption | (with_reducible refine And.intro ?_ ?_) | (intro hh; first | subst hh | skip)))
  all_goals (first | (rw [b01_y (hx.mp rfl)]; done) | (rw [b01_y (hx.mp (by assumption))]; done) | (rw [b01_n (fun z => absurd (hx.mpr z) (by assumption))]; done) | (first | assumption | (exfalso; omega) | omega | (simp (disch := decide) only [zu_c]; done) | (simp (disch := decide) only [zu_c]; grind) | grind))
