/-! WRITTEN -/
def pshC (μ : zM) (x : Int) : zM := zu (zu μ 33 (μ 0 11) x) 0 11 (μ 0 11 + 1)
def pshR (μ : zM) (x : Int) : zM := zu (zu μ 55 (μ 39 22) x) 39 22 (μ 39 22 + 1)
def wl (L v k : Int) : List Int := (if 0 < L then [43] else []) ++ ((if 100 ≤ v then [48 + v / 100] else []) ++ ((if 10 ≤ v then [48 + v / 10 % 10] else []) ++ ((if 1 < v then [48 + v % 10] else []) ++ [97 + k])))
theorem pshC_l {μ : zM} {x : Int} : pshC μ x 0 11 = μ 0 11 + 1 := zu_at _ _ _ _
theorem pshC_fr {μ : zM} {x : Int} : zfr [(0, 11), (33, -1)] μ (pshC μ x) := zfr_u (zfr_w zfr_rf (by decide)) (by decide)
theorem pshC_F {bs : List Int} : ∀ {μ : zM}, zfr [(0, 11), (33, -1)] μ (bs.foldl pshC μ) := by
  induction bs with
  | nil => intro μ; exact zfr_rf
  | cons x bs ih => intro μ; exact zfr_tr pshC_fr ih
theorem pshC_L {bs : List Int} : ∀ {μ : zM}, (bs.foldl pshC μ) 0 11 = μ 0 11 + (bs.length : Int) := by
  induction bs with
  | nil => intro μ; simp
  | cons x bs ih => intro μ; rw [List.foldl_cons, ih, pshC_l, List.length_cons]; omega
theorem pshC_lo {bs : List Int} : ∀ {μ : zM} {i : Int}, i < μ 0 11 → (bs.foldl pshC μ) 33 i = μ 33 i := by
  induction bs with
  | nil => intro μ i _; rfl
  | cons x bs ih =>
    intro μ i hi
    rw [List.foldl_cons, ih (by rw [pshC_l]; omega)]
    unfold pshC
    rw [zu_c (by decide), zu_ne (by omega)]
theorem pshC_G {bs : List Int} : ∀ {μ : zM} {i : Nat}, i < bs.length → (bs.foldl pshC μ) 33 (μ 0 11 + (i : Int)) = bs.getD i 0 := by
  induction bs with
  | nil => intro μ i hi; simp at hi
  | cons x bs ih =>
    intro μ i hi
    rw [List.foldl_cons]
    cases i with
    | zero =>
      rw [pshC_lo (by rw [pshC_l]; omega)]
      unfold pshC
      rw [zu_c (by decide)]
      simp [zu_at]
    | succ i =>
      have := ih (μ := pshC μ x) (i := i) (by simpa using hi)
      rw [pshC_l] at this
      rw [show μ 0 11 + ((i + 1 : Nat) : Int) = μ 0 11 + 1 + (i : Int) by omega, this]
      rfl
theorem pshR_l {μ : zM} {x : Int} : pshR μ x 39 22 = μ 39 22 + 1 := zu_at _ _ _ _
theorem pshR_fr {μ : zM} {x : Int} : zfr [(39, 22), (55, -1)] μ (pshR μ x) := zfr_u (zfr_w zfr_rf (by decide)) (by decide)
theorem pshR_F {bs : List Int} : ∀ {μ : zM}, zfr [(39, 22), (55, -1)] μ (bs.foldl pshR μ) := by
  induction bs with
  | nil => intro μ; exact zfr_rf
  | cons x bs ih => intro μ; exact zfr_tr pshR_fr ih
theorem pshR_L {bs : List Int} : ∀ {μ : zM}, (bs.foldl pshR μ) 39 22 = μ 39 22 + (bs.length : Int) := by
  induction bs with
  | nil => intro μ; simp
  | cons x bs ih => intro μ; rw [List.foldl_cons, ih, pshR_l, List.length_cons]; omega
theorem pshR_lo {bs : List Int} : ∀ {μ : zM} {i : Int}, i < μ 39 22 → (bs.foldl pshR μ) 55 i = μ 55 i := by
  induction bs with
  | nil => intro μ i _; rfl
  | cons x bs ih =>
    intro μ i hi
    rw [List.foldl_cons, ih (by rw [pshR_l]; omega)]
    unfold pshR
    rw [zu_c (by decide), zu_ne (by omega)]
theorem pshR_G {bs : List Int} : ∀ {μ : zM} {i : Nat}, i < bs.length → (bs.foldl pshR μ) 55 (μ 39 22 + (i : Int)) = bs.getD i 0 := by
  induction bs with
  | nil => intro μ i hi; simp at hi
  | cons x bs ih =>
    intro μ i hi
    rw [List.foldl_cons]
    cases i with
    | zero =>
      rw [pshR_lo (by rw [pshR_l]; omega)]
      unfold pshR
      rw [zu_c (by decide)]
      simp [zu_at]
    | succ i =>
      have := ih (μ := pshR μ x) (i := i) (by simpa using hi)
      rw [pshR_l] at this
      rw [show μ 39 22 + ((i + 1 : Nat) : Int) = μ 39 22 + 1 + (i : Int) by omega, this]
      rfl
theorem K_writeByte {d : Nat} {b : Int} {μ : zM} {P : Int → zM → Prop} (h : 0 ≤ μ 0 11 ∧ μ 0 11 < 24) (hb : 0 ≤ b ∧ b ≤ 127) : zC (d + 1) 103 [(2, 0), (0, b)] μ P ↔ P 0 (pshC μ b) := by
  have e1 : zb b = b := zb_e (by omega) (by omega)
  have e2 : zw (μ 0 11 + 1) = μ 0 11 + 1 := zw_e (by omega) (by omega)
  simp only [e103, k103_0, u103_30, k103_30, zO_nop, zO_goto, zO_iload_n0, zO_iload_n1, zO_iload_n2, zO_iload_n3, zO_iload, zO_lload_n0, zO_lload_n1, zO_lload_n2, zO_lload_n3, zO_lload, zO_aload_n0, zO_aload_n1, zO_aload_n2, zO_aload_n3, zO_aload, zO_istore_n0, zO_istore_n1, zO_istore_n2, zO_istore_n3, zO_istore, zO_astore_n0, zO_astore_n1, zO_astore_n2, zO_astore_n3, zO_astore, zO_lstore, zO_iinc, zO_iconst, zO_bipush, zO_sipush, zO_lconst0, zO_lconst1, zO_ldc, zO_ldc2_w, zO_iadd, zO_isub, zO_imul, zO_idiv, zO_irem, zO_ineg, zO_iand, zO_ior, zO_ixor, zO_ishl, zO_ishr, zO_iushr, zO_ladd, zO_lmul, zO_land, zO_lor, zO_lshl, zO_lcmp, zO_i2l, zO_l2i, zO_i2b, zO_dup0, zO_dup2, zO_dup200, zO_dup202, zO_dup220, zO_dup222, zO_ifCond_eq, zO_ifCond_ne, zO_ifCond_lt, zO_ifCond_ge, zO_ifCond_gt, zO_ifCond_le, zO_if_icmp_eq, zO_if_icmp_ne, zO_if_icmp_lt, zO_if_icmp_ge, zO_if_icmp_gt, zO_if_icmp_le, zO_getfield, zO_putfield, zO_iaload, zO_baload, zO_laload, zO_iastore, zO_bastore, zO_lastore, zO_arraylength, zO_invokevirtual, zO_lreturn, zO_areturn, zO_return_, zO_tableswitch, zO_lookupswitch, zO_is0, zO_is1, zO_is2, zO_is3, zO_is4, zO_is9, zO_is10, zO_is11, zO_is12, zO_ir1, zO_ir4, zB_c, zLd_0, zLd_s, zSt_c, zSt2_c, zU_c, zD_c, zY_c, zSw_n, zSw_c, zCall_c, zVirt_c, zP_0, zP_1, zP_2, zP_3, zP_4, zGet_n, zGet_z, zPut_n, zPut_z, zcw_n, zcw_0, zcw_1, zcw_2, List.length_cons, List.length_nil, List.take_succ_cons, List.take_zero, List.drop_succ_cons, List.drop_zero, List.reverse_cons, List.reverse_nil, List.nil_append, List.cons_append, List.append_nil, List.set_cons_zero, List.set_cons_succ, List.getD_cons_zero, List.getD_cons_succ, true_and, and_true, ne_eq, not_false_eq_true, not_true_eq_false, zif, Nat.reduceAdd, Nat.reduceLeDiff, Nat.reduceLT, Nat.reduceSub, Nat.reduceEqDiff, Nat.zero_le, Nat.lt_add_one, Nat.reduceMod, false_implies, true_implies, implies_true, forall_const, Int.reduceLE, Int.reduceLT, Int.reduceEq, Int.reduceNeg, ite10_0, ite10_1, zem, zem2, Classical.not_not, and_self, or_true, true_or, or_false, false_or, zT_0, zN_0, zGf_160_0, zGf_161_0, zGf_162_0, zPf_162_0, zGf_163_0, zGf_164_0, zGf_165_0, zGf_166_0, zGf_167_0, zPf_167_0, zGf_168_0, zPf_168_0, zGf_169_0, zGf_170_0, zGf_171_0, zPf_171_0, zGf_172_0, zGf_173_0, zGf_174_0, zGf_175_0, zGf_176_0, zAl_33, zAs_33, e1, zu_d, Int.reduceEq, false_and, if_false, e2, h.1, h.2]
  rfl
theorem L_writes {d : Nat} {b : Int} {μ : zM} {P : Int → zM → Prop} (h : 0 ≤ μ 39 22 ∧ μ 39 22 < 40) : zC (d + 1) 178 [(2, 39), (0, b)] μ P ↔ P 0 (pshR μ b) := by
  have e2 : zw (μ 39 22 + 1) = μ 39 22 + 1 := zw_e (by omega) (by omega)
  simp only [e178, k178_0, zO_nop, zO_goto, zO_iload_n0, zO_iload_n1, zO_iload_n2, zO_iload_n3, zO_iload, zO_lload_n0, zO_lload_n1, zO_lload_n2, zO_lload_n3, zO_lload, zO_aload_n0, zO_aload_n1, zO_aload_n2, zO_aload_n3, zO_aload, zO_istore_n0, zO_istore_n1, zO_istore_n2, zO_istore_n3, zO_istore, zO_astore_n0, zO_astore_n1, zO_astore_n2, zO_astore_n3, zO_astore, zO_lstore, zO_iinc, zO_iconst, zO_bipush, zO_sipush, zO_lconst0, zO_lconst1, zO_ldc, zO_ldc2_w, zO_iadd, zO_isub, zO_imul, zO_idiv, zO_irem, zO_ineg, zO_iand, zO_ior, zO_ixor, zO_ishl, zO_ishr, zO_iushr, zO_ladd, zO_lmul, zO_land, zO_lor, zO_lshl, zO_lcmp, zO_i2l, zO_l2i, zO_i2b, zO_dup0, zO_dup2, zO_dup200, zO_dup202, zO_dup220, zO_dup222, zO_ifCond_eq, zO_ifCond_ne, zO_ifCond_lt, zO_ifCond_ge, zO_ifCond_gt, zO_ifCond_le, zO_if_icmp_eq, zO_if_icmp_ne, zO_if_icmp_lt, zO_if_icmp_ge, zO_if_icmp_gt, zO_if_icmp_le, zO_getfield, zO_putfield, zO_iaload, zO_baload, zO_laload, zO_iastore, zO_bastore, zO_lastore, zO_arraylength, zO_invokevirtual, zO_lreturn, zO_areturn, zO_return_, zO_tableswitch, zO_lookupswitch, zO_is0, zO_is1, zO_is2, zO_is3, zO_is4, zO_is9, zO_is10, zO_is11, zO_is12, zO_ir1, zO_ir4, zB_c, zLd_0, zLd_s, zSt_c, zSt2_c, zU_c, zD_c, zY_c, zSw_n, zSw_c, zCall_c, zVirt_c, zP_0, zP_1, zP_2, zP_3, zP_4, zGet_n, zGet_z, zPut_n, zPut_z, zcw_n, zcw_0, zcw_1, zcw_2, List.length_cons, List.length_nil, List.take_succ_cons, List.take_zero, List.drop_succ_cons, List.drop_zero, List.reverse_cons, List.reverse_nil, List.nil_append, List.cons_append, List.append_nil, List.set_cons_zero, List.set_cons_succ, List.getD_cons_zero, List.getD_cons_succ, true_and, and_true, ne_eq, not_false_eq_true, not_true_eq_false, zif, Nat.reduceAdd, Nat.reduceLeDiff, Nat.reduceLT, Nat.reduceSub, Nat.reduceEqDiff, Nat.zero_le, Nat.lt_add_one, Nat.reduceMod, false_implies, true_implies, implies_true, forall_const, Int.reduceLE, Int.reduceLT, Int.reduceEq, Int.reduceNeg, ite10_0, ite10_1, zem, zem2, Classical.not_not, and_self, or_true, true_or, or_false, false_or, zT_39, zN_39, zGf_192_39, zGf_193_39, zGf_194_39, zPf_194_39, zGf_195_39, zGf_196_39, zGf_197_39, zGf_198_39, zPf_198_39, zGf_199_39, zPf_199_39, zGf_200_39, zPf_200_39, zGf_201_39, zGf_202_39, zPf_202_39, zGf_203_39, zGf_204_39, zPf_204_39, zGf_205_39, zGf_206_39, zGf_207_39, zGf_208_39, zGf_209_39, zGf_210_39, zGf_211_39, zGf_212_39, zGf_213_39, zGf_214_39, zPf_214_39, zGf_215_39, zGf_216_39, zAl_55, zAs_55, zu_d, Int.reduceEq, false_and, if_false, e2, h.1, h.2]
  rfl
theorem wl_len {L v k : Int} : (wl L v k).length ≤ 5 ∧ (¬ 0 < L → (wl L v k).length ≤ 4) ∧ 1 ≤ (wl L v k).length := by
  unfold wl
  by_cases h0 : 0 < L <;> by_cases h1 : 100 ≤ v <;> by_cases h2 : 10 ≤ v <;> by_cases h3 : 1 < v <;> simp [h0, h1, h2, h3]
theorem wdig {v : Int} (hv : 1 ≤ v ∧ v ≤ 999) : zw (48 + zw (v.tdiv 100)) = 48 + v / 100 ∧ zw (48 + (zw (v.tdiv 10)).tmod 10) = 48 + v / 10 % 10 ∧ zw (48 + v.tmod 10) = 48 + v % 10 ∧ zw (v.tdiv 10) = v / 10 := by
  have e1 : v.tdiv 100 = v / 100 := Int.tdiv_eq_ediv_of_nonneg (by omega)
  have e2 : v.tdiv 10 = v / 10 := Int.tdiv_eq_ediv_of_nonneg (by omega)
  have e3 : v.tmod 10 = v % 10 := Int.tmod_eq_emod_of_nonneg (by omega)
  have e4 : (v / 10).tmod 10 = v / 10 % 10 := Int.tmod_eq_emod_of_nonneg (by omega)
  rw [e1, e2, e3, zw_e (z := v / 100) (by omega) (by omega), zw_e (z := v / 10) (by omega) (by omega), e4]
  refine ⟨zw_e (by omega) (by omega), zw_e (by omega) (by omega), zw_e (by omega) (by omega), rfl⟩
theorem K_writeTerm {d : Nat} {v k : Int} {μ : zM} {P : Int → zM → Prop} (hv : 1 ≤ v ∧ v ≤ 999) (hk : 0 ≤ k ∧ k < 5) (hL : 0 ≤ μ 0 11 ∧ μ 0 11 + ((wl (μ 0 11) v k).length : Int) ≤ 24) : zC (d + 2) 102 [(2, 0), (0, v), (0, k)] μ P ↔ P 0 ((wl (μ 0 11) v k).foldl pshC μ) := by
  obtain ⟨d1, d2, d3, -⟩ := wdig hv
  have d4 : zw (97 + k) = 97 + k := zw_e (by omega) (by omega)
  obtain ⟨hL0, hL1⟩ := hL
  unfold wl at hL1 ⊢
  have go : ∀ {dd : Nat} {b : Int} {w : zM} {P : Int → zM → Prop}, 0 ≤ w 0 11 → w 0 11 < 24 → 0 ≤ b → b ≤ 127 → P 0 (pshC w b) → zC (dd + 1) 103 [(2, 0), (0, b)] w P := fun a b c e f => (K_writeByte ⟨a, b⟩ ⟨c, e⟩).mpr f
  refine zC_is ?_
  simp only [e102, k102_0, u102_13, k102_13, u102_30, k102_30, u102_50, k102_50, u102_66, k102_66, zO_nop, zO_goto, zO_iload_n0, zO_iload_n1, zO_iload_n2, zO_iload_n3, zO_iload, zO_lload_n0, zO_lload_n1, zO_lload_n2, zO_lload_n3, zO_lload, zO_aload_n0, zO_aload_n1, zO_aload_n2, zO_aload_n3, zO_aload, zO_istore_n0, zO_istore_n1, zO_istore_n2, zO_istore_n3, zO_istore, zO_astore_n0, zO_astore_n1, zO_astore_n2, zO_astore_n3, zO_astore, zO_lstore, zO_iinc, zO_iconst, zO_bipush, zO_sipush, zO_lconst0, zO_lconst1, zO_ldc, zO_ldc2_w, zO_iadd, zO_isub, zO_imul, zO_idiv, zO_irem, zO_ineg, zO_iand, zO_ior, zO_ixor, zO_ishl, zO_ishr, zO_iushr, zO_ladd, zO_lmul, zO_land, zO_lor, zO_lshl, zO_lcmp, zO_i2l, zO_l2i, zO_i2b, zO_dup0, zO_dup2, zO_dup200, zO_dup202, zO_dup220, zO_dup222, zO_ifCond_eq, zO_ifCond_ne, zO_ifCond_lt, zO_ifCond_ge, zO_ifCond_gt, zO_ifCond_le, zO_if_icmp_eq, zO_if_icmp_ne, zO_if_icmp_lt, zO_if_icmp_ge, zO_if_icmp_gt, zO_if_icmp_le, zO_getfield, zO_putfield, zO_iaload, zO_baload, zO_laload, zO_iastore, zO_bastore, zO_lastore, zO_arraylength, zO_invokevirtual, zO_lreturn, zO_areturn, zO_return_, zO_tableswitch, zO_lookupswitch, zO_is0, zO_is1, zO_is2, zO_is3, zO_is4, zO_is9, zO_is10, zO_is11, zO_is12, zO_ir1, zO_ir4, zB_c, zLd_0, zLd_s, zSt_c, zSt2_c, zU_c, zD_c, zY_c, zSw_n, zSw_c, zCall_c, zVirt_c, zP_0, zP_1, zP_2, zP_3, zP_4, zGet_n, zGet_z, zPut_n, zPut_z, zcw_n, zcw_0, zcw_1, zcw_2, List.length_cons, List.length_nil, List.take_succ_cons, List.take_zero, List.drop_succ_cons, List.drop_zero, List.reverse_cons, List.reverse_nil, List.nil_append, List.cons_append, List.append_nil, List.set_cons_zero, List.set_cons_succ, List.getD_cons_zero, List.getD_cons_succ, true_and, and_true, ne_eq, not_false_eq_true, not_true_eq_false, zif, Nat.reduceAdd, Nat.reduceLeDiff, Nat.reduceLT, Nat.reduceSub, Nat.reduceEqDiff, Nat.zero_le, Nat.lt_add_one, Nat.reduceMod, false_implies, true_implies, implies_true, forall_const, Int.reduceLE, Int.reduceLT, Int.reduceEq, Int.reduceNeg, ite10_0, ite10_1, zem, zem2, Classical.not_not, and_self, or_true, true_or, or_false, false_or, zT_0, zN_0, zGf_160_0, zGf_161_0, zGf_162_0, zPf_162_0, zGf_163_0, zGf_164_0, zGf_165_0, zGf_166_0, zGf_167_0, zPf_167_0, zGf_168_0, zPf_168_0, zGf_169_0, zGf_170_0, zGf_171_0, zPf_171_0, zGf_172_0, zGf_173_0, zGf_174_0, zGf_175_0, zGf_176_0, d1, d2, d3, d4]
  by_cases h0 : 0 < μ 0 11 <;> by_cases h1 : 100 ≤ v <;> by_cases h2 : 10 ≤ v <;> by_cases h3 : 1 < v
  all_goals (first | (exfalso; omega) | skip)
  all_goals simp only [h0, h1, h2, h3, if_true, if_false, List.nil_append, List.cons_append, List.length_cons, List.length_nil, List.foldl_cons, List.foldl_nil, true_implies, not_true_eq_false, false_implies, and_true, true_and] at hL1 ⊢
  all_goals (repeat' (first | (with_reducible refine And.intro ?_ ?_) | (refine go ?_ ?_ ?_ ?_ ?_) | (intro hh)))
  all_goals (first | rfl | omega | (exfalso; omega) | (simp only [pshC_l]; omega))
theorem L_wn1 {d : Nat} {v : Int} {μ : zM} {P : Int → zM → Prop} (hv : 0 ≤ v ∧ v ≤ 9) (h : 0 ≤ μ 39 22 ∧ μ 39 22 < 40) : zC (d + 2) 179 [(2, 39), (0, v)] μ P ↔ P 0 (pshR μ (48 + v)) := by
  have e3 : v.tmod 10 = v := by rw [Int.tmod_eq_emod_of_nonneg (by omega)]; omega
  have e4 : zw (48 + v) = 48 + v := zw_e (by omega) (by omega)
  have e5 : ¬ 9 < v := by omega
  simp only [e179, k179_0, u179_14, k179_14, zO_nop, zO_goto, zO_iload_n0, zO_iload_n1, zO_iload_n2, zO_iload_n3, zO_iload, zO_lload_n0, zO_lload_n1, zO_lload_n2, zO_lload_n3, zO_lload, zO_aload_n0, zO_aload_n1, zO_aload_n2, zO_aload_n3, zO_aload, zO_istore_n0, zO_istore_n1, zO_istore_n2, zO_istore_n3, zO_istore, zO_astore_n0, zO_astore_n1, zO_astore_n2, zO_astore_n3, zO_astore, zO_lstore, zO_iinc, zO_iconst, zO_bipush, zO_sipush, zO_lconst0, zO_lconst1, zO_ldc, zO_ldc2_w, zO_iadd, zO_isub, zO_imul, zO_idiv, zO_irem, zO_ineg, zO_iand, zO_ior, zO_ixor, zO_ishl, zO_ishr, zO_iushr, zO_ladd, zO_lmul, zO_land, zO_lor, zO_lshl, zO_lcmp, zO_i2l, zO_l2i, zO_i2b, zO_dup0, zO_dup2, zO_dup200, zO_dup202, zO_dup220, zO_dup222, zO_ifCond_eq, zO_ifCond_ne, zO_ifCond_lt, zO_ifCond_ge, zO_ifCond_gt, zO_ifCond_le, zO_if_icmp_eq, zO_if_icmp_ne, zO_if_icmp_lt, zO_if_icmp_ge, zO_if_icmp_gt, zO_if_icmp_le, zO_getfield, zO_putfield, zO_iaload, zO_baload, zO_laload, zO_iastore, zO_bastore, zO_lastore, zO_arraylength, zO_invokevirtual, zO_lreturn, zO_areturn, zO_return_, zO_tableswitch, zO_lookupswitch, zO_is0, zO_is1, zO_is2, zO_is3, zO_is4, zO_is9, zO_is10, zO_is11, zO_is12, zO_ir1, zO_ir4, zB_c, zLd_0, zLd_s, zSt_c, zSt2_c, zU_c, zD_c, zY_c, zSw_n, zSw_c, zCall_c, zVirt_c, zP_0, zP_1, zP_2, zP_3, zP_4, zGet_n, zGet_z, zPut_n, zPut_z, zcw_n, zcw_0, zcw_1, zcw_2, List.length_cons, List.length_nil, List.take_succ_cons, List.take_zero, List.drop_succ_cons, List.drop_zero, List.reverse_cons, List.reverse_nil, List.nil_append, List.cons_append, List.append_nil, List.set_cons_zero, List.set_cons_succ, List.getD_cons_zero, List.getD_cons_succ, true_and, and_true, ne_eq, not_false_eq_true, not_true_eq_false, zif, Nat.reduceAdd, Nat.reduceLeDiff, Nat.reduceLT, Nat.reduceSub, Nat.reduceEqDiff, Nat.zero_le, Nat.lt_add_one, Nat.reduceMod, false_implies, true_implies, implies_true, forall_const, Int.reduceLE, Int.reduceLT, Int.reduceEq, Int.reduceNeg, ite10_0, ite10_1, zem, zem2, Classical.not_not, and_self, or_true, true_or, or_false, false_or, zT_39, zN_39, zGf_192_39, zGf_193_39, zGf_194_39, zPf_194_39, zGf_195_39, zGf_196_39, zGf_197_39, zGf_198_39, zPf_198_39, zGf_199_39, zPf_199_39, zGf_200_39, zPf_200_39, zGf_201_39, zGf_202_39, zPf_202_39, zGf_203_39, zGf_204_39, zPf_204_39, zGf_205_39, zGf_206_39, zGf_207_39, zGf_208_39, zGf_209_39, zGf_210_39, zGf_211_39, zGf_212_39, zGf_213_39, zGf_214_39, zPf_214_39, zGf_215_39, zGf_216_39, e3, e4, L_writes h, e5]
theorem L_wn2 {d : Nat} {v : Int} {μ : zM} {P : Int → zM → Prop} (hv : 10 ≤ v ∧ v ≤ 99) (h : 0 ≤ μ 39 22 ∧ μ 39 22 < 39) : zC (d + 3) 179 [(2, 39), (0, v)] μ P ↔ P 0 (pshR (pshR μ (48 + v / 10)) (48 + v % 10)) := by
  obtain ⟨-, -, d3, d4⟩ := wdig (v := v) (by omega)
  have e5 : 9 < v := by omega
  have e6 : ¬ 9 < v / 10 := by omega
  have e7 : (v / 10).tmod 10 = v / 10 := by rw [Int.tmod_eq_emod_of_nonneg (by omega)]; omega
  have e8 : zw (48 + v / 10) = 48 + v / 10 := zw_e (by omega) (by omega)
  simp only [e179, k179_0, u179_14, k179_14, zO_nop, zO_goto, zO_iload_n0, zO_iload_n1, zO_iload_n2, zO_iload_n3, zO_iload, zO_lload_n0, zO_lload_n1, zO_lload_n2, zO_lload_n3, zO_lload, zO_aload_n0, zO_aload_n1, zO_aload_n2, zO_aload_n3, zO_aload, zO_istore_n0, zO_istore_n1, zO_istore_n2, zO_istore_n3, zO_istore, zO_astore_n0, zO_astore_n1, zO_astore_n2, zO_astore_n3, zO_astore, zO_lstore, zO_iinc, zO_iconst, zO_bipush, zO_sipush, zO_lconst0, zO_lconst1, zO_ldc, zO_ldc2_w, zO_iadd, zO_isub, zO_imul, zO_idiv, zO_irem, zO_ineg, zO_iand, zO_ior, zO_ixor, zO_ishl, zO_ishr, zO_iushr, zO_ladd, zO_lmul, zO_land, zO_lor, zO_lshl, zO_lcmp, zO_i2l, zO_l2i, zO_i2b, zO_dup0, zO_dup2, zO_dup200, zO_dup202, zO_dup220, zO_dup222, zO_ifCond_eq, zO_ifCond_ne, zO_ifCond_lt, zO_ifCond_ge, zO_ifCond_gt, zO_ifCond_le, zO_if_icmp_eq, zO_if_icmp_ne, zO_if_icmp_lt, zO_if_icmp_ge, zO_if_icmp_gt, zO_if_icmp_le, zO_getfield, zO_putfield, zO_iaload, zO_baload, zO_laload, zO_iastore, zO_bastore, zO_lastore, zO_arraylength, zO_invokevirtual, zO_lreturn, zO_areturn, zO_return_, zO_tableswitch, zO_lookupswitch, zO_is0, zO_is1, zO_is2, zO_is3, zO_is4, zO_is9, zO_is10, zO_is11, zO_is12, zO_ir1, zO_ir4, zB_c, zLd_0, zLd_s, zSt_c, zSt2_c, zU_c, zD_c, zY_c, zSw_n, zSw_c, zCall_c, zVirt_c, zP_0, zP_1, zP_2, zP_3, zP_4, zGet_n, zGet_z, zPut_n, zPut_z, zcw_n, zcw_0, zcw_1, zcw_2, List.length_cons, List.length_nil, List.take_succ_cons, List.take_zero, List.drop_succ_cons, List.drop_zero, List.reverse_cons, List.reverse_nil, List.nil_append, List.cons_append, List.append_nil, List.set_cons_zero, List.set_cons_succ, List.getD_cons_zero, List.getD_cons_succ, true_and, and_true, ne_eq, not_false_eq_true, not_true_eq_false, zif, Nat.reduceAdd, Nat.reduceLeDiff, Nat.reduceLT, Nat.reduceSub, Nat.reduceEqDiff, Nat.zero_le, Nat.lt_add_one, Nat.reduceMod, false_implies, true_implies, implies_true, forall_const, Int.reduceLE, Int.reduceLT, Int.reduceEq, Int.reduceNeg, ite10_0, ite10_1, zem, zem2, Classical.not_not, and_self, or_true, true_or, or_false, false_or, zT_39, zN_39, zGf_192_39, zGf_193_39, zGf_194_39, zPf_194_39, zGf_195_39, zGf_196_39, zGf_197_39, zGf_198_39, zPf_198_39, zGf_199_39, zPf_199_39, zGf_200_39, zPf_200_39, zGf_201_39, zGf_202_39, zPf_202_39, zGf_203_39, zGf_204_39, zPf_204_39, zGf_205_39, zGf_206_39, zGf_207_39, zGf_208_39, zGf_209_39, zGf_210_39, zGf_211_39, zGf_212_39, zGf_213_39, zGf_214_39, zPf_214_39, zGf_215_39, zGf_216_39, d3, d4, e5, e6, e7, e8]
  rw [L_writes (d := d) (by omega), L_writes (d := d + 1) (by rw [pshR_l]; omega)]
theorem L_wn3 {d : Nat} {v : Int} {μ : zM} {P : Int → zM → Prop} (hv : 100 ≤ v ∧ v ≤ 999) (h : 0 ≤ μ 39 22 ∧ μ 39 22 < 38) : zC (d + 4) 179 [(2, 39), (0, v)] μ P ↔ P 0 (pshR (pshR (pshR μ (48 + v / 100)) (48 + v / 10 % 10)) (48 + v % 10)) := by
  obtain ⟨-, -, d3, d4⟩ := wdig (v := v) (by omega)
  obtain ⟨-, -, c3, c4⟩ := wdig (v := v / 10) (by omega)
  have e5 : 9 < v := by omega
  have e6 : 9 < v / 10 := by omega
  have e9 : ¬ 9 < v / 10 / 10 := by omega
  have e7 : (v / 10 / 10).tmod 10 = v / 10 / 10 := by rw [Int.tmod_eq_emod_of_nonneg (by omega)]; omega
  have e8 : zw (48 + v / 10 / 10) = 48 + v / 10 / 10 := zw_e (by omega) (by omega)
  simp only [e179, k179_0, u179_14, k179_14, zO_nop, zO_goto, zO_iload_n0, zO_iload_n1, zO_iload_n2, zO_iload_n3, zO_iload, zO_lload_n0, zO_lload_n1, zO_lload_n2, zO_lload_n3, zO_lload, zO_aload_n0, zO_aload_n1, zO_aload_n2, zO_aload_n3, zO_aload, zO_istore_n0, zO_istore_n1, zO_istore_n2, zO_istore_n3, zO_istore, zO_astore_n0, zO_astore_n1, zO_astore_n2, zO_astore_n3, zO_astore, zO_lstore, zO_iinc, zO_iconst, zO_bipush, zO_sipush, zO_lconst0, zO_lconst1, zO_ldc, zO_ldc2_w, zO_iadd, zO_isub, zO_imul, zO_idiv, zO_irem, zO_ineg, zO_iand, zO_ior, zO_ixor, zO_ishl, zO_ishr, zO_iushr, zO_ladd, zO_lmul, zO_land, zO_lor, zO_lshl, zO_lcmp, zO_i2l, zO_l2i, zO_i2b, zO_dup0, zO_dup2, zO_dup200, zO_dup202, zO_dup220, zO_dup222, zO_ifCond_eq, zO_ifCond_ne, zO_ifCond_lt, zO_ifCond_ge, zO_ifCond_gt, zO_ifCond_le, zO_if_icmp_eq, zO_if_icmp_ne, zO_if_icmp_lt, zO_if_icmp_ge, zO_if_icmp_gt, zO_if_icmp_le, zO_getfield, zO_putfield, zO_iaload, zO_baload, zO_laload, zO_iastore, zO_bastore, zO_lastore, zO_arraylength, zO_invokevirtual, zO_lreturn, zO_areturn, zO_return_, zO_tableswitch, zO_lookupswitch, zO_is0, zO_is1, zO_is2, zO_is3, zO_is4, zO_is9, zO_is10, zO_is11, zO_is12, zO_ir1, zO_ir4, zB_c, zLd_0, zLd_s, zSt_c, zSt2_c, zU_c, zD_c, zY_c, zSw_n, zSw_c, zCall_c, zVirt_c, zP_0, zP_1, zP_2, zP_3, zP_4, zGet_n, zGet_z, zPut_n, zPut_z, zcw_n, zcw_0, zcw_1, zcw_2, List.length_cons, List.length_nil, List.take_succ_cons, List.take_zero, List.drop_succ_cons, List.drop_zero, List.reverse_cons, List.reverse_nil, List.nil_append, List.cons_append, List.append_nil, List.set_cons_zero, List.set_cons_succ, List.getD_cons_zero, List.getD_cons_succ, true_and, and_true, ne_eq, not_false_eq_true, not_true_eq_false, zif, Nat.reduceAdd, Nat.reduceLeDiff, Nat.reduceLT, Nat.reduceSub, Nat.reduceEqDiff, Nat.zero_le, Nat.lt_add_one, Nat.reduceMod, false_implies, true_implies, implies_true, forall_const, Int.reduceLE, Int.reduceLT, Int.reduceEq, Int.reduceNeg, ite10_0, ite10_1, zem, zem2, Classical.not_not, and_self, or_true, true_or, or_false, false_or, zT_39, zN_39, zGf_192_39, zGf_193_39, zGf_194_39, zPf_194_39, zGf_195_39, zGf_196_39, zGf_197_39, zGf_198_39, zPf_198_39, zGf_199_39, zPf_199_39, zGf_200_39, zPf_200_39, zGf_201_39, zGf_202_39, zPf_202_39, zGf_203_39, zGf_204_39, zPf_204_39, zGf_205_39, zGf_206_39, zGf_207_39, zGf_208_39, zGf_209_39, zGf_210_39, zGf_211_39, zGf_212_39, zGf_213_39, zGf_214_39, zPf_214_39, zGf_215_39, zGf_216_39, d3, d4, c3, c4, e5, e6, e7, e8, e9]
  rw [L_writes (d := d) (by omega), L_writes (d := d + 1) (by rw [pshR_l]; omega), L_writes (d := d + 2) (by rw [pshR_l, pshR_l]; omega), show v / 10 / 10 = v / 100 by omega]
/-- all that is written of an ELEMENT's first SORTS -/
def TLs (f : Int → Int) : Nat → List Int
  | 0 => []
  | t + 1 => TLs f t ++ (if 0 < f t then wl ((TLs f t).length) (f t) t else [])
theorem TLs_len {f : Int → Int} : ∀ t : Nat, (TLs f t).length = 0 ∨ (TLs f t).length + 1 ≤ 5 * t
  | 0 => Or.inl rfl
  | t + 1 => by
    have ih := TLs_len (f := f) t
    unfold TLs
    rw [List.length_append]
    by_cases h : 0 < f t
    · rw [if_pos h]
      obtain ⟨w1, w2, w3⟩ := wl_len (L := ((TLs f t).length : Int)) (v := f t) (k := t)
      by_cases c : 0 < ((TLs f t).length : Int)
      · omega
      · have := w2 c; omega
    · rw [if_neg h]
      simp only [List.length_nil]
      omega
def TLe (f : Int → Int) (n : Int) : List Int := if (TLs f n.toNat).length = 0 then [48] else TLs f n.toNat
theorem K_write {d : Nat} {e : Int} {μ : zM} (hr : Rel μ) (he : 0 ≤ e ∧ e < 4) : zC (d + 3) 79 [(2, 0), (0, e)] μ (fun r u => r = ((TLe (fun k => μ 3 (5 * e + k)) (μ 1 1)).length : Int) ∧ u = (TLe (fun k => μ 3 (5 * e + k)) (μ 1 1)).foldl pshC (zu μ 0 11 0)) := by
  have hn := (Rel_n hr).1
  obtain ⟨q0, q1, q2, q3, q4, q5, q6, q7, q8, q9⟩ := rH_1.mp hr.1
  obtain ⟨f, hf⟩ : ∃ f : Int → Int, f = fun k => μ 3 (5 * e + k) := ⟨_, rfl⟩
  rw [← hf]
  generalize hQ : (fun (r : Int) (u : zM) => r = ((TLe f (μ 1 1)).length : Int) ∧ u = (TLe f (μ 1 1)).foldl pshC (zu μ 0 11 0)) = Q
  have hfb : ∀ k, zrg (μ 1 1) k → 0 ≤ f k ∧ f k ≤ 999 := fun k hk => by rw [hf]; exact (q4 (5 * e + k) (by have := hk.1; omega) (by have := hk.2; omega)).1
  have hl : ∀ t (s : Unit), 0 ≤ t → t ≤ μ 1 1 → True → ∀ x, zR (d + 2) 79 Q 16 [(2, 0), (0, e), (0, t), x] [] ((TLs f t.toNat).foldl pshC (zu μ 0 11 0)) := by
    refine zloop (n := μ 1 1) (Inv := fun t (_ : Unit) => True) (R := fun t _ => ∀ x, zR (d + 2) 79 Q 16 [(2, 0), (0, e), (0, t), x] [] ((TLs f t.toNat).foldl pshC (zu μ 0 11 0))) ?_ ?_
    · rintro t _ t0 t1 _ ih x
      have hw := zfr_tr (zfr_u (a := 0) (i := 11) (v := 0) (zfr_rf (S := [(0, 11), (33, -1)]) (μ := μ)) (by decide)) (pshC_F (bs := TLs f t.toNat) (μ := zu μ 0 11 0))
      have hL := pshC_L (bs := TLs f t.toNat) (μ := zu μ 0 11 0)
      rw [zu_at] at hL
      have ihx := ih () trivial
      have et : (t + 1).toNat = t.toNat + 1 := by omega
      have etc : ((t.toNat : Nat) : Int) = t := by omega
      rw [et] at ihx
      have eT : TLs f (t.toNat + 1) = TLs f t.toNat ++ (if 0 < f t then wl ((TLs f t.toNat).length) (f t) t else []) := by
        show TLs f t.toNat ++ (if 0 < f ((t.toNat : Nat) : Int) then wl ((TLs f t.toNat).length) (f ((t.toNat : Nat) : Int)) ((t.toNat : Nat) : Int) else []) = _
        rw [etc]
      rw [eT, List.foldl_append] at ihx
      have hlen := TLs_len (f := f) t.toNat
      generalize hwg : (TLs f t.toNat).foldl pshC (zu μ 0 11 0) = w at hw hL ihx ⊢
      have e1 : w 1 = μ 1 := zfr_c hw (by decide)
      have e3 : w 3 = μ 3 := zfr_c hw (by decide)
      have eb : zw (zw (e * 5) + t) = 5 * e + t := by simp (disch := omega) only [zw_e]; omega
      have ef : μ 3 (5 * e + t) = f t := by rw [hf]
      have hft := hfb t ⟨t0, t1⟩
      rw [u79_16]
      simp only [k79_16, e79, k79_0, u79_9, k79_9, u79_51, k79_51, u79_57, k79_57, u79_70, k79_70, zO_nop, zO_goto, zO_iload_n0, zO_iload_n1, zO_iload_n2, zO_iload_n3, zO_iload, zO_lload_n0, zO_lload_n1, zO_lload_n2, zO_lload_n3, zO_lload, zO_aload_n0, zO_aload_n1, zO_aload_n2, zO_aload_n3, zO_aload, zO_istore_n0, zO_istore_n1, zO_istore_n2, zO_istore_n3, zO_istore, zO_astore_n0, zO_astore_n1, zO_astore_n2, zO_astore_n3, zO_astore, zO_lstore, zO_iinc, zO_iconst, zO_bipush, zO_sipush, zO_lconst0, zO_lconst1, zO_ldc, zO_ldc2_w, zO_iadd, zO_isub, zO_imul, zO_idiv, zO_irem, zO_ineg, zO_iand, zO_ior, zO_ixor, zO_ishl, zO_ishr, zO_iushr, zO_ladd, zO_lmul, zO_land, zO_lor, zO_lshl, zO_lcmp, zO_i2l, zO_l2i, zO_i2b, zO_dup0, zO_dup2, zO_dup200, zO_dup202, zO_dup220, zO_dup222, zO_ifCond_eq, zO_ifCond_ne, zO_ifCond_lt, zO_ifCond_ge, zO_ifCond_gt, zO_ifCond_le, zO_if_icmp_eq, zO_if_icmp_ne, zO_if_icmp_lt, zO_if_icmp_ge, zO_if_icmp_gt, zO_if_icmp_le, zO_getfield, zO_putfield, zO_iaload, zO_baload, zO_laload, zO_iastore, zO_bastore, zO_lastore, zO_arraylength, zO_invokevirtual, zO_lreturn, zO_areturn, zO_return_, zO_tableswitch, zO_lookupswitch, zO_is0, zO_is1, zO_is2, zO_is3, zO_is4, zO_is9, zO_is10, zO_is11, zO_is12, zO_ir1, zO_ir4, zB_c, zLd_0, zLd_s, zSt_c, zSt2_c, zU_c, zD_c, zY_c, zSw_n, zSw_c, zCall_c, zVirt_c, zP_0, zP_1, zP_2, zP_3, zP_4, zGet_n, zGet_z, zPut_n, zPut_z, zcw_n, zcw_0, zcw_1, zcw_2, List.length_cons, List.length_nil, List.take_succ_cons, List.take_zero, List.drop_succ_cons, List.drop_zero, List.reverse_cons, List.reverse_nil, List.nil_append, List.cons_append, List.append_nil, List.set_cons_zero, List.set_cons_succ, List.getD_cons_zero, List.getD_cons_succ, true_and, and_true, ne_eq, not_false_eq_true, not_true_eq_false, zif, Nat.reduceAdd, Nat.reduceLeDiff, Nat.reduceLT, Nat.reduceSub, Nat.reduceEqDiff, Nat.zero_le, Nat.lt_add_one, Nat.reduceMod, false_implies, true_implies, implies_true, forall_const, Int.reduceLE, Int.reduceLT, Int.reduceEq, Int.reduceNeg, ite10_0, ite10_1, zem, zem2, Classical.not_not, and_self, or_true, true_or, or_false, false_or, zT_0, zN_0, zGf_160_0, zGf_161_0, zGf_162_0, zPf_162_0, zGf_163_0, zGf_164_0, zGf_165_0, zGf_166_0, zGf_167_0, zPf_167_0, zGf_168_0, zPf_168_0, zGf_169_0, zGf_170_0, zGf_171_0, zPf_171_0, zGf_172_0, zGf_173_0, zGf_174_0, zGf_175_0, zGf_176_0, zT_1, zN_1, zGf_64_1, zPf_64_1, zGf_65_1, zPf_65_1, zGf_66_1, zPf_66_1, zGf_67_1, zGf_68_1, zGf_69_1, zGf_70_1, zGf_71_1, zGf_72_1, zGf_73_1, zPf_73_1, zAl_3, zAs_3, e1, e3, eb, ef]
      rw [zw_e (z := t + 1) (by omega) (by omega)]
      refine ⟨fun _ => ⟨by omega, by omega, fun h => ?_, fun h => ?_⟩, fun h => absurd t1 h⟩
      · rw [if_pos h] at ihx
        obtain ⟨w1, w2, w3⟩ := wl_len (L := ((TLs f t.toNat).length : Int)) (v := f t) (k := t)
        rw [K_writeTerm (d := d) ⟨by omega, hft.2⟩ ⟨t0, by omega⟩ ⟨by omega, by
          rw [hL, Int.zero_add]
          by_cases c : 0 < ((TLs f t.toNat).length : Int)
          · omega
          · have := w2 c; omega⟩, hL, Int.zero_add]
        exact ihx _
      · rw [if_neg h] at ihx
        exact ihx _
    · rintro _ _ x
      have hw := zfr_tr (zfr_u (a := 0) (i := 11) (v := 0) (zfr_rf (S := [(0, 11), (33, -1)]) (μ := μ)) (by decide)) (pshC_F (bs := TLs f (μ 1 1).toNat) (μ := zu μ 0 11 0))
      have hL := pshC_L (bs := TLs f (μ 1 1).toNat) (μ := zu μ 0 11 0)
      rw [zu_at] at hL
      have hlen := TLs_len (f := f) (μ 1 1).toNat
      have hfin : ((TLs f (μ 1 1).toNat).length = 0 → Q 1 (pshC ((TLs f (μ 1 1).toNat).foldl pshC (zu μ 0 11 0)) 48)) ∧ (¬ (TLs f (μ 1 1).toNat).length = 0 → Q ((TLs f (μ 1 1).toNat).length : Int) ((TLs f (μ 1 1).toNat).foldl pshC (zu μ 0 11 0))) := by
        refine ⟨fun h => ?_, fun h => ?_⟩
        · rw [← hQ]
          unfold TLe
          rw [if_pos h, List.length_eq_zero_iff.mp h]
          exact ⟨rfl, rfl⟩
        · rw [← hQ]
          unfold TLe
          rw [if_neg h]
          exact ⟨rfl, rfl⟩
      generalize hwg : (TLs f (μ 1 1).toNat).foldl pshC (zu μ 0 11 0) = w at hw hL hfin ⊢
      have e1 : w 1 = μ 1 := zfr_c hw (by decide)
      rw [Int.zero_add] at hL
      rw [u79_16]
      simp only [k79_16, e79, k79_0, u79_9, k79_9, u79_51, k79_51, u79_57, k79_57, u79_70, k79_70, zO_nop, zO_goto, zO_iload_n0, zO_iload_n1, zO_iload_n2, zO_iload_n3, zO_iload, zO_lload_n0, zO_lload_n1, zO_lload_n2, zO_lload_n3, zO_lload, zO_aload_n0, zO_aload_n1, zO_aload_n2, zO_aload_n3, zO_aload, zO_istore_n0, zO_istore_n1, zO_istore_n2, zO_istore_n3, zO_istore, zO_astore_n0, zO_astore_n1, zO_astore_n2, zO_astore_n3, zO_astore, zO_lstore, zO_iinc, zO_iconst, zO_bipush, zO_sipush, zO_lconst0, zO_lconst1, zO_ldc, zO_ldc2_w, zO_iadd, zO_isub, zO_imul, zO_idiv, zO_irem, zO_ineg, zO_iand, zO_ior, zO_ixor, zO_ishl, zO_ishr, zO_iushr, zO_ladd, zO_lmul, zO_land, zO_lor, zO_lshl, zO_lcmp, zO_i2l, zO_l2i, zO_i2b, zO_dup0, zO_dup2, zO_dup200, zO_dup202, zO_dup220, zO_dup222, zO_ifCond_eq, zO_ifCond_ne, zO_ifCond_lt, zO_ifCond_ge, zO_ifCond_gt, zO_ifCond_le, zO_if_icmp_eq, zO_if_icmp_ne, zO_if_icmp_lt, zO_if_icmp_ge, zO_if_icmp_gt, zO_if_icmp_le, zO_getfield, zO_putfield, zO_iaload, zO_baload, zO_laload, zO_iastore, zO_bastore, zO_lastore, zO_arraylength, zO_invokevirtual, zO_lreturn, zO_areturn, zO_return_, zO_tableswitch, zO_lookupswitch, zO_is0, zO_is1, zO_is2, zO_is3, zO_is4, zO_is9, zO_is10, zO_is11, zO_is12, zO_ir1, zO_ir4, zB_c, zLd_0, zLd_s, zSt_c, zSt2_c, zU_c, zD_c, zY_c, zSw_n, zSw_c, zCall_c, zVirt_c, zP_0, zP_1, zP_2, zP_3, zP_4, zGet_n, zGet_z, zPut_n, zPut_z, zcw_n, zcw_0, zcw_1, zcw_2, List.length_cons, List.length_nil, List.take_succ_cons, List.take_zero, List.drop_succ_cons, List.drop_zero, List.reverse_cons, List.reverse_nil, List.nil_append, List.cons_append, List.append_nil, List.set_cons_zero, List.set_cons_succ, List.getD_cons_zero, List.getD_cons_succ, true_and, and_true, ne_eq, not_false_eq_true, not_true_eq_false, zif, Nat.reduceAdd, Nat.reduceLeDiff, Nat.reduceLT, Nat.reduceSub, Nat.reduceEqDiff, Nat.zero_le, Nat.lt_add_one, Nat.reduceMod, false_implies, true_implies, implies_true, forall_const, Int.reduceLE, Int.reduceLT, Int.reduceEq, Int.reduceNeg, ite10_0, ite10_1, zem, zem2, Classical.not_not, and_self, or_true, true_or, or_false, false_or, zT_0, zN_0, zGf_160_0, zGf_161_0, zGf_162_0, zPf_162_0, zGf_163_0, zGf_164_0, zGf_165_0, zGf_166_0, zGf_167_0, zPf_167_0, zGf_168_0, zPf_168_0, zGf_169_0, zGf_170_0, zGf_171_0, zPf_171_0, zGf_172_0, zGf_173_0, zGf_174_0, zGf_175_0, zGf_176_0, zT_1, zN_1, zGf_64_1, zPf_64_1, zGf_65_1, zPf_65_1, zGf_66_1, zPf_66_1, zGf_67_1, zGf_68_1, zGf_69_1, zGf_70_1, zGf_71_1, zGf_72_1, zGf_73_1, zPf_73_1, zAl_3, zAs_3, e1, hL]
      refine ⟨fun e => absurd e (by omega), fun _ => ⟨fun h => ?_, fun h => hfin.2 (by omega)⟩⟩
      rw [K_writeByte (d := d + 1) (by omega) (by omega), pshC_l, hL, h]
      exact hfin.1 (by omega)
  have hm := hl 0 () (by omega) (by omega) trivial (9, 0)
  simp only [e79, k79_0, e79, k79_0, u79_9, k79_9, u79_51, k79_51, u79_57, k79_57, u79_70, k79_70, zO_nop, zO_goto, zO_iload_n0, zO_iload_n1, zO_iload_n2, zO_iload_n3, zO_iload, zO_lload_n0, zO_lload_n1, zO_lload_n2, zO_lload_n3, zO_lload, zO_aload_n0, zO_aload_n1, zO_aload_n2, zO_aload_n3, zO_aload, zO_istore_n0, zO_istore_n1, zO_istore_n2, zO_istore_n3, zO_istore, zO_astore_n0, zO_astore_n1, zO_astore_n2, zO_astore_n3, zO_astore, zO_lstore, zO_iinc, zO_iconst, zO_bipush, zO_sipush, zO_lconst0, zO_lconst1, zO_ldc, zO_ldc2_w, zO_iadd, zO_isub, zO_imul, zO_idiv, zO_irem, zO_ineg, zO_iand, zO_ior, zO_ixor, zO_ishl, zO_ishr, zO_iushr, zO_ladd, zO_lmul, zO_land, zO_lor, zO_lshl, zO_lcmp, zO_i2l, zO_l2i, zO_i2b, zO_dup0, zO_dup2, zO_dup200, zO_dup202, zO_dup220, zO_dup222, zO_ifCond_eq, zO_ifCond_ne, zO_ifCond_lt, zO_ifCond_ge, zO_ifCond_gt, zO_ifCond_le, zO_if_icmp_eq, zO_if_icmp_ne, zO_if_icmp_lt, zO_if_icmp_ge, zO_if_icmp_gt, zO_if_icmp_le, zO_getfield, zO_putfield, zO_iaload, zO_baload, zO_laload, zO_iastore, zO_bastore, zO_lastore, zO_arraylength, zO_invokevirtual, zO_lreturn, zO_areturn, zO_return_, zO_tableswitch, zO_lookupswitch, zO_is0, zO_is1, zO_is2, zO_is3, zO_is4, zO_is9, zO_is10, zO_is11, zO_is12, zO_ir1, zO_ir4, zB_c, zLd_0, zLd_s, zSt_c, zSt2_c, zU_c, zD_c, zY_c, zSw_n, zSw_c, zCall_c, zVirt_c, zP_0, zP_1, zP_2, zP_3, zP_4, zGet_n, zGet_z, zPut_n, zPut_z, zcw_n, zcw_0, zcw_1, zcw_2, List.length_cons, List.length_nil, List.take_succ_cons, List.take_zero, List.drop_succ_cons, List.drop_zero, List.reverse_cons, List.reverse_nil, List.nil_append, List.cons_append, List.append_nil, List.set_cons_zero, List.set_cons_succ, List.getD_cons_zero, List.getD_cons_succ, true_and, and_true, ne_eq, not_false_eq_true, not_true_eq_false, zif, Nat.reduceAdd, Nat.reduceLeDiff, Nat.reduceLT, Nat.reduceSub, Nat.reduceEqDiff, Nat.zero_le, Nat.lt_add_one, Nat.reduceMod, false_implies, true_implies, implies_true, forall_const, Int.reduceLE, Int.reduceLT, Int.reduceEq, Int.reduceNeg, ite10_0, ite10_1, zem, zem2, Classical.not_not, and_self, or_true, true_or, or_false, false_or, zT_0, zN_0, zGf_160_0, zGf_161_0, zGf_162_0, zPf_162_0, zGf_163_0, zGf_164_0, zGf_165_0, zGf_166_0, zGf_167_0, zPf_167_0, zGf_168_0, zPf_168_0, zGf_169_0, zGf_170_0, zGf_171_0, zPf_171_0, zGf_172_0, zGf_173_0, zGf_174_0, zGf_175_0, zGf_176_0, K_isElement]
  exact ⟨fun z => absurd he z, fun _ => hm⟩
