/-! GIVEN -/
theorem m31l {x v : Int} : (x % 31 * v) % 31 = (x * v) % 31 := by
  obtain ⟨q, r, hq, hr⟩ : ∃ q r, x = 31 * q + r ∧ x % 31 = r := ⟨x / 31, x % 31, by omega, rfl⟩
  rw [hr, hq, Int.add_mul, Int.mul_assoc]
  omega
theorem zs_31 {f : Int → Int} {n : Int} : ∀ m, 0 ≤ m → m ≤ n → zs (fun k => f k % 31) m % 31 = zs f m % 31 := by
  have key : ∀ k : Nat, zs (fun k => f k % 31) k % 31 = zs f k % 31 := by
    intro k
    induction k with
    | zero => rfl
    | succ k ih =>
      rw [show ((k + 1 : Nat) : Int) = (k : Int) + 1 from rfl, zs_s _ (by omega), zs_s _ (by omega)]
      omega
  intro m h0 _
  have := key m.toNat
  rw [show ((m.toNat : Nat) : Int) = m by omega] at this
  exact this
def gvT (A V : Int → Int → Int) (i j k m : Int) : Int := (A i m * A j m * V m k) % 31 * inv31 (A 0 m)
def gvS (A V : Int → Int → Int) (n i j k : Int) : Int := zs (gvT A V i j k) n % 31
theorem gvT_b {n : Int} {A V : Int → Int → Int} (ha : mBd n A) (h0 : zrg n 0) {i j k m : Int} (hm : zrg n m) : 0 ≤ gvT A V i j k m ∧ gvT A V i j k m ≤ 900 := by
  unfold gvT
  have h1 : 0 ≤ inv31 (A 0 m) ∧ inv31 (A 0 m) ≤ 30 := by unfold inv31; omega
  have hx : 0 ≤ A i m * A j m * V m k % 31 ∧ A i m * A j m * V m k % 31 ≤ 30 := by omega
  exact zmul_bd hx h1
theorem gv_m3 {n i j k m : Int} {A V : Int → Int → Int} (ha : mBd n A) (hv : mBd n V) (hi : zrg n i) (hj : zrg n j) (hk : zrg n k) (hm : zrg n m) : 0 ≤ A i m * A j m ∧ A i m * A j m ≤ 900 ∧ 0 ≤ A i m * A j m * V m k ∧ A i m * A j m * V m k ≤ 27000 := by
  have h1 := zmul_bd (ha i m hi hm) (ha j m hj hm)
  have h2 := zmul_bd h1 (hv m k hm hk)
  omega
/-- what given answers -/
def gvR (n : Int) (A : Int → Int → Int) (i j k r : Int) : Prop := (r = -3 ∧ (gjR n A = none ∨ ∃ m, zrg n m ∧ A 0 m = 0)) ∨ (∃ S, gjR n A = some S ∧ (∀ m, zrg n m → ¬ A 0 m = 0) ∧ r = gvS A S.2 n i j k)
theorem gvR_one {n : Int} {A : Int → Int → Int} {i j k r r' : Int} (h : gvR n A i j k r) (h' : gvR n A i j k r') : r = r' := by
  rcases h with ⟨e, q⟩ | ⟨S, a, b, e⟩
  · rcases h' with ⟨e', q'⟩ | ⟨S', a', b', e'⟩
    · rw [e, e']
    · rcases q with q | ⟨m, hm, q⟩
      · rw [q] at a'; cases a'
      · exact absurd q (b' m hm)
  · rcases h' with ⟨e', q'⟩ | ⟨S', a', b', e'⟩
    · rcases q' with q | ⟨m, hm, q⟩
      · rw [q] at a; cases a
      · exact absurd q (b m hm)
    · rw [a] at a'
      cases a'
      rw [e, e']
theorem K_given {d : Nat} {i j k : Int} {μ : zM} (hr : Rel μ) (hi : zrg (μ 1 1) i) (hj : zrg (μ 1 1) j) (hk : zrg (μ 1 1) k) : zC (d + 5) 72 [(2, 0), (0, i), (0, j), (0, k)] μ (fun r u => gvR (μ 1 1) (lwA μ) i j k r ∧ zfr [(25, -1), (27, -1)] μ u) := by
  have hn := (Rel_n hr).1
  obtain ⟨q0, q1, q2, q3, q4, q5, q6, q7, q8, q9⟩ := rH_1.mp hr.1
  have ha : mTb 4 0 (μ 1 1) (lwA μ) μ := fun i m hi hm => by rw [Int.zero_add]; rfl
  have hb : mBd (μ 1 1) (lwA μ) := fun i m hi hm => (q5 (5 * i + m) (by unfold zrg at hi hm; omega) (by unfold zrg at hi hm; omega)).1
  generalize lwA μ = A at ha hb ⊢
  generalize hnn : μ 1 1 = n at hn hi hj hk ha hb ⊢
  generalize hQ : (fun (r : Int) (u : zM) => gvR n A i j k r ∧ zfr [(25, -1), (27, -1)] μ u) = Q
  have h0 : zrg n 0 := ⟨by omega, by omega⟩
  have hi2 : 0 ≤ i ∧ i < μ 1 1 := by rw [hnn]; exact hi
  have hj2 : 0 ≤ j ∧ j < μ 1 1 := by rw [hnn]; exact hj
  have hk2 : 0 ≤ k ∧ k < μ 1 1 := by rw [hnn]; exact hk
  simp only [e72, k72_0, e72, k72_0, u72_12, k72_12, u72_43, k72_43, u72_79, k72_79, u72_134, k72_134, zO_nop, zO_goto, zO_iload_n0, zO_iload_n1, zO_iload_n2, zO_iload_n3, zO_iload, zO_lload_n0, zO_lload_n1, zO_lload_n2, zO_lload_n3, zO_lload, zO_aload_n0, zO_aload_n1, zO_aload_n2, zO_aload_n3, zO_aload, zO_istore_n0, zO_istore_n1, zO_istore_n2, zO_istore_n3, zO_istore, zO_astore_n0, zO_astore_n1, zO_astore_n2, zO_astore_n3, zO_astore, zO_lstore, zO_iinc, zO_iconst, zO_bipush, zO_sipush, zO_lconst0, zO_lconst1, zO_ldc, zO_ldc2_w, zO_iadd, zO_isub, zO_imul, zO_idiv, zO_irem, zO_ineg, zO_iand, zO_ior, zO_ixor, zO_ishl, zO_ishr, zO_iushr, zO_ladd, zO_lmul, zO_land, zO_lor, zO_lshl, zO_lcmp, zO_i2l, zO_l2i, zO_i2b, zO_dup0, zO_dup2, zO_dup200, zO_dup202, zO_dup220, zO_dup222, zO_ifCond_eq, zO_ifCond_ne, zO_ifCond_lt, zO_ifCond_ge, zO_ifCond_gt, zO_ifCond_le, zO_if_icmp_eq, zO_if_icmp_ne, zO_if_icmp_lt, zO_if_icmp_ge, zO_if_icmp_gt, zO_if_icmp_le, zO_getfield, zO_putfield, zO_iaload, zO_baload, zO_laload, zO_iastore, zO_bastore, zO_lastore, zO_arraylength, zO_invokevirtual, zO_lreturn, zO_areturn, zO_return_, zO_tableswitch, zO_lookupswitch, zO_is0, zO_is1, zO_is2, zO_is3, zO_is4, zO_is9, zO_is10, zO_is11, zO_is12, zO_ir1, zO_ir4, zB_c, zLd_0, zLd_s, zSt_c, zSt2_c, zU_c, zD_c, zY_c, zSw_n, zSw_c, zCall_c, zVirt_c, zP_0, zP_1, zP_2, zP_3, zP_4, zGet_n, zGet_z, zPut_n, zPut_z, zcw_n, zcw_0, zcw_1, zcw_2, List.length_cons, List.length_nil, List.take_succ_cons, List.take_zero, List.drop_succ_cons, List.drop_zero, List.reverse_cons, List.reverse_nil, List.nil_append, List.cons_append, List.append_nil, List.set_cons_zero, List.set_cons_succ, List.getD_cons_zero, List.getD_cons_succ, true_and, and_true, ne_eq, not_false_eq_true, not_true_eq_false, zif, Nat.reduceAdd, Nat.reduceLeDiff, Nat.reduceLT, Nat.reduceSub, Nat.reduceEqDiff, Nat.zero_le, Nat.lt_add_one, Nat.reduceMod, false_implies, true_implies, implies_true, forall_const, Int.reduceLE, Int.reduceLT, Int.reduceEq, Int.reduceNeg, ite10_0, ite10_1, zem, zem2, Classical.not_not, and_self, or_true, true_or, or_false, false_or, zT_0, zN_0, zGf_160_0, zGf_161_0, zGf_162_0, zPf_162_0, zGf_163_0, zGf_164_0, zGf_165_0, zGf_166_0, zGf_167_0, zPf_167_0, zGf_168_0, zPf_168_0, zGf_169_0, zGf_170_0, zGf_171_0, zPf_171_0, zGf_172_0, zGf_173_0, zGf_174_0, zGf_175_0, zGf_176_0, zT_1, zN_1, zGf_64_1, zPf_64_1, zGf_65_1, zPf_65_1, zGf_66_1, zPf_66_1, zGf_67_1, zGf_68_1, zGf_69_1, zGf_70_1, zGf_71_1, zGf_72_1, zGf_73_1, zPf_73_1, zT_24, zN_24, zGf_128_24, zGf_129_24, zGf_130_24, zGf_131_24, zT_24, zN_24, K_areSorts, hi2, hj2, hk2, hnn]
  refine ⟨fun e => absurd ⟨hi.2, hj.2, hk.2⟩ e, fun _ => ?_⟩
  refine zuse (K_invert4 (d := d + 1) hn ha hb) ?_
  rintro r u ⟨f, hu⟩
  have u1 : u 1 1 = n := by rw [zfr_c f (by decide)]; exact hnn
  have u4 : ∀ i m, zrg n i → zrg n m → u 4 (5 * i + m) = A i m := fun i m hi hm => by rw [zfr_c f (by decide)]; have := ha i m hi hm; rw [Int.zero_add] at this; exact this
  rcases hu with ⟨rfl, hnone⟩ | ⟨rfl, S, hS, g, gb⟩
  · refine ⟨fun _ => ?_, fun e => absurd rfl e⟩
    rw [← hQ]
    exact ⟨Or.inl ⟨rfl, Or.inl hnone⟩, f⟩
  · have hl : ∀ m (s : Unit), 0 ≤ m → m ≤ n → (∀ m', zrg m m' → ¬ A 0 m' = 0) → ∀ x y, zR (d + 4) 72 Q 49 [(2, 0), (0, i), (0, j), (0, k), (2, 4), (0, zs (gvT A S.2 i j k) m), (0, m), x, y] [] u := by
      refine zloop (n := n) (Inv := fun m (_ : Unit) => ∀ m', zrg m m' → ¬ A 0 m' = 0) (R := fun m _ => ∀ x y, zR (d + 4) 72 Q 49 [(2, 0), (0, i), (0, j), (0, k), (2, 4), (0, zs (gvT A S.2 i j k) m), (0, m), x, y] [] u) ?_ ?_
      · rintro m _ m0 m1 hz ih x y
        have hm : zrg n m := ⟨m0, m1⟩
        have i0 := hi.1
        have i1 := hi.2
        have j0 := hj.1
        have j1 := hj.2
        have k0 := hk.1
        have k1 := hk.2
        have e1 : zw (zw (i * 5) + m) = 5 * i + m := by simp (disch := omega) only [zw_e]; omega
        have e2 : zw (zw (j * 5) + m) = 5 * j + m := by simp (disch := omega) only [zw_e]; omega
        have e3 : zw (zw (m * 5) + k) = 5 * m + k := by simp (disch := omega) only [zw_e]; omega
        have a0 : u 4 m = A 0 m := by have := u4 0 m h0 hm; rw [show 5 * 0 + m = m by omega] at this; exact this
        have gk : u 25 (5 * m + k) = S.2 m k := by have := g m k hm hk; rw [Int.zero_add] at this; exact this
        have b := gv_m3 hb gb hi hj hk hm
        have b0 := hb 0 m h0 hm
        have bs := zs_bd (f := gvT A S.2 i j k) (b := 900) (n := n) (fun m a c => gvT_b hb h0 ⟨a, c⟩) m m0 (by omega)
        have bt := gvT_b (V := S.2) (i := i) (j := j) (k := k) hb h0 hm
        have e4 : zw (zw (A i m * A j m) * S.2 m k) = A i m * A j m * S.2 m k := by rw [zw_e (z := A i m * A j m) (by omega) (by omega), zw_e (by omega) (by omega)]
        have e5 : (A i m * A j m * S.2 m k).tmod 31 = A i m * A j m * S.2 m k % 31 := Int.tmod_eq_emod_of_nonneg b.2.2.1
        have e6 : zw (A i m * A j m * S.2 m k % 31 * inv31 (A 0 m)) = gvT A S.2 i j k m := by
          show zw (gvT A S.2 i j k m) = _
          exact zw_e (by omega) (by omega)
        have e7 : zw (zs (gvT A S.2 i j k) m + gvT A S.2 i j k m) = zs (gvT A S.2 i j k) (m + 1) := by rw [zs_s _ m0]; exact zw_e (by omega) (by omega)
        have e8 : zw (m + 1) = m + 1 := zw_e (by omega) (by omega)
        rw [u72_49]
        simp only [k72_49, e72, k72_0, u72_12, k72_12, u72_43, k72_43, u72_79, k72_79, u72_134, k72_134, zO_nop, zO_goto, zO_iload_n0, zO_iload_n1, zO_iload_n2, zO_iload_n3, zO_iload, zO_lload_n0, zO_lload_n1, zO_lload_n2, zO_lload_n3, zO_lload, zO_aload_n0, zO_aload_n1, zO_aload_n2, zO_aload_n3, zO_aload, zO_istore_n0, zO_istore_n1, zO_istore_n2, zO_istore_n3, zO_istore, zO_astore_n0, zO_astore_n1, zO_astore_n2, zO_astore_n3, zO_astore, zO_lstore, zO_iinc, zO_iconst, zO_bipush, zO_sipush, zO_lconst0, zO_lconst1, zO_ldc, zO_ldc2_w, zO_iadd, zO_isub, zO_imul, zO_idiv, zO_irem, zO_ineg, zO_iand, zO_ior, zO_ixor, zO_ishl, zO_ishr, zO_iushr, zO_ladd, zO_lmul, zO_land, zO_lor, zO_lshl, zO_lcmp, zO_i2l, zO_l2i, zO_i2b, zO_dup0, zO_dup2, zO_dup200, zO_dup202, zO_dup220, zO_dup222, zO_ifCond_eq, zO_ifCond_ne, zO_ifCond_lt, zO_ifCond_ge, zO_ifCond_gt, zO_ifCond_le, zO_if_icmp_eq, zO_if_icmp_ne, zO_if_icmp_lt, zO_if_icmp_ge, zO_if_icmp_gt, zO_if_icmp_le, zO_getfield, zO_putfield, zO_iaload, zO_baload, zO_laload, zO_iastore, zO_bastore, zO_lastore, zO_arraylength, zO_invokevirtual, zO_lreturn, zO_areturn, zO_return_, zO_tableswitch, zO_lookupswitch, zO_is0, zO_is1, zO_is2, zO_is3, zO_is4, zO_is9, zO_is10, zO_is11, zO_is12, zO_ir1, zO_ir4, zB_c, zLd_0, zLd_s, zSt_c, zSt2_c, zU_c, zD_c, zY_c, zSw_n, zSw_c, zCall_c, zVirt_c, zP_0, zP_1, zP_2, zP_3, zP_4, zGet_n, zGet_z, zPut_n, zPut_z, zcw_n, zcw_0, zcw_1, zcw_2, List.length_cons, List.length_nil, List.take_succ_cons, List.take_zero, List.drop_succ_cons, List.drop_zero, List.reverse_cons, List.reverse_nil, List.nil_append, List.cons_append, List.append_nil, List.set_cons_zero, List.set_cons_succ, List.getD_cons_zero, List.getD_cons_succ, true_and, and_true, ne_eq, not_false_eq_true, not_true_eq_false, zif, Nat.reduceAdd, Nat.reduceLeDiff, Nat.reduceLT, Nat.reduceSub, Nat.reduceEqDiff, Nat.zero_le, Nat.lt_add_one, Nat.reduceMod, false_implies, true_implies, implies_true, forall_const, Int.reduceLE, Int.reduceLT, Int.reduceEq, Int.reduceNeg, ite10_0, ite10_1, zem, zem2, Classical.not_not, and_self, or_true, true_or, or_false, false_or, zT_0, zN_0, zGf_160_0, zGf_161_0, zGf_162_0, zPf_162_0, zGf_163_0, zGf_164_0, zGf_165_0, zGf_166_0, zGf_167_0, zPf_167_0, zGf_168_0, zPf_168_0, zGf_169_0, zGf_170_0, zGf_171_0, zPf_171_0, zGf_172_0, zGf_173_0, zGf_174_0, zGf_175_0, zGf_176_0, zT_1, zN_1, zGf_64_1, zPf_64_1, zGf_65_1, zPf_65_1, zGf_66_1, zPf_66_1, zGf_67_1, zGf_68_1, zGf_69_1, zGf_70_1, zGf_71_1, zGf_72_1, zGf_73_1, zPf_73_1, zAl_4, zAs_4, zT_24, zN_24, zGf_128_24, zGf_129_24, zGf_130_24, zGf_131_24, zAl_25, zAs_25, u1, a0, K_inverseOf (d := d + 3) b0, e1, e2, e3, u4 i m hi hm, u4 j m hj hm, gk, e4, e5, e6, e7, e8]
        have i31 := inv_1 (x := A 0 m)
        refine ⟨fun _ => ⟨by omega, by omega, fun e => ?_, fun e => ?_⟩, fun e => absurd m1 e⟩
        · rw [← hQ]
          refine ⟨Or.inl ⟨rfl, Or.inr ⟨m, hm, ?_⟩⟩, f⟩
          by_cases q : A 0 m = 0
          · exact q
          · have := i31 (by omega); omega
        · have hne : ¬ A 0 m = 0 := fun q => e (by rw [q]; decide)
          have ih2 := ih () (fun m' hm' => by
            by_cases q : m' = m
            · rw [q]; exact hne
            · exact hz m' ⟨hm'.1, by have := hm'.2; omega⟩) (0, inv31 (A 0 m)) (0, A i m * A j m * S.2 m k)
          (repeat' (first | assumption | (with_reducible refine And.intro ?_ ?_) | (intro hh; first | subst hh | skip)))
          all_goals omega
      · rintro _ hz x y
        have bs := zs_bd (f := gvT A S.2 i j k) (b := 900) (n := n) (fun m a c => gvT_b hb h0 ⟨a, c⟩) n (by omega) (by omega)
        have e5 : (zs (gvT A S.2 i j k) n).tmod 31 = gvS A S.2 n i j k := Int.tmod_eq_emod_of_nonneg bs.1
        rw [u72_49]
        simp only [k72_49, e72, k72_0, u72_12, k72_12, u72_43, k72_43, u72_79, k72_79, u72_134, k72_134, zO_nop, zO_goto, zO_iload_n0, zO_iload_n1, zO_iload_n2, zO_iload_n3, zO_iload, zO_lload_n0, zO_lload_n1, zO_lload_n2, zO_lload_n3, zO_lload, zO_aload_n0, zO_aload_n1, zO_aload_n2, zO_aload_n3, zO_aload, zO_istore_n0, zO_istore_n1, zO_istore_n2, zO_istore_n3, zO_istore, zO_astore_n0, zO_astore_n1, zO_astore_n2, zO_astore_n3, zO_astore, zO_lstore, zO_iinc, zO_iconst, zO_bipush, zO_sipush, zO_lconst0, zO_lconst1, zO_ldc, zO_ldc2_w, zO_iadd, zO_isub, zO_imul, zO_idiv, zO_irem, zO_ineg, zO_iand, zO_ior, zO_ixor, zO_ishl, zO_ishr, zO_iushr, zO_ladd, zO_lmul, zO_land, zO_lor, zO_lshl, zO_lcmp, zO_i2l, zO_l2i, zO_i2b, zO_dup0, zO_dup2, zO_dup200, zO_dup202, zO_dup220, zO_dup222, zO_ifCond_eq, zO_ifCond_ne, zO_ifCond_lt, zO_ifCond_ge, zO_ifCond_gt, zO_ifCond_le, zO_if_icmp_eq, zO_if_icmp_ne, zO_if_icmp_lt, zO_if_icmp_ge, zO_if_icmp_gt, zO_if_icmp_le, zO_getfield, zO_putfield, zO_iaload, zO_baload, zO_laload, zO_iastore, zO_bastore, zO_lastore, zO_arraylength, zO_invokevirtual, zO_lreturn, zO_areturn, zO_return_, zO_tableswitch, zO_lookupswitch, zO_is0, zO_is1, zO_is2, zO_is3, zO_is4, zO_is9, zO_is10, zO_is11, zO_is12, zO_ir1, zO_ir4, zB_c, zLd_0, zLd_s, zSt_c, zSt2_c, zU_c, zD_c, zY_c, zSw_n, zSw_c, zCall_c, zVirt_c, zP_0, zP_1, zP_2, zP_3, zP_4, zGet_n, zGet_z, zPut_n, zPut_z, zcw_n, zcw_0, zcw_1, zcw_2, List.length_cons, List.length_nil, List.take_succ_cons, List.take_zero, List.drop_succ_cons, List.drop_zero, List.reverse_cons, List.reverse_nil, List.nil_append, List.cons_append, List.append_nil, List.set_cons_zero, List.set_cons_succ, List.getD_cons_zero, List.getD_cons_succ, true_and, and_true, ne_eq, not_false_eq_true, not_true_eq_false, zif, Nat.reduceAdd, Nat.reduceLeDiff, Nat.reduceLT, Nat.reduceSub, Nat.reduceEqDiff, Nat.zero_le, Nat.lt_add_one, Nat.reduceMod, false_implies, true_implies, implies_true, forall_const, Int.reduceLE, Int.reduceLT, Int.reduceEq, Int.reduceNeg, ite10_0, ite10_1, zem, zem2, Classical.not_not, and_self, or_true, true_or, or_false, false_or, zT_0, zN_0, zGf_160_0, zGf_161_0, zGf_162_0, zPf_162_0, zGf_163_0, zGf_164_0, zGf_165_0, zGf_166_0, zGf_167_0, zPf_167_0, zGf_168_0, zPf_168_0, zGf_169_0, zGf_170_0, zGf_171_0, zPf_171_0, zGf_172_0, zGf_173_0, zGf_174_0, zGf_175_0, zGf_176_0, zT_1, zN_1, zGf_64_1, zPf_64_1, zGf_65_1, zPf_65_1, zGf_66_1, zPf_66_1, zGf_67_1, zGf_68_1, zGf_69_1, zGf_70_1, zGf_71_1, zGf_72_1, zGf_73_1, zPf_73_1, zT_24, zN_24, zGf_128_24, zGf_129_24, zGf_130_24, zGf_131_24, u1, e5]
        refine ⟨fun e => absurd e (by omega), fun _ => ?_⟩
        rw [← hQ]
        exact ⟨Or.inr ⟨S, hS, hz, rfl⟩, f⟩
    refine ⟨fun e => absurd e (by omega), fun _ => ?_⟩
    exact hl 0 () (by omega) (by omega) (fun m' hm' => by have := hm'.1; have := hm'.2; omega) _ _
theorem L_given {d : Nat} {n i j k : Int} {A : Int → Int → Int} {μ : zM} (hr : Rel μ) (hnn : μ 1 1 = n) (hi : zrg n i) (hj : zrg n j) (hk : zrg n k) (ha : mTb 40 148 n A μ) (hb : mBd n A) : zC (d + 4) 164 [(2, 39), (0, i), (0, j), (0, k)] μ (fun r u => gvR n A i j k r ∧ zfr [(48, -1), (49, -1)] μ u) := by
  have hn : 1 ≤ n ∧ n ≤ 5 := by rw [← hnn]; exact (Rel_n hr).1
  have hz : μ 40 1 = n := by rw [← hnn]; exact (Rel_n hr).2
  generalize hQ : (fun (r : Int) (u : zM) => gvR n A i j k r ∧ zfr [(48, -1), (49, -1)] μ u) = Q
  have h0 : zrg n 0 := ⟨by omega, by omega⟩
  have hi2 : 0 ≤ i ∧ i < μ 1 1 := by rw [hnn]; exact hi
  have hj2 : 0 ≤ j ∧ j < μ 1 1 := by rw [hnn]; exact hj
  have hk2 : 0 ≤ k ∧ k < μ 1 1 := by rw [hnn]; exact hk
  have i0 := hi.1
  have i1 := hi.2
  have j0 := hj.1
  have j1 := hj.2
  have k0 := hk.1
  have k1 := hk.2
  simp only [e164, k164_0, e164, k164_0, u164_24, k164_24, u164_26, k164_26, u164_82, k164_82, u164_83, k164_83, u164_91, k164_91, u164_99, k164_99, u164_174, k164_174, zO_nop, zO_goto, zO_iload_n0, zO_iload_n1, zO_iload_n2, zO_iload_n3, zO_iload, zO_lload_n0, zO_lload_n1, zO_lload_n2, zO_lload_n3, zO_lload, zO_aload_n0, zO_aload_n1, zO_aload_n2, zO_aload_n3, zO_aload, zO_istore_n0, zO_istore_n1, zO_istore_n2, zO_istore_n3, zO_istore, zO_astore_n0, zO_astore_n1, zO_astore_n2, zO_astore_n3, zO_astore, zO_lstore, zO_iinc, zO_iconst, zO_bipush, zO_sipush, zO_lconst0, zO_lconst1, zO_ldc, zO_ldc2_w, zO_iadd, zO_isub, zO_imul, zO_idiv, zO_irem, zO_ineg, zO_iand, zO_ior, zO_ixor, zO_ishl, zO_ishr, zO_iushr, zO_ladd, zO_lmul, zO_land, zO_lor, zO_lshl, zO_lcmp, zO_i2l, zO_l2i, zO_i2b, zO_dup0, zO_dup2, zO_dup200, zO_dup202, zO_dup220, zO_dup222, zO_ifCond_eq, zO_ifCond_ne, zO_ifCond_lt, zO_ifCond_ge, zO_ifCond_gt, zO_ifCond_le, zO_if_icmp_eq, zO_if_icmp_ne, zO_if_icmp_lt, zO_if_icmp_ge, zO_if_icmp_gt, zO_if_icmp_le, zO_getfield, zO_putfield, zO_iaload, zO_baload, zO_laload, zO_iastore, zO_bastore, zO_lastore, zO_arraylength, zO_invokevirtual, zO_lreturn, zO_areturn, zO_return_, zO_tableswitch, zO_lookupswitch, zO_is0, zO_is1, zO_is2, zO_is3, zO_is4, zO_is9, zO_is10, zO_is11, zO_is12, zO_ir1, zO_ir4, zB_c, zLd_0, zLd_s, zSt_c, zSt2_c, zU_c, zD_c, zY_c, zSw_n, zSw_c, zCall_c, zVirt_c, zP_0, zP_1, zP_2, zP_3, zP_4, zGet_n, zGet_z, zPut_n, zPut_z, zcw_n, zcw_0, zcw_1, zcw_2, List.length_cons, List.length_nil, List.take_succ_cons, List.take_zero, List.drop_succ_cons, List.drop_zero, List.reverse_cons, List.reverse_nil, List.nil_append, List.cons_append, List.append_nil, List.set_cons_zero, List.set_cons_succ, List.getD_cons_zero, List.getD_cons_succ, true_and, and_true, ne_eq, not_false_eq_true, not_true_eq_false, zif, Nat.reduceAdd, Nat.reduceLeDiff, Nat.reduceLT, Nat.reduceSub, Nat.reduceEqDiff, Nat.zero_le, Nat.lt_add_one, Nat.reduceMod, false_implies, true_implies, implies_true, forall_const, Int.reduceLE, Int.reduceLT, Int.reduceEq, Int.reduceNeg, ite10_0, ite10_1, zem, zem2, Classical.not_not, and_self, or_true, true_or, or_false, false_or, zT_39, zN_39, zGf_192_39, zGf_193_39, zGf_194_39, zPf_194_39, zGf_195_39, zGf_196_39, zGf_197_39, zGf_198_39, zPf_198_39, zGf_199_39, zPf_199_39, zGf_200_39, zPf_200_39, zGf_201_39, zGf_202_39, zPf_202_39, zGf_203_39, zGf_204_39, zPf_204_39, zGf_205_39, zGf_206_39, zGf_207_39, zGf_208_39, zGf_209_39, zGf_210_39, zGf_211_39, zGf_212_39, zGf_213_39, zGf_214_39, zPf_214_39, zGf_215_39, zGf_216_39, zAl_40, zAs_40, zT_40, zN_40, zT_48, zN_48, L_isSort2 hr, zCopy_c, hnn, hi.1, hi.2, hj.1, hj.2, hk.1, hk.2]
  have hzc : zcp μ 40 48 148 0 25 40 1 = n := by rw [zcp_c (by decide)]; exact hz
  have hAc : mTb 48 0 n A (zcp μ 40 48 148 0 25) := fun i m hi hm => by
    rw [Int.zero_add, zcp_d]
    unfold zrg at hi hm
    rw [if_pos ⟨rfl, by omega, by omega⟩, ← ha i m hi hm]
    congr 1
    omega
  refine ⟨by decide, by decide, ?_⟩
  refine zuse (L_undoes (d := d + 1) hn hzc hAc hb) ?_
  rintro r u ⟨f1, hu⟩
  have f : zfr [(48, -1), (49, -1)] μ u := zfr_tr (zfr_cp zfr_rf (by decide)) f1
  have u1 : u 40 1 = n := by rw [zfr_c f (by decide)]; exact hz
  have u4 : ∀ i m, zrg n i → zrg n m → u 40 (148 + (5 * i + m)) = A i m := fun i m hi hm => by rw [zfr_c f (by decide)]; exact ha i m hi hm
  -- behind the first loop
  have hfin : ∀ s : Int, ((s = 1 ∧ r = 1 ∧ ∀ m, zrg n m → ¬ A 0 m = 0) ∨ (s = 0 ∧ (r = 0 ∨ ∃ m, zrg n m ∧ A 0 m = 0))) → ∀ x, zR (d + 3) 164 Q 91 [(2, 39), (0, i), (0, j), (0, k), (0, s), (0, n), x] [] u := by
    rintro s hs x
    rcases hs with ⟨rfl, hr1, hz0⟩ | ⟨rfl, hbad⟩
    · rcases hu with ⟨e, -⟩ | ⟨-, S, hS, g, gb⟩
      · omega
      · have hl : ∀ m (s : Unit), 0 ≤ m → m ≤ n → True → zR (d + 3) 164 Q 105 [(2, 39), (0, i), (0, j), (0, k), (0, 1), (0, zs (fun m => gvT A S.2 i j k m % 31) m), (0, m)] [] u := by
          refine zloop (n := n) (Inv := fun m (_ : Unit) => True) (R := fun m _ => zR (d + 3) 164 Q 105 [(2, 39), (0, i), (0, j), (0, k), (0, 1), (0, zs (fun m => gvT A S.2 i j k m % 31) m), (0, m)] [] u) ?_ ?_
          · rintro m _ m0 m1 _ ih
            have hm : zrg n m := ⟨m0, m1⟩
            have e3 : zw (zw (5 * m) + k) = 5 * m + k := by simp (disch := omega) only [zw_e]
            have gk : u 49 (5 * m + k) = S.2 m k := by have := g m k hm hk; rw [Int.zero_add] at this; exact this
            have b := gv_m3 hb gb hi hj hk hm
            have b0 := hb 0 m h0 hm
            have bz := hz0 m hm
            have bk := gb m k hm hk
            have hx : 0 ≤ A i m * A j m % 31 ∧ A i m * A j m % 31 ≤ 30 := by omega
            have b2 := zmul_bd hx bk
            have i31 := inv_1 (x := A 0 m) (by omega)
            have bs := zs_bd (f := fun m => gvT A S.2 i j k m % 31) (b := 30) (n := n) (fun m a c => by omega) m m0 (by omega)
            have e4 : (zw (A i m * A j m)).tmod 31 = A i m * A j m % 31 := by rw [zw_e (by omega) (by omega), Int.tmod_eq_emod_of_nonneg b.1]
            have e5 : (zw (A i m * A j m % 31 * S.2 m k)).tmod 31 = A i m * A j m * S.2 m k % 31 := by rw [zw_e (by omega) (by omega), Int.tmod_eq_emod_of_nonneg b2.1, m31l]
            have bt := gvT_b (V := S.2) (i := i) (j := j) (k := k) hb h0 hm
            have e6 : (zw (A i m * A j m * S.2 m k % 31 * inv31 (A 0 m))).tmod 31 = gvT A S.2 i j k m % 31 := by
              show (zw (gvT A S.2 i j k m)).tmod 31 = _
              rw [zw_e (by omega) (by omega), Int.tmod_eq_emod_of_nonneg bt.1]
            have e7 : zw (zs (fun m => gvT A S.2 i j k m % 31) m + gvT A S.2 i j k m % 31) = zs (fun m => gvT A S.2 i j k m % 31) (m + 1) := by rw [zs_s _ m0]; exact zw_e (by omega) (by omega)
            have e8 : zw (m + 1) = m + 1 := zw_e (by omega) (by omega)
            have ls : ∀ (a : Int), zrg n a → ∀ {P : Int → zM → Prop}, (zC (d + 3) 160 [(2, 39), (0, a), (0, m)] u P ↔ P (A a m) u) := fun a ha2 P => by
              rw [L_s (d := d + 2) ⟨ha2.1, by have := ha2.2; omega⟩ ⟨m0, by omega⟩, u4 a m ha2 hm]
            have ih2 := ih () trivial
            rw [u164_105]
            simp only [k164_105, zO_nop, zO_goto, zO_iload_n0, zO_iload_n1, zO_iload_n2, zO_iload_n3, zO_iload, zO_lload_n0, zO_lload_n1, zO_lload_n2, zO_lload_n3, zO_lload, zO_aload_n0, zO_aload_n1, zO_aload_n2, zO_aload_n3, zO_aload, zO_istore_n0, zO_istore_n1, zO_istore_n2, zO_istore_n3, zO_istore, zO_astore_n0, zO_astore_n1, zO_astore_n2, zO_astore_n3, zO_astore, zO_lstore, zO_iinc, zO_iconst, zO_bipush, zO_sipush, zO_lconst0, zO_lconst1, zO_ldc, zO_ldc2_w, zO_iadd, zO_isub, zO_imul, zO_idiv, zO_irem, zO_ineg, zO_iand, zO_ior, zO_ixor, zO_ishl, zO_ishr, zO_iushr, zO_ladd, zO_lmul, zO_land, zO_lor, zO_lshl, zO_lcmp, zO_i2l, zO_l2i, zO_i2b, zO_dup0, zO_dup2, zO_dup200, zO_dup202, zO_dup220, zO_dup222, zO_ifCond_eq, zO_ifCond_ne, zO_ifCond_lt, zO_ifCond_ge, zO_ifCond_gt, zO_ifCond_le, zO_if_icmp_eq, zO_if_icmp_ne, zO_if_icmp_lt, zO_if_icmp_ge, zO_if_icmp_gt, zO_if_icmp_le, zO_getfield, zO_putfield, zO_iaload, zO_baload, zO_laload, zO_iastore, zO_bastore, zO_lastore, zO_arraylength, zO_invokevirtual, zO_lreturn, zO_areturn, zO_return_, zO_tableswitch, zO_lookupswitch, zO_is0, zO_is1, zO_is2, zO_is3, zO_is4, zO_is9, zO_is10, zO_is11, zO_is12, zO_ir1, zO_ir4, zB_c, zLd_0, zLd_s, zSt_c, zSt2_c, zU_c, zD_c, zY_c, zSw_n, zSw_c, zCall_c, zVirt_c, zP_0, zP_1, zP_2, zP_3, zP_4, zGet_n, zGet_z, zPut_n, zPut_z, zcw_n, zcw_0, zcw_1, zcw_2, List.length_cons, List.length_nil, List.take_succ_cons, List.take_zero, List.drop_succ_cons, List.drop_zero, List.reverse_cons, List.reverse_nil, List.nil_append, List.cons_append, List.append_nil, List.set_cons_zero, List.set_cons_succ, List.getD_cons_zero, List.getD_cons_succ, true_and, and_true, ne_eq, not_false_eq_true, not_true_eq_false, zif, Nat.reduceAdd, Nat.reduceLeDiff, Nat.reduceLT, Nat.reduceSub, Nat.reduceEqDiff, Nat.zero_le, Nat.lt_add_one, Nat.reduceMod, false_implies, true_implies, implies_true, forall_const, Int.reduceLE, Int.reduceLT, Int.reduceEq, Int.reduceNeg, ite10_0, ite10_1, zem, zem2, Classical.not_not, and_self, or_true, true_or, or_false, false_or, zT_39, zN_39, zGf_192_39, zGf_193_39, zGf_194_39, zPf_194_39, zGf_195_39, zGf_196_39, zGf_197_39, zGf_198_39, zPf_198_39, zGf_199_39, zPf_199_39, zGf_200_39, zPf_200_39, zGf_201_39, zGf_202_39, zPf_202_39, zGf_203_39, zGf_204_39, zPf_204_39, zGf_205_39, zGf_206_39, zGf_207_39, zGf_208_39, zGf_209_39, zGf_210_39, zGf_211_39, zGf_212_39, zGf_213_39, zGf_214_39, zPf_214_39, zGf_215_39, zGf_216_39, zAl_40, zAs_40, zAl_49, zAs_49, u1, ls i hi, ls j hj, ls 0 h0, L_inverse (d := d + 2) (show 1 ≤ A 0 m ∧ A 0 m ≤ 30 by omega), e3, gk, e4, e5, e6, e7, e8]
            refine ⟨fun _ => ?_, fun e => absurd m1 e⟩
            (repeat' (first | assumption | (with_reducible refine And.intro ?_ ?_) | (intro hh; first | subst hh | skip)))
            all_goals omega
          · rintro _ _
            have bs := zs_bd (f := fun m => gvT A S.2 i j k m % 31) (b := 30) (n := n) (fun m a c => by omega) n (by omega) (by omega)
            have e5 : (zs (fun m => gvT A S.2 i j k m % 31) n).tmod 31 = gvS A S.2 n i j k := by
              rw [Int.tmod_eq_emod_of_nonneg bs.1]
              exact zs_31 (n := n) n (by omega) (by omega)
            rw [u164_105]
            simp only [k164_105, e164, k164_0, u164_24, k164_24, u164_26, k164_26, u164_82, k164_82, u164_83, k164_83, u164_91, k164_91, u164_99, k164_99, u164_174, k164_174, zO_nop, zO_goto, zO_iload_n0, zO_iload_n1, zO_iload_n2, zO_iload_n3, zO_iload, zO_lload_n0, zO_lload_n1, zO_lload_n2, zO_lload_n3, zO_lload, zO_aload_n0, zO_aload_n1, zO_aload_n2, zO_aload_n3, zO_aload, zO_istore_n0, zO_istore_n1, zO_istore_n2, zO_istore_n3, zO_istore, zO_astore_n0, zO_astore_n1, zO_astore_n2, zO_astore_n3, zO_astore, zO_lstore, zO_iinc, zO_iconst, zO_bipush, zO_sipush, zO_lconst0, zO_lconst1, zO_ldc, zO_ldc2_w, zO_iadd, zO_isub, zO_imul, zO_idiv, zO_irem, zO_ineg, zO_iand, zO_ior, zO_ixor, zO_ishl, zO_ishr, zO_iushr, zO_ladd, zO_lmul, zO_land, zO_lor, zO_lshl, zO_lcmp, zO_i2l, zO_l2i, zO_i2b, zO_dup0, zO_dup2, zO_dup200, zO_dup202, zO_dup220, zO_dup222, zO_ifCond_eq, zO_ifCond_ne, zO_ifCond_lt, zO_ifCond_ge, zO_ifCond_gt, zO_ifCond_le, zO_if_icmp_eq, zO_if_icmp_ne, zO_if_icmp_lt, zO_if_icmp_ge, zO_if_icmp_gt, zO_if_icmp_le, zO_getfield, zO_putfield, zO_iaload, zO_baload, zO_laload, zO_iastore, zO_bastore, zO_lastore, zO_arraylength, zO_invokevirtual, zO_lreturn, zO_areturn, zO_return_, zO_tableswitch, zO_lookupswitch, zO_is0, zO_is1, zO_is2, zO_is3, zO_is4, zO_is9, zO_is10, zO_is11, zO_is12, zO_ir1, zO_ir4, zB_c, zLd_0, zLd_s, zSt_c, zSt2_c, zU_c, zD_c, zY_c, zSw_n, zSw_c, zCall_c, zVirt_c, zP_0, zP_1, zP_2, zP_3, zP_4, zGet_n, zGet_z, zPut_n, zPut_z, zcw_n, zcw_0, zcw_1, zcw_2, List.length_cons, List.length_nil, List.take_succ_cons, List.take_zero, List.drop_succ_cons, List.drop_zero, List.reverse_cons, List.reverse_nil, List.nil_append, List.cons_append, List.append_nil, List.set_cons_zero, List.set_cons_succ, List.getD_cons_zero, List.getD_cons_succ, true_and, and_true, ne_eq, not_false_eq_true, not_true_eq_false, zif, Nat.reduceAdd, Nat.reduceLeDiff, Nat.reduceLT, Nat.reduceSub, Nat.reduceEqDiff, Nat.zero_le, Nat.lt_add_one, Nat.reduceMod, false_implies, true_implies, implies_true, forall_const, Int.reduceLE, Int.reduceLT, Int.reduceEq, Int.reduceNeg, ite10_0, ite10_1, zem, zem2, Classical.not_not, and_self, or_true, true_or, or_false, false_or, zT_39, zN_39, zGf_192_39, zGf_193_39, zGf_194_39, zPf_194_39, zGf_195_39, zGf_196_39, zGf_197_39, zGf_198_39, zPf_198_39, zGf_199_39, zPf_199_39, zGf_200_39, zPf_200_39, zGf_201_39, zGf_202_39, zPf_202_39, zGf_203_39, zGf_204_39, zPf_204_39, zGf_205_39, zGf_206_39, zGf_207_39, zGf_208_39, zGf_209_39, zGf_210_39, zGf_211_39, zGf_212_39, zGf_213_39, zGf_214_39, zPf_214_39, zGf_215_39, zGf_216_39, zAl_40, zAs_40, u1, e5]
            refine ⟨fun e => absurd e (by omega), fun _ => ?_⟩
            rw [← hQ]
            exact ⟨Or.inr ⟨S, hS, hz0, rfl⟩, f⟩
        simp only [e164, k164_0, u164_24, k164_24, u164_26, k164_26, u164_82, k164_82, u164_83, k164_83, u164_91, k164_91, u164_99, k164_99, u164_174, k164_174, zO_nop, zO_goto, zO_iload_n0, zO_iload_n1, zO_iload_n2, zO_iload_n3, zO_iload, zO_lload_n0, zO_lload_n1, zO_lload_n2, zO_lload_n3, zO_lload, zO_aload_n0, zO_aload_n1, zO_aload_n2, zO_aload_n3, zO_aload, zO_istore_n0, zO_istore_n1, zO_istore_n2, zO_istore_n3, zO_istore, zO_astore_n0, zO_astore_n1, zO_astore_n2, zO_astore_n3, zO_astore, zO_lstore, zO_iinc, zO_iconst, zO_bipush, zO_sipush, zO_lconst0, zO_lconst1, zO_ldc, zO_ldc2_w, zO_iadd, zO_isub, zO_imul, zO_idiv, zO_irem, zO_ineg, zO_iand, zO_ior, zO_ixor, zO_ishl, zO_ishr, zO_iushr, zO_ladd, zO_lmul, zO_land, zO_lor, zO_lshl, zO_lcmp, zO_i2l, zO_l2i, zO_i2b, zO_dup0, zO_dup2, zO_dup200, zO_dup202, zO_dup220, zO_dup222, zO_ifCond_eq, zO_ifCond_ne, zO_ifCond_lt, zO_ifCond_ge, zO_ifCond_gt, zO_ifCond_le, zO_if_icmp_eq, zO_if_icmp_ne, zO_if_icmp_lt, zO_if_icmp_ge, zO_if_icmp_gt, zO_if_icmp_le, zO_getfield, zO_putfield, zO_iaload, zO_baload, zO_laload, zO_iastore, zO_bastore, zO_lastore, zO_arraylength, zO_invokevirtual, zO_lreturn, zO_areturn, zO_return_, zO_tableswitch, zO_lookupswitch, zO_is0, zO_is1, zO_is2, zO_is3, zO_is4, zO_is9, zO_is10, zO_is11, zO_is12, zO_ir1, zO_ir4, zB_c, zLd_0, zLd_s, zSt_c, zSt2_c, zU_c, zD_c, zY_c, zSw_n, zSw_c, zCall_c, zVirt_c, zP_0, zP_1, zP_2, zP_3, zP_4, zGet_n, zGet_z, zPut_n, zPut_z, zcw_n, zcw_0, zcw_1, zcw_2, List.length_cons, List.length_nil, List.take_succ_cons, List.take_zero, List.drop_succ_cons, List.drop_zero, List.reverse_cons, List.reverse_nil, List.nil_append, List.cons_append, List.append_nil, List.set_cons_zero, List.set_cons_succ, List.getD_cons_zero, List.getD_cons_succ, true_and, and_true, ne_eq, not_false_eq_true, not_true_eq_false, zif, Nat.reduceAdd, Nat.reduceLeDiff, Nat.reduceLT, Nat.reduceSub, Nat.reduceEqDiff, Nat.zero_le, Nat.lt_add_one, Nat.reduceMod, false_implies, true_implies, implies_true, forall_const, Int.reduceLE, Int.reduceLT, Int.reduceEq, Int.reduceNeg, ite10_0, ite10_1, zem, zem2, Classical.not_not, and_self, or_true, true_or, or_false, false_or]
        exact hl 0 () (by omega) (by omega) trivial
    · simp only [e164, k164_0, u164_24, k164_24, u164_26, k164_26, u164_82, k164_82, u164_83, k164_83, u164_91, k164_91, u164_99, k164_99, u164_174, k164_174, zO_nop, zO_goto, zO_iload_n0, zO_iload_n1, zO_iload_n2, zO_iload_n3, zO_iload, zO_lload_n0, zO_lload_n1, zO_lload_n2, zO_lload_n3, zO_lload, zO_aload_n0, zO_aload_n1, zO_aload_n2, zO_aload_n3, zO_aload, zO_istore_n0, zO_istore_n1, zO_istore_n2, zO_istore_n3, zO_istore, zO_astore_n0, zO_astore_n1, zO_astore_n2, zO_astore_n3, zO_astore, zO_lstore, zO_iinc, zO_iconst, zO_bipush, zO_sipush, zO_lconst0, zO_lconst1, zO_ldc, zO_ldc2_w, zO_iadd, zO_isub, zO_imul, zO_idiv, zO_irem, zO_ineg, zO_iand, zO_ior, zO_ixor, zO_ishl, zO_ishr, zO_iushr, zO_ladd, zO_lmul, zO_land, zO_lor, zO_lshl, zO_lcmp, zO_i2l, zO_l2i, zO_i2b, zO_dup0, zO_dup2, zO_dup200, zO_dup202, zO_dup220, zO_dup222, zO_ifCond_eq, zO_ifCond_ne, zO_ifCond_lt, zO_ifCond_ge, zO_ifCond_gt, zO_ifCond_le, zO_if_icmp_eq, zO_if_icmp_ne, zO_if_icmp_lt, zO_if_icmp_ge, zO_if_icmp_gt, zO_if_icmp_le, zO_getfield, zO_putfield, zO_iaload, zO_baload, zO_laload, zO_iastore, zO_bastore, zO_lastore, zO_arraylength, zO_invokevirtual, zO_lreturn, zO_areturn, zO_return_, zO_tableswitch, zO_lookupswitch, zO_is0, zO_is1, zO_is2, zO_is3, zO_is4, zO_is9, zO_is10, zO_is11, zO_is12, zO_ir1, zO_ir4, zB_c, zLd_0, zLd_s, zSt_c, zSt2_c, zU_c, zD_c, zY_c, zSw_n, zSw_c, zCall_c, zVirt_c, zP_0, zP_1, zP_2, zP_3, zP_4, zGet_n, zGet_z, zPut_n, zPut_z, zcw_n, zcw_0, zcw_1, zcw_2, List.length_cons, List.length_nil, List.take_succ_cons, List.take_zero, List.drop_succ_cons, List.drop_zero, List.reverse_cons, List.reverse_nil, List.nil_append, List.cons_append, List.append_nil, List.set_cons_zero, List.set_cons_succ, List.getD_cons_zero, List.getD_cons_succ, true_and, and_true, ne_eq, not_false_eq_true, not_true_eq_false, zif, Nat.reduceAdd, Nat.reduceLeDiff, Nat.reduceLT, Nat.reduceSub, Nat.reduceEqDiff, Nat.zero_le, Nat.lt_add_one, Nat.reduceMod, false_implies, true_implies, implies_true, forall_const, Int.reduceLE, Int.reduceLT, Int.reduceEq, Int.reduceNeg, ite10_0, ite10_1, zem, zem2, Classical.not_not, and_self, or_true, true_or, or_false, false_or]
      rw [← hQ]
      refine ⟨Or.inl ⟨rfl, ?_⟩, f⟩
      rcases hbad with q | q
      · rcases hu with ⟨-, e⟩ | ⟨e, -⟩
        · exact Or.inl e
        · omega
      · exact Or.inr q
  have hl : ∀ m (s : Int), 0 ≤ m → m ≤ n → ((s = 1 ∧ r = 1 ∧ ∀ m', zrg m m' → ¬ A 0 m' = 0) ∨ (s = 0 ∧ (r = 0 ∨ ∃ m, zrg n m ∧ A 0 m = 0))) → ∀ x, zR (d + 3) 164 Q 52 [(2, 39), (0, i), (0, j), (0, k), (0, s), (0, m), x] [] u := by
    refine zloop (n := n) (Inv := fun m (s : Int) => (s = 1 ∧ r = 1 ∧ ∀ m', zrg m m' → ¬ A 0 m' = 0) ∨ (s = 0 ∧ (r = 0 ∨ ∃ m, zrg n m ∧ A 0 m = 0))) (R := fun m s => ∀ x, zR (d + 3) 164 Q 52 [(2, 39), (0, i), (0, j), (0, k), (0, s), (0, m), x] [] u) ?_ ?_
    · rintro m s m0 m1 hs ih x
      have hm : zrg n m := ⟨m0, m1⟩
      have ls : ∀ {P : Int → zM → Prop}, (zC (d + 3) 160 [(2, 39), (0, 0), (0, m)] u P ↔ P (A 0 m) u) := fun {P} => by
        rw [L_s (d := d + 2) ⟨by omega, by omega⟩ ⟨m0, by omega⟩, u4 0 m h0 hm]
      rw [u164_52]
      simp only [k164_52, u164_82, k164_82, u164_83, k164_83, zO_nop, zO_goto, zO_iload_n0, zO_iload_n1, zO_iload_n2, zO_iload_n3, zO_iload, zO_lload_n0, zO_lload_n1, zO_lload_n2, zO_lload_n3, zO_lload, zO_aload_n0, zO_aload_n1, zO_aload_n2, zO_aload_n3, zO_aload, zO_istore_n0, zO_istore_n1, zO_istore_n2, zO_istore_n3, zO_istore, zO_astore_n0, zO_astore_n1, zO_astore_n2, zO_astore_n3, zO_astore, zO_lstore, zO_iinc, zO_iconst, zO_bipush, zO_sipush, zO_lconst0, zO_lconst1, zO_ldc, zO_ldc2_w, zO_iadd, zO_isub, zO_imul, zO_idiv, zO_irem, zO_ineg, zO_iand, zO_ior, zO_ixor, zO_ishl, zO_ishr, zO_iushr, zO_ladd, zO_lmul, zO_land, zO_lor, zO_lshl, zO_lcmp, zO_i2l, zO_l2i, zO_i2b, zO_dup0, zO_dup2, zO_dup200, zO_dup202, zO_dup220, zO_dup222, zO_ifCond_eq, zO_ifCond_ne, zO_ifCond_lt, zO_ifCond_ge, zO_ifCond_gt, zO_ifCond_le, zO_if_icmp_eq, zO_if_icmp_ne, zO_if_icmp_lt, zO_if_icmp_ge, zO_if_icmp_gt, zO_if_icmp_le, zO_getfield, zO_putfield, zO_iaload, zO_baload, zO_laload, zO_iastore, zO_bastore, zO_lastore, zO_arraylength, zO_invokevirtual, zO_lreturn, zO_areturn, zO_return_, zO_tableswitch, zO_lookupswitch, zO_is0, zO_is1, zO_is2, zO_is3, zO_is4, zO_is9, zO_is10, zO_is11, zO_is12, zO_ir1, zO_ir4, zB_c, zLd_0, zLd_s, zSt_c, zSt2_c, zU_c, zD_c, zY_c, zSw_n, zSw_c, zCall_c, zVirt_c, zP_0, zP_1, zP_2, zP_3, zP_4, zGet_n, zGet_z, zPut_n, zPut_z, zcw_n, zcw_0, zcw_1, zcw_2, List.length_cons, List.length_nil, List.take_succ_cons, List.take_zero, List.drop_succ_cons, List.drop_zero, List.reverse_cons, List.reverse_nil, List.nil_append, List.cons_append, List.append_nil, List.set_cons_zero, List.set_cons_succ, List.getD_cons_zero, List.getD_cons_succ, true_and, and_true, ne_eq, not_false_eq_true, not_true_eq_false, zif, Nat.reduceAdd, Nat.reduceLeDiff, Nat.reduceLT, Nat.reduceSub, Nat.reduceEqDiff, Nat.zero_le, Nat.lt_add_one, Nat.reduceMod, false_implies, true_implies, implies_true, forall_const, Int.reduceLE, Int.reduceLT, Int.reduceEq, Int.reduceNeg, ite10_0, ite10_1, zem, zem2, Classical.not_not, and_self, or_true, true_or, or_false, false_or, zT_39, zN_39, zGf_192_39, zGf_193_39, zGf_194_39, zPf_194_39, zGf_195_39, zGf_196_39, zGf_197_39, zGf_198_39, zPf_198_39, zGf_199_39, zPf_199_39, zGf_200_39, zPf_200_39, zGf_201_39, zGf_202_39, zPf_202_39, zGf_203_39, zGf_204_39, zPf_204_39, zGf_205_39, zGf_206_39, zGf_207_39, zGf_208_39, zGf_209_39, zGf_210_39, zGf_211_39, zGf_212_39, zGf_213_39, zGf_214_39, zPf_214_39, zGf_215_39, zGf_216_39, zAl_40, zAs_40, u1, ls]
      rw [zw_e (z := m + 1) (by omega) (by omega)]
      have no : (s = 0 ∨ A 0 m = 0) → zR (d + 3) 164 Q 52 [(2, 39), (0, i), (0, j), (0, k), (0, 0), (0, m + 1), x] [] u := fun e => ih 0 (Or.inr ⟨rfl, by
        rcases e with e | e
        · rcases hs with ⟨q, -⟩ | ⟨-, q⟩
          · omega
          · exact q
        · exact Or.inr ⟨m, hm, e⟩⟩) x
      have yes : ¬ s = 0 → ¬ A 0 m = 0 → zR (d + 3) 164 Q 52 [(2, 39), (0, i), (0, j), (0, k), (0, 1), (0, m + 1), x] [] u := fun e e2 => ih 1 (Or.inl (by
        rcases hs with ⟨-, q, q2⟩ | ⟨q, -⟩
        · refine ⟨rfl, q, fun m' hm' => ?_⟩
          by_cases w : m' = m
          · rw [w]; exact e2
          · exact q2 m' ⟨hm'.1, by have := hm'.2; omega⟩
        · exact absurd q e)) x
      exact ⟨fun _ => ⟨fun e => no (Or.inl e), fun e => ⟨fun e2 => no (Or.inr e2), fun e2 => yes e e2⟩⟩, fun e => absurd m1 e⟩
    · rintro s hs x
      rw [u164_52]
      simp only [k164_52, zO_nop, zO_goto, zO_iload_n0, zO_iload_n1, zO_iload_n2, zO_iload_n3, zO_iload, zO_lload_n0, zO_lload_n1, zO_lload_n2, zO_lload_n3, zO_lload, zO_aload_n0, zO_aload_n1, zO_aload_n2, zO_aload_n3, zO_aload, zO_istore_n0, zO_istore_n1, zO_istore_n2, zO_istore_n3, zO_istore, zO_astore_n0, zO_astore_n1, zO_astore_n2, zO_astore_n3, zO_astore, zO_lstore, zO_iinc, zO_iconst, zO_bipush, zO_sipush, zO_lconst0, zO_lconst1, zO_ldc, zO_ldc2_w, zO_iadd, zO_isub, zO_imul, zO_idiv, zO_irem, zO_ineg, zO_iand, zO_ior, zO_ixor, zO_ishl, zO_ishr, zO_iushr, zO_ladd, zO_lmul, zO_land, zO_lor, zO_lshl, zO_lcmp, zO_i2l, zO_l2i, zO_i2b, zO_dup0, zO_dup2, zO_dup200, zO_dup202, zO_dup220, zO_dup222, zO_ifCond_eq, zO_ifCond_ne, zO_ifCond_lt, zO_ifCond_ge, zO_ifCond_gt, zO_ifCond_le, zO_if_icmp_eq, zO_if_icmp_ne, zO_if_icmp_lt, zO_if_icmp_ge, zO_if_icmp_gt, zO_if_icmp_le, zO_getfield, zO_putfield, zO_iaload, zO_baload, zO_laload, zO_iastore, zO_bastore, zO_lastore, zO_arraylength, zO_invokevirtual, zO_lreturn, zO_areturn, zO_return_, zO_tableswitch, zO_lookupswitch, zO_is0, zO_is1, zO_is2, zO_is3, zO_is4, zO_is9, zO_is10, zO_is11, zO_is12, zO_ir1, zO_ir4, zB_c, zLd_0, zLd_s, zSt_c, zSt2_c, zU_c, zD_c, zY_c, zSw_n, zSw_c, zCall_c, zVirt_c, zP_0, zP_1, zP_2, zP_3, zP_4, zGet_n, zGet_z, zPut_n, zPut_z, zcw_n, zcw_0, zcw_1, zcw_2, List.length_cons, List.length_nil, List.take_succ_cons, List.take_zero, List.drop_succ_cons, List.drop_zero, List.reverse_cons, List.reverse_nil, List.nil_append, List.cons_append, List.append_nil, List.set_cons_zero, List.set_cons_succ, List.getD_cons_zero, List.getD_cons_succ, true_and, and_true, ne_eq, not_false_eq_true, not_true_eq_false, zif, Nat.reduceAdd, Nat.reduceLeDiff, Nat.reduceLT, Nat.reduceSub, Nat.reduceEqDiff, Nat.zero_le, Nat.lt_add_one, Nat.reduceMod, false_implies, true_implies, implies_true, forall_const, Int.reduceLE, Int.reduceLT, Int.reduceEq, Int.reduceNeg, ite10_0, ite10_1, zem, zem2, Classical.not_not, and_self, or_true, true_or, or_false, false_or, zT_39, zN_39, zGf_192_39, zGf_193_39, zGf_194_39, zPf_194_39, zGf_195_39, zGf_196_39, zGf_197_39, zGf_198_39, zPf_198_39, zGf_199_39, zPf_199_39, zGf_200_39, zPf_200_39, zGf_201_39, zGf_202_39, zPf_202_39, zGf_203_39, zGf_204_39, zPf_204_39, zGf_205_39, zGf_206_39, zGf_207_39, zGf_208_39, zGf_209_39, zGf_210_39, zGf_211_39, zGf_212_39, zGf_213_39, zGf_214_39, zPf_214_39, zGf_215_39, zGf_216_39, zAl_40, zAs_40, u1]
      exact ⟨fun e => absurd e (by omega), fun _ => hfin s hs _⟩
  have r01 : r = 0 ∨ r = 1 := by rcases hu with ⟨e, -⟩ | ⟨e, -⟩ <;> omega
  refine hl 0 r (by omega) (by omega) ?_ _
  rcases r01 with e | e
  · exact Or.inr ⟨e, Or.inl e⟩
  · exact Or.inl ⟨e, e, fun m' hm' => by have := hm'.1; have := hm'.2; omega⟩
theorem op_given (a1 a2 a3 : Int) : zOp 72 164 [(0, a1), (0, a2), (0, a3)] := by
  refine zOp_q (fun μ r => rgd ((0 ≤ a1 ∧ a1 < μ 1 1) ∧ (0 ≤ a2 ∧ a2 < μ 1 1) ∧ (0 ≤ a3 ∧ a3 < μ 1 1)) (gvR (μ 1 1) (lwA μ) a1 a2 a3) (-1) r) (fun μ r r' => rgd_one (fun _ _ => gvR_one)) ?_ ?_ ?_
  · intro μ hr
    by_cases hv : (0 ≤ a1 ∧ a1 < μ 1 1) ∧ (0 ≤ a2 ∧ a2 < μ 1 1) ∧ (0 ≤ a3 ∧ a3 < μ 1 1)
    · refine zuse (K_given (d := 35) hr hv.1 hv.2.1 hv.2.2) ?_
      rintro r u ⟨h1, f⟩
      exact ⟨rgd_y hv h1, Rel_fr hr (zfr_up f (by decide)), zfr_up f (by decide)⟩
    · simp only [e72, k72_0, e72, k72_0, u72_12, k72_12, u72_43, k72_43, u72_79, k72_79, u72_134, k72_134, zO_nop, zO_goto, zO_iload_n0, zO_iload_n1, zO_iload_n2, zO_iload_n3, zO_iload, zO_lload_n0, zO_lload_n1, zO_lload_n2, zO_lload_n3, zO_lload, zO_aload_n0, zO_aload_n1, zO_aload_n2, zO_aload_n3, zO_aload, zO_istore_n0, zO_istore_n1, zO_istore_n2, zO_istore_n3, zO_istore, zO_astore_n0, zO_astore_n1, zO_astore_n2, zO_astore_n3, zO_astore, zO_lstore, zO_iinc, zO_iconst, zO_bipush, zO_sipush, zO_lconst0, zO_lconst1, zO_ldc, zO_ldc2_w, zO_iadd, zO_isub, zO_imul, zO_idiv, zO_irem, zO_ineg, zO_iand, zO_ior, zO_ixor, zO_ishl, zO_ishr, zO_iushr, zO_ladd, zO_lmul, zO_land, zO_lor, zO_lshl, zO_lcmp, zO_i2l, zO_l2i, zO_i2b, zO_dup0, zO_dup2, zO_dup200, zO_dup202, zO_dup220, zO_dup222, zO_ifCond_eq, zO_ifCond_ne, zO_ifCond_lt, zO_ifCond_ge, zO_ifCond_gt, zO_ifCond_le, zO_if_icmp_eq, zO_if_icmp_ne, zO_if_icmp_lt, zO_if_icmp_ge, zO_if_icmp_gt, zO_if_icmp_le, zO_getfield, zO_putfield, zO_iaload, zO_baload, zO_laload, zO_iastore, zO_bastore, zO_lastore, zO_arraylength, zO_invokevirtual, zO_lreturn, zO_areturn, zO_return_, zO_tableswitch, zO_lookupswitch, zO_is0, zO_is1, zO_is2, zO_is3, zO_is4, zO_is9, zO_is10, zO_is11, zO_is12, zO_ir1, zO_ir4, zB_c, zLd_0, zLd_s, zSt_c, zSt2_c, zU_c, zD_c, zY_c, zSw_n, zSw_c, zCall_c, zVirt_c, zP_0, zP_1, zP_2, zP_3, zP_4, zGet_n, zGet_z, zPut_n, zPut_z, zcw_n, zcw_0, zcw_1, zcw_2, List.length_cons, List.length_nil, List.take_succ_cons, List.take_zero, List.drop_succ_cons, List.drop_zero, List.reverse_cons, List.reverse_nil, List.nil_append, List.cons_append, List.append_nil, List.set_cons_zero, List.set_cons_succ, List.getD_cons_zero, List.getD_cons_succ, true_and, and_true, ne_eq, not_false_eq_true, not_true_eq_false, zif, Nat.reduceAdd, Nat.reduceLeDiff, Nat.reduceLT, Nat.reduceSub, Nat.reduceEqDiff, Nat.zero_le, Nat.lt_add_one, Nat.reduceMod, false_implies, true_implies, implies_true, forall_const, Int.reduceLE, Int.reduceLT, Int.reduceEq, Int.reduceNeg, ite10_0, ite10_1, zem, zem2, Classical.not_not, and_self, or_true, true_or, or_false, false_or, zT_0, zN_0, zGf_160_0, zGf_161_0, zGf_162_0, zPf_162_0, zGf_163_0, zGf_164_0, zGf_165_0, zGf_166_0, zGf_167_0, zPf_167_0, zGf_168_0, zPf_168_0, zGf_169_0, zGf_170_0, zGf_171_0, zPf_171_0, zGf_172_0, zGf_173_0, zGf_174_0, zGf_175_0, zGf_176_0, K_areSorts]
      exact ⟨fun _ => ⟨rgd_n hv, hr, zfr_rf⟩, fun e => absurd e hv⟩
  · intro μ hr
    obtain ⟨q0, q1, q2, q3, q4, q5, q6, q7, q8, q9⟩ := rH_1.mp hr.1
    have hn := (Rel_n hr).1
    by_cases hv : (0 ≤ a1 ∧ a1 < μ 1 1) ∧ (0 ≤ a2 ∧ a2 < μ 1 1) ∧ (0 ≤ a3 ∧ a3 < μ 1 1)
    · have ha : mTb 40 148 (μ 1 1) (lwA μ) μ := fun i m hi hm => (q5 (5 * i + m) (by unfold zrg at hi hm; omega) (by unfold zrg at hi hm; omega)).2
      have hb : mBd (μ 1 1) (lwA μ) := fun i m hi hm => (q5 (5 * i + m) (by unfold zrg at hi hm; omega) (by unfold zrg at hi hm; omega)).1
      refine zuse (L_given (d := 36) hr rfl hv.1 hv.2.1 hv.2.2 ha hb) ?_
      rintro r u ⟨h1, f⟩
      exact ⟨rgd_y hv h1, zfr_up f (by decide)⟩
    · have hno : rgd ((0 ≤ a1 ∧ a1 < μ 1 1) ∧ (0 ≤ a2 ∧ a2 < μ 1 1) ∧ (0 ≤ a3 ∧ a3 < μ 1 1)) (gvR (μ 1 1) (lwA μ) a1 a2 a3) (-1) (-1) := rgd_n hv
      have hf : zfr zTm μ μ := zfr_rf
      simp only [e164, k164_0, e164, k164_0, u164_24, k164_24, u164_26, k164_26, u164_82, k164_82, u164_83, k164_83, u164_91, k164_91, u164_99, k164_99, u164_174, k164_174, zO_nop, zO_goto, zO_iload_n0, zO_iload_n1, zO_iload_n2, zO_iload_n3, zO_iload, zO_lload_n0, zO_lload_n1, zO_lload_n2, zO_lload_n3, zO_lload, zO_aload_n0, zO_aload_n1, zO_aload_n2, zO_aload_n3, zO_aload, zO_istore_n0, zO_istore_n1, zO_istore_n2, zO_istore_n3, zO_istore, zO_astore_n0, zO_astore_n1, zO_astore_n2, zO_astore_n3, zO_astore, zO_lstore, zO_iinc, zO_iconst, zO_bipush, zO_sipush, zO_lconst0, zO_lconst1, zO_ldc, zO_ldc2_w, zO_iadd, zO_isub, zO_imul, zO_idiv, zO_irem, zO_ineg, zO_iand, zO_ior, zO_ixor, zO_ishl, zO_ishr, zO_iushr, zO_ladd, zO_lmul, zO_land, zO_lor, zO_lshl, zO_lcmp, zO_i2l, zO_l2i, zO_i2b, zO_dup0, zO_dup2, zO_dup200, zO_dup202, zO_dup220, zO_dup222, zO_ifCond_eq, zO_ifCond_ne, zO_ifCond_lt, zO_ifCond_ge, zO_ifCond_gt, zO_ifCond_le, zO_if_icmp_eq, zO_if_icmp_ne, zO_if_icmp_lt, zO_if_icmp_ge, zO_if_icmp_gt, zO_if_icmp_le, zO_getfield, zO_putfield, zO_iaload, zO_baload, zO_laload, zO_iastore, zO_bastore, zO_lastore, zO_arraylength, zO_invokevirtual, zO_lreturn, zO_areturn, zO_return_, zO_tableswitch, zO_lookupswitch, zO_is0, zO_is1, zO_is2, zO_is3, zO_is4, zO_is9, zO_is10, zO_is11, zO_is12, zO_ir1, zO_ir4, zB_c, zLd_0, zLd_s, zSt_c, zSt2_c, zU_c, zD_c, zY_c, zSw_n, zSw_c, zCall_c, zVirt_c, zP_0, zP_1, zP_2, zP_3, zP_4, zGet_n, zGet_z, zPut_n, zPut_z, zcw_n, zcw_0, zcw_1, zcw_2, List.length_cons, List.length_nil, List.take_succ_cons, List.take_zero, List.drop_succ_cons, List.drop_zero, List.reverse_cons, List.reverse_nil, List.nil_append, List.cons_append, List.append_nil, List.set_cons_zero, List.set_cons_succ, List.getD_cons_zero, List.getD_cons_succ, true_and, and_true, ne_eq, not_false_eq_true, not_true_eq_false, zif, Nat.reduceAdd, Nat.reduceLeDiff, Nat.reduceLT, Nat.reduceSub, Nat.reduceEqDiff, Nat.zero_le, Nat.lt_add_one, Nat.reduceMod, false_implies, true_implies, implies_true, forall_const, Int.reduceLE, Int.reduceLT, Int.reduceEq, Int.reduceNeg, ite10_0, ite10_1, zem, zem2, Classical.not_not, and_self, or_true, true_or, or_false, false_or, zT_39, zN_39, zGf_192_39, zGf_193_39, zGf_194_39, zPf_194_39, zGf_195_39, zGf_196_39, zGf_197_39, zGf_198_39, zPf_198_39, zGf_199_39, zPf_199_39, zGf_200_39, zPf_200_39, zGf_201_39, zGf_202_39, zPf_202_39, zGf_203_39, zGf_204_39, zPf_204_39, zGf_205_39, zGf_206_39, zGf_207_39, zGf_208_39, zGf_209_39, zGf_210_39, zGf_211_39, zGf_212_39, zGf_213_39, zGf_214_39, zPf_214_39, zGf_215_39, zGf_216_39, L_isSort2 hr]
      (repeat' (first | assumption | (with_reducible refine And.intro ?_ ?_) | (intro hh; first | subst hh | skip)))
      all_goals (first | (exfalso; omega))
  · intro μ u r f h
    have e : lwA u = lwA μ := by funext i m; unfold lwA; rw [zfr_c f (a := 4) (by decide)]
    rw [e, zfr_c f (a := 1) (by decide)] at h
    exact h
