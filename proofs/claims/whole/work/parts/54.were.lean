/-! WERE -/
theorem zor_in (a b : Int) : zi32 (zor a b) := zin32 _
theorem zor_0 {x : Int} (hx : zi32 x) : zor x 0 = x := by
  unfold zor
  rw [show Int32.ofInt 0 = 0 by decide, Int32.or_zero, zt32 hx]
theorem zshl_0 {v : Int} (h : 0 ≤ v ∧ v < 10) : zshl 0 v = 0 := by
  obtain rfl | rfl | rfl | rfl | rfl | rfl | rfl | rfl | rfl | rfl : v = 0 ∨ v = 1 ∨ v = 2 ∨ v = 3 ∨ v = 4 ∨ v = 5 ∨ v = 6 ∨ v = 7 ∨ v = 8 ∨ v = 9 := by omega
  all_goals decide
theorem zfr_back {S : List (Int × Int)} {c : Int} {μ u : zM} (f : zfr ((c, -1) :: S) μ u) (h : ∀ i, u c i = μ c i) : zfr S μ u := by
  intro a i hai
  by_cases e : a = c
  · rw [e]; exact h i
  · refine f a i ?_
    unfold zfq at hai ⊢
    rw [List.any_cons, hai, Bool.or_false]
    have : (c == a) = false := by simpa using fun z : c = a => e z.symm
    rw [this, Bool.false_and]
def wrT (μ : zM) (i j k v x : Int) : Int := if x = 25 * i + 5 * j + k ∨ x = 25 * j + 5 * i + k then v else μ 2 x
def wrN (μ : zM) (i j k v a b c : Int) : Int := oF (μ 1 0) (μ 1 1) (μ 1 2) (wrT μ i j k v) a b c
noncomputable def wrB (μ : zM) (i j k : Int) : Nat → Int
  | 0 => 0
  | t + 1 => @ite Int (noC (wrN μ i j k t) (μ 1 1)) (Classical.propDecidable _) (zor (wrB μ i j k t) (zshl 1 t)) (wrB μ i j k t)
theorem wrB_y {μ : zM} {i j k : Int} {t : Nat} (h : noC (wrN μ i j k t) (μ 1 1)) : wrB μ i j k (t + 1) = zor (wrB μ i j k t) (zshl 1 t) := by
  show @ite Int _ (Classical.propDecidable _) _ _ = _
  exact if_pos h
theorem wrB_n {μ : zM} {i j k : Int} {t : Nat} (h : ¬ noC (wrN μ i j k t) (μ 1 1)) : wrB μ i j k (t + 1) = wrB μ i j k t := by
  show @ite Int _ (Classical.propDecidable _) _ _ = _
  exact if_neg h
theorem wrB_0 {μ : zM} {i j k : Int} : ∀ m : Nat, (∀ t : Nat, t < m → ¬ noC (wrN μ i j k t) (μ 1 1)) → wrB μ i j k m = 0
  | 0, _ => rfl
  | m + 1, h => by rw [wrB_n (h m (by omega)), wrB_0 m (fun t ht => h t (by omega))]
theorem wrN_b {μ : zM} {i j k v : Int} (h : Rel μ) (hv : 0 ≤ v ∧ v ≤ 9) : zNb (μ 1 1) (wrN μ i j k v) := by
  obtain ⟨-, ⟨a1, -⟩, ⟨a3, -⟩, a4, -⟩ := rH_1.mp h.1
  intro a b c ha hb hc
  unfold zrg at ha hb hc
  have := (a4 (25 * a + 5 * b + c) (by omega) (by omega)).1
  exact oF_bd a3 (by unfold wrT; split <;> omega)
theorem wrN_p {μ : zM} {i j k v : Int} : zNp (μ 1 1) (wrN μ i j k v) := by
  intro a c ha hc
  unfold wrN oF
  rw [if_pos (Or.inl rfl), if_pos (Or.inr rfl)]
  simp
/-- what is told doesn't count -/
theorem wrN_x {μ : zM} {i j k v : Int} (h : Rel μ) (hi : 1 ≤ i ∧ i < 5) (hj : 1 ≤ j ∧ j < 5) (hk : 0 ≤ k ∧ k < 5) (hno : ¬ (μ 1 0 = 0 ∧ i < μ 1 1 ∧ j < μ 1 1 ∧ k < μ 1 1)) {a b c : Int} (ha : zrg (μ 1 1) a) (hb : zrg (μ 1 1) b) (hc : zrg (μ 1 1) c) : wrN μ i j k v a b c = xF μ a b c := by
  obtain ⟨⟨a0, -⟩, ⟨a1, -⟩, -⟩ := rH_1.mp h.1
  unfold zrg at ha hb hc
  unfold wrN xF oF
  by_cases h0 : μ 1 0 = 0
  · have : wrT μ i j k v (25 * a + 5 * b + c) = μ 2 (25 * a + 5 * b + c) := by
      unfold wrT
      rw [if_neg (by omega)]
    rw [this]
  · have : μ 1 0 = 1 ∨ μ 1 0 = 2 ∨ μ 1 0 = 3 ∨ μ 1 0 = 4 := by omega
    rcases this with e | e | e | e <;> rw [e] <;> simp
theorem K_were {d : Nat} {i j k : Int} {μ : zM} (hr : Rel μ) (hi : 1 ≤ i ∧ i < 5) (hj : 1 ≤ j ∧ j < 5) (hk : 0 ≤ k ∧ k < 5) : zC (d + 6) 75 [(2, 0), (0, i), (0, j), (0, k)] μ (fun r u => r = wrB μ i j k 10 ∧ zfr [(17, -1), (18, -1)] μ u) := by
  have hn := (Rel_n hr).1
  generalize hQ : (fun (r : Int) (u : zM) => r = wrB μ i j k 10 ∧ zfr [(17, -1), (18, -1)] μ u) = Q
  have PL : ∀ {w : zM} {P : Int → zM → Prop}, (zC (d + 5) 104 [(0, i), (0, j), (0, k)] w P ↔ P (25 * i + 5 * j + k) w) := K_place (d := d + 4) (by omega) (by omega) (by omega)
  have PL2 : ∀ {w : zM} {P : Int → zM → Prop}, (zC (d + 5) 104 [(0, j), (0, i), (0, k)] w P ↔ P (25 * j + 5 * i + k) w) := K_place (d := d + 4) (by omega) (by omega) (by omega)
  have one : ∀ (v : Int) (w : zM) (N : Int → Int → Int → Int), 0 ≤ v → v < 10 → w 17 0 = μ 1 1 → zFu 18 (μ 1 1) N w → (∀ a b c, zrg (μ 1 1) a → zrg (μ 1 1) b → zrg (μ 1 1) c → N a b c = wrN μ i j k v a b c) → zC (d + 5) 19 [(2, 17)] w (fun r u => u = w ∧ (r = -5 ↔ noC (wrN μ i j k v) (μ 1 1))) := by
    intro v w N v0 v1 h17 hF hN
    refine zuse (K_firstClash17 (d := d + 1) (n := μ 1 1) (N := wrN μ i j k v) hn h17 (fun a b c ha hb hc => by rw [hF a b c ha hb hc, hN a b c ha hb hc]) (wrN_b hr (by omega)) wrN_p) ?_
    rintro r u ⟨rfl, hc⟩
    exact ⟨rfl, isC_no hc⟩
  by_cases hcnt : μ 1 0 = 0 ∧ i < μ 1 1 ∧ j < μ 1 1 ∧ k < μ 1 1
  · have hl : ∀ v (s : Int × zM), 0 ≤ v → v ≤ 10 → ((s.1 = wrB μ i j k v.toNat ∧ zi32 s.1) ∧ zfr [(17, -1), (18, -1)] μ s.2 ∧ s.2 17 0 = μ 1 1 ∧ ∀ a b c, zrg (μ 1 1) a → zrg (μ 1 1) b → zrg (μ 1 1) c → ¬ (25 * a + 5 * b + c = 25 * i + 5 * j + k ∨ 25 * a + 5 * b + c = 25 * j + 5 * i + k) → s.2 18 (25 * a + 5 * b + c) = xF μ a b c) → zR (d + 5) 75 Q 55 [(2, 0), (0, i), (0, j), (0, k), (0, 1), (0, s.1), (0, v)] [] s.2 := by
      refine zloop (n := 10) (Inv := fun v (s : Int × zM) => (s.1 = wrB μ i j k v.toNat ∧ zi32 s.1) ∧ zfr [(17, -1), (18, -1)] μ s.2 ∧ s.2 17 0 = μ 1 1 ∧ ∀ a b c, zrg (μ 1 1) a → zrg (μ 1 1) b → zrg (μ 1 1) c → ¬ (25 * a + 5 * b + c = 25 * i + 5 * j + k ∨ 25 * a + 5 * b + c = 25 * j + 5 * i + k) → s.2 18 (25 * a + 5 * b + c) = xF μ a b c) (R := fun v s => zR (d + 5) 75 Q 55 [(2, 0), (0, i), (0, j), (0, k), (0, 1), (0, s.1), (0, v)] [] s.2) ?_ ?_
      · rintro v ⟨s, w⟩ v0 v1 ⟨⟨s1, s2⟩, f, h17, g⟩ ih
        simp only at s1 s2 f h17 g
        rw [u75_55]
        simp only [k75_55, e75, k75_0, u75_11, k75_11, u75_46, k75_46, u75_47, k75_47, u75_99, k75_99, u75_123, k75_123, u75_130, k75_130, u75_136, k75_136, zO_nop, zO_goto, zO_iload_n0, zO_iload_n1, zO_iload_n2, zO_iload_n3, zO_iload, zO_lload_n0, zO_lload_n1, zO_lload_n2, zO_lload_n3, zO_lload, zO_aload_n0, zO_aload_n1, zO_aload_n2, zO_aload_n3, zO_aload, zO_istore_n0, zO_istore_n1, zO_istore_n2, zO_istore_n3, zO_istore, zO_astore_n0, zO_astore_n1, zO_astore_n2, zO_astore_n3, zO_astore, zO_lstore, zO_iinc, zO_iconst, zO_bipush, zO_sipush, zO_lconst0, zO_lconst1, zO_ldc, zO_ldc2_w, zO_iadd, zO_isub, zO_imul, zO_idiv, zO_irem, zO_ineg, zO_iand, zO_ior, zO_ixor, zO_ishl, zO_ishr, zO_iushr, zO_ladd, zO_lmul, zO_land, zO_lor, zO_lshl, zO_lcmp, zO_i2l, zO_l2i, zO_i2b, zO_dup0, zO_dup2, zO_dup200, zO_dup202, zO_dup220, zO_dup222, zO_ifCond_eq, zO_ifCond_ne, zO_ifCond_lt, zO_ifCond_ge, zO_ifCond_gt, zO_ifCond_le, zO_if_icmp_eq, zO_if_icmp_ne, zO_if_icmp_lt, zO_if_icmp_ge, zO_if_icmp_gt, zO_if_icmp_le, zO_getfield, zO_putfield, zO_iaload, zO_baload, zO_laload, zO_iastore, zO_bastore, zO_lastore, zO_arraylength, zO_invokevirtual, zO_lreturn, zO_areturn, zO_return_, zO_tableswitch, zO_lookupswitch, zO_is0, zO_is1, zO_is2, zO_is3, zO_is4, zO_is9, zO_is10, zO_is11, zO_is12, zO_ir1, zO_ir4, zB_c, zLd_0, zLd_s, zSt_c, zSt2_c, zU_c, zD_c, zY_c, zSw_n, zSw_c, zCall_c, zVirt_c, zP_0, zP_1, zP_2, zP_3, zP_4, zGet_n, zGet_z, zPut_n, zPut_z, zcw_n, zcw_0, zcw_1, zcw_2, List.length_cons, List.length_nil, List.take_succ_cons, List.take_zero, List.drop_succ_cons, List.drop_zero, List.reverse_cons, List.reverse_nil, List.nil_append, List.cons_append, List.append_nil, List.set_cons_zero, List.set_cons_succ, List.getD_cons_zero, List.getD_cons_succ, true_and, and_true, ne_eq, not_false_eq_true, not_true_eq_false, zif, Nat.reduceAdd, Nat.reduceLeDiff, Nat.reduceLT, Nat.reduceSub, Nat.reduceEqDiff, Nat.zero_le, Nat.lt_add_one, Nat.reduceMod, false_implies, true_implies, implies_true, forall_const, Int.reduceLE, Int.reduceLT, Int.reduceEq, Int.reduceNeg, ite10_0, ite10_1, zem, zem2, Classical.not_not, and_self, or_true, true_or, or_false, false_or, zT_0, zN_0, zGf_160_0, zGf_161_0, zGf_162_0, zPf_162_0, zGf_163_0, zGf_164_0, zGf_165_0, zGf_166_0, zGf_167_0, zPf_167_0, zGf_168_0, zPf_168_0, zGf_169_0, zGf_170_0, zGf_171_0, zPf_171_0, zGf_172_0, zGf_173_0, zGf_174_0, zGf_175_0, zGf_176_0, zT_17, zN_17, zGf_32_17, zPf_32_17, zGf_33_17, zAl_18, zAs_18, PL, PL2]
        refine ⟨fun e => absurd e (by omega), fun _ => ⟨by omega, by omega, by omega, by omega, ?_⟩⟩
        have e18 : ∀ x, zu (zu w 18 (25 * i + 5 * j + k) v) 18 (25 * j + 5 * i + k) v 18 x = if x = 25 * i + 5 * j + k ∨ x = 25 * j + 5 * i + k then v else w 18 x := fun x => by simp only [zu_d, true_and]; grind
        have fw : zfr [(17, -1), (18, -1)] w (zu (zu w 18 (25 * i + 5 * j + k) v) 18 (25 * j + 5 * i + k) v) := zfr_w (zfr_w zfr_rf (by decide)) (by decide)
        have e17 : zu (zu w 18 (25 * i + 5 * j + k) v) 18 (25 * j + 5 * i + k) v 17 0 = μ 1 1 := by simp (disch := decide) only [zu_c]; exact h17
        generalize zu (zu w 18 (25 * i + 5 * j + k) v) 18 (25 * j + 5 * i + k) v = w2 at e18 fw e17 ⊢
        refine zuse (one v w2 (wrN μ i j k v) v0 v1 e17 (fun a b c ha hb hc => ?_) (fun a b c _ _ _ => rfl)) ?_
        · rw [e18]
          by_cases q : 25 * a + 5 * b + c = 25 * i + 5 * j + k ∨ 25 * a + 5 * b + c = 25 * j + 5 * i + k
          · unfold zrg at ha hb hc
            rw [if_pos q]
            unfold wrN oF
            rw [if_neg (by omega), hcnt.1]
            simp only [Int.reduceEq, if_false, or_self]
            unfold wrT
            rw [if_pos q]
          · rw [if_neg q, g a b c ha hb hc q]
            unfold wrN xF oF
            have : wrT μ i j k v (25 * a + 5 * b + c) = μ 2 (25 * a + 5 * b + c) := by unfold wrT; rw [if_neg q]
            rw [this]
        · rintro r u ⟨rfl, hx⟩
          have ev : (v + 1).toNat = v.toNat + 1 := by omega
          have evc : ((v.toNat : Nat) : Int) = v := by omega
          have bt : zw (v + 1) = v + 1 := zw_e (by omega) (by omega)
          have keep : ∀ a b c, zrg (μ 1 1) a → zrg (μ 1 1) b → zrg (μ 1 1) c → ¬ (25 * a + 5 * b + c = 25 * i + 5 * j + k ∨ 25 * a + 5 * b + c = 25 * j + 5 * i + k) → u 18 (25 * a + 5 * b + c) = xF μ a b c := fun a b c ha hb hc q => by rw [e18, if_neg q]; exact g a b c ha hb hc q
          rw [bt]
          by_cases hp : noC (wrN μ i j k v) (μ 1 1)
          · refine ⟨fun _ => ih (zor s (zshl 1 v), u) ⟨⟨?_, zor_in _ _⟩, zfr_tr f fw, e17, keep⟩, fun e => absurd (hx.mpr hp) e⟩
            rw [ev, wrB_y (by rw [evc]; exact hp), evc, ← s1]
          · refine ⟨fun e => absurd (hx.mp e) hp, fun _ => ih (s, u) ⟨⟨?_, s2⟩, zfr_tr f fw, e17, keep⟩⟩
            rw [ev, wrB_n (by rw [evc]; exact hp), ← s1]
      · rintro ⟨s, w⟩ ⟨⟨s1, s2⟩, f, h17, g⟩
        simp only at s1 s2 f h17 g
        rw [u75_55]
        simp only [k75_55, e75, k75_0, u75_11, k75_11, u75_46, k75_46, u75_47, k75_47, u75_99, k75_99, u75_123, k75_123, u75_130, k75_130, u75_136, k75_136, zO_nop, zO_goto, zO_iload_n0, zO_iload_n1, zO_iload_n2, zO_iload_n3, zO_iload, zO_lload_n0, zO_lload_n1, zO_lload_n2, zO_lload_n3, zO_lload, zO_aload_n0, zO_aload_n1, zO_aload_n2, zO_aload_n3, zO_aload, zO_istore_n0, zO_istore_n1, zO_istore_n2, zO_istore_n3, zO_istore, zO_astore_n0, zO_astore_n1, zO_astore_n2, zO_astore_n3, zO_astore, zO_lstore, zO_iinc, zO_iconst, zO_bipush, zO_sipush, zO_lconst0, zO_lconst1, zO_ldc, zO_ldc2_w, zO_iadd, zO_isub, zO_imul, zO_idiv, zO_irem, zO_ineg, zO_iand, zO_ior, zO_ixor, zO_ishl, zO_ishr, zO_iushr, zO_ladd, zO_lmul, zO_land, zO_lor, zO_lshl, zO_lcmp, zO_i2l, zO_l2i, zO_i2b, zO_dup0, zO_dup2, zO_dup200, zO_dup202, zO_dup220, zO_dup222, zO_ifCond_eq, zO_ifCond_ne, zO_ifCond_lt, zO_ifCond_ge, zO_ifCond_gt, zO_ifCond_le, zO_if_icmp_eq, zO_if_icmp_ne, zO_if_icmp_lt, zO_if_icmp_ge, zO_if_icmp_gt, zO_if_icmp_le, zO_getfield, zO_putfield, zO_iaload, zO_baload, zO_laload, zO_iastore, zO_bastore, zO_lastore, zO_arraylength, zO_invokevirtual, zO_lreturn, zO_areturn, zO_return_, zO_tableswitch, zO_lookupswitch, zO_is0, zO_is1, zO_is2, zO_is3, zO_is4, zO_is9, zO_is10, zO_is11, zO_is12, zO_ir1, zO_ir4, zB_c, zLd_0, zLd_s, zSt_c, zSt2_c, zU_c, zD_c, zY_c, zSw_n, zSw_c, zCall_c, zVirt_c, zP_0, zP_1, zP_2, zP_3, zP_4, zGet_n, zGet_z, zPut_n, zPut_z, zcw_n, zcw_0, zcw_1, zcw_2, List.length_cons, List.length_nil, List.take_succ_cons, List.take_zero, List.drop_succ_cons, List.drop_zero, List.reverse_cons, List.reverse_nil, List.nil_append, List.cons_append, List.append_nil, List.set_cons_zero, List.set_cons_succ, List.getD_cons_zero, List.getD_cons_succ, true_and, and_true, ne_eq, not_false_eq_true, not_true_eq_false, zif, Nat.reduceAdd, Nat.reduceLeDiff, Nat.reduceLT, Nat.reduceSub, Nat.reduceEqDiff, Nat.zero_le, Nat.lt_add_one, Nat.reduceMod, false_implies, true_implies, implies_true, forall_const, Int.reduceLE, Int.reduceLT, Int.reduceEq, Int.reduceNeg, ite10_0, ite10_1, zem, zem2, Classical.not_not, and_self, or_true, true_or, or_false, false_or, zT_0, zN_0, zGf_160_0, zGf_161_0, zGf_162_0, zPf_162_0, zGf_163_0, zGf_164_0, zGf_165_0, zGf_166_0, zGf_167_0, zPf_167_0, zGf_168_0, zPf_168_0, zGf_169_0, zGf_170_0, zGf_171_0, zPf_171_0, zGf_172_0, zGf_173_0, zGf_174_0, zGf_175_0, zGf_176_0, zT_17, zN_17, zGf_32_17, zPf_32_17, zGf_33_17, zAl_18, zAs_18]
        rw [← hQ]
        exact ⟨s1, f⟩
    have hc0 := hcnt.1
    simp only [e75, k75_0, e75, k75_0, u75_11, k75_11, u75_46, k75_46, u75_47, k75_47, u75_99, k75_99, u75_123, k75_123, u75_130, k75_130, u75_136, k75_136, zO_nop, zO_goto, zO_iload_n0, zO_iload_n1, zO_iload_n2, zO_iload_n3, zO_iload, zO_lload_n0, zO_lload_n1, zO_lload_n2, zO_lload_n3, zO_lload, zO_aload_n0, zO_aload_n1, zO_aload_n2, zO_aload_n3, zO_aload, zO_istore_n0, zO_istore_n1, zO_istore_n2, zO_istore_n3, zO_istore, zO_astore_n0, zO_astore_n1, zO_astore_n2, zO_astore_n3, zO_astore, zO_lstore, zO_iinc, zO_iconst, zO_bipush, zO_sipush, zO_lconst0, zO_lconst1, zO_ldc, zO_ldc2_w, zO_iadd, zO_isub, zO_imul, zO_idiv, zO_irem, zO_ineg, zO_iand, zO_ior, zO_ixor, zO_ishl, zO_ishr, zO_iushr, zO_ladd, zO_lmul, zO_land, zO_lor, zO_lshl, zO_lcmp, zO_i2l, zO_l2i, zO_i2b, zO_dup0, zO_dup2, zO_dup200, zO_dup202, zO_dup220, zO_dup222, zO_ifCond_eq, zO_ifCond_ne, zO_ifCond_lt, zO_ifCond_ge, zO_ifCond_gt, zO_ifCond_le, zO_if_icmp_eq, zO_if_icmp_ne, zO_if_icmp_lt, zO_if_icmp_ge, zO_if_icmp_gt, zO_if_icmp_le, zO_getfield, zO_putfield, zO_iaload, zO_baload, zO_laload, zO_iastore, zO_bastore, zO_lastore, zO_arraylength, zO_invokevirtual, zO_lreturn, zO_areturn, zO_return_, zO_tableswitch, zO_lookupswitch, zO_is0, zO_is1, zO_is2, zO_is3, zO_is4, zO_is9, zO_is10, zO_is11, zO_is12, zO_ir1, zO_ir4, zB_c, zLd_0, zLd_s, zSt_c, zSt2_c, zU_c, zD_c, zY_c, zSw_n, zSw_c, zCall_c, zVirt_c, zP_0, zP_1, zP_2, zP_3, zP_4, zGet_n, zGet_z, zPut_n, zPut_z, zcw_n, zcw_0, zcw_1, zcw_2, List.length_cons, List.length_nil, List.take_succ_cons, List.take_zero, List.drop_succ_cons, List.drop_zero, List.reverse_cons, List.reverse_nil, List.nil_append, List.cons_append, List.append_nil, List.set_cons_zero, List.set_cons_succ, List.getD_cons_zero, List.getD_cons_succ, true_and, and_true, ne_eq, not_false_eq_true, not_true_eq_false, zif, Nat.reduceAdd, Nat.reduceLeDiff, Nat.reduceLT, Nat.reduceSub, Nat.reduceEqDiff, Nat.zero_le, Nat.lt_add_one, Nat.reduceMod, false_implies, true_implies, implies_true, forall_const, Int.reduceLE, Int.reduceLT, Int.reduceEq, Int.reduceNeg, ite10_0, ite10_1, zem, zem2, Classical.not_not, and_self, or_true, true_or, or_false, false_or, zT_0, zN_0, zGf_160_0, zGf_161_0, zGf_162_0, zPf_162_0, zGf_163_0, zGf_164_0, zGf_165_0, zGf_166_0, zGf_167_0, zPf_167_0, zGf_168_0, zPf_168_0, zGf_169_0, zGf_170_0, zGf_171_0, zPf_171_0, zGf_172_0, zGf_173_0, zGf_174_0, zGf_175_0, zGf_176_0, zT_1, zN_1, zGf_64_1, zPf_64_1, zGf_65_1, zPf_65_1, zGf_66_1, zPf_66_1, zGf_67_1, zGf_68_1, zGf_69_1, zGf_70_1, zGf_71_1, zGf_72_1, zGf_73_1, zPf_73_1, zT_17, zN_17, zGf_32_17, zPf_32_17, zGf_33_17, zT_1, zN_1, K_isTold, hi, hj, hk]
    refine zuse (K_becomeRules17 (d := d + 1) hn) ?_
    rintro r u ⟨rfl, f, g1, g2⟩
    have fu : zfr [(17, -1), (18, -1)] μ u := zfr_sm f (by decide)
    have e1 : u 1 = μ 1 := zfr_c fu (by decide)
    have ii : 0 ≤ i ∧ 0 ≤ j ∧ 0 ≤ k := by omega
    have hm := hl 0 (0, u) (by omega) (by omega) ⟨⟨rfl, (show zi32 0 from ⟨by decide, by decide⟩)⟩, fu, g1, fun a b c ha hb hc q => g2 a b c ha.1 ha.2 hb.1 hb.2 hc.1 hc.2⟩
    simp only [K_areSorts, e1, hc0, ite10_0, Classical.not_not, not_true_eq_false, false_implies, true_implies, and_true]
    (repeat' (first | assumption | (with_reducible refine And.intro ?_ ?_) | (intro hh; first | subst hh | skip)))
    all_goals (first | (exfalso; omega) | omega)
  · have hl : ∀ v (s : Int × zM), 0 ≤ v → v ≤ 10 → ((s.1 = wrB μ i j k v.toNat ∧ zi32 s.1) ∧ zfr [(17, -1), (18, -1)] μ s.2 ∧ s.2 17 0 = μ 1 1 ∧ zFu 18 (μ 1 1) (xF μ) s.2 ∧ (0 < v → noC (xF μ) (μ 1 1))) → zR (d + 5) 75 Q 55 [(2, 0), (0, i), (0, j), (0, k), (0, 0), (0, s.1), (0, v)] [] s.2 := by
      refine zloop (n := 10) (Inv := fun v (s : Int × zM) => (s.1 = wrB μ i j k v.toNat ∧ zi32 s.1) ∧ zfr [(17, -1), (18, -1)] μ s.2 ∧ s.2 17 0 = μ 1 1 ∧ zFu 18 (μ 1 1) (xF μ) s.2 ∧ (0 < v → noC (xF μ) (μ 1 1))) (R := fun v s => zR (d + 5) 75 Q 55 [(2, 0), (0, i), (0, j), (0, k), (0, 0), (0, s.1), (0, v)] [] s.2) ?_ ?_
      · rintro v ⟨s, w⟩ v0 v1 ⟨⟨s1, s2⟩, f, h17, g, hv⟩ ih
        simp only at s1 s2 f h17 g
        rw [u75_55]
        simp only [k75_55, e75, k75_0, u75_11, k75_11, u75_46, k75_46, u75_47, k75_47, u75_99, k75_99, u75_123, k75_123, u75_130, k75_130, u75_136, k75_136, zO_nop, zO_goto, zO_iload_n0, zO_iload_n1, zO_iload_n2, zO_iload_n3, zO_iload, zO_lload_n0, zO_lload_n1, zO_lload_n2, zO_lload_n3, zO_lload, zO_aload_n0, zO_aload_n1, zO_aload_n2, zO_aload_n3, zO_aload, zO_istore_n0, zO_istore_n1, zO_istore_n2, zO_istore_n3, zO_istore, zO_astore_n0, zO_astore_n1, zO_astore_n2, zO_astore_n3, zO_astore, zO_lstore, zO_iinc, zO_iconst, zO_bipush, zO_sipush, zO_lconst0, zO_lconst1, zO_ldc, zO_ldc2_w, zO_iadd, zO_isub, zO_imul, zO_idiv, zO_irem, zO_ineg, zO_iand, zO_ior, zO_ixor, zO_ishl, zO_ishr, zO_iushr, zO_ladd, zO_lmul, zO_land, zO_lor, zO_lshl, zO_lcmp, zO_i2l, zO_l2i, zO_i2b, zO_dup0, zO_dup2, zO_dup200, zO_dup202, zO_dup220, zO_dup222, zO_ifCond_eq, zO_ifCond_ne, zO_ifCond_lt, zO_ifCond_ge, zO_ifCond_gt, zO_ifCond_le, zO_if_icmp_eq, zO_if_icmp_ne, zO_if_icmp_lt, zO_if_icmp_ge, zO_if_icmp_gt, zO_if_icmp_le, zO_getfield, zO_putfield, zO_iaload, zO_baload, zO_laload, zO_iastore, zO_bastore, zO_lastore, zO_arraylength, zO_invokevirtual, zO_lreturn, zO_areturn, zO_return_, zO_tableswitch, zO_lookupswitch, zO_is0, zO_is1, zO_is2, zO_is3, zO_is4, zO_is9, zO_is10, zO_is11, zO_is12, zO_ir1, zO_ir4, zB_c, zLd_0, zLd_s, zSt_c, zSt2_c, zU_c, zD_c, zY_c, zSw_n, zSw_c, zCall_c, zVirt_c, zP_0, zP_1, zP_2, zP_3, zP_4, zGet_n, zGet_z, zPut_n, zPut_z, zcw_n, zcw_0, zcw_1, zcw_2, List.length_cons, List.length_nil, List.take_succ_cons, List.take_zero, List.drop_succ_cons, List.drop_zero, List.reverse_cons, List.reverse_nil, List.nil_append, List.cons_append, List.append_nil, List.set_cons_zero, List.set_cons_succ, List.getD_cons_zero, List.getD_cons_succ, true_and, and_true, ne_eq, not_false_eq_true, not_true_eq_false, zif, Nat.reduceAdd, Nat.reduceLeDiff, Nat.reduceLT, Nat.reduceSub, Nat.reduceEqDiff, Nat.zero_le, Nat.lt_add_one, Nat.reduceMod, false_implies, true_implies, implies_true, forall_const, Int.reduceLE, Int.reduceLT, Int.reduceEq, Int.reduceNeg, ite10_0, ite10_1, zem, zem2, Classical.not_not, and_self, or_true, true_or, or_false, false_or, zT_0, zN_0, zGf_160_0, zGf_161_0, zGf_162_0, zPf_162_0, zGf_163_0, zGf_164_0, zGf_165_0, zGf_166_0, zGf_167_0, zPf_167_0, zGf_168_0, zPf_168_0, zGf_169_0, zGf_170_0, zGf_171_0, zPf_171_0, zGf_172_0, zGf_173_0, zGf_174_0, zGf_175_0, zGf_176_0, zT_17, zN_17, zGf_32_17, zPf_32_17, zGf_33_17, zAl_18, zAs_18, PL, PL2]
        refine ⟨fun e => absurd e (by omega), fun _ => ?_⟩
        refine zuse (one v w (xF μ) v0 v1 h17 g (fun a b c ha hb hc => (wrN_x hr hi hj hk hcnt ha hb hc).symm)) ?_
        rintro r u ⟨rfl, hx⟩
        have ev : (v + 1).toNat = v.toNat + 1 := by omega
        have evc : ((v.toNat : Nat) : Int) = v := by omega
        have bt : zw (v + 1) = v + 1 := zw_e (by omega) (by omega)
        have hall : ∀ t, noC (wrN μ i j k t) (μ 1 1) ↔ noC (xF μ) (μ 1 1) := fun t => noC_ext (fun a b c ha hb hc => wrN_x hr hi hj hk hcnt ha hb hc)
        rw [bt]
        by_cases hp : noC (xF μ) (μ 1 1)
        · refine ⟨fun _ => ih (zor s (zshl 1 v), u) ⟨⟨?_, zor_in _ _⟩, f, h17, g, fun _ => hp⟩, fun e => absurd (hx.mpr ((hall v).mpr hp)) e⟩
          rw [ev, wrB_y (by rw [hall]; exact hp), evc, ← s1]
        · refine ⟨fun e => absurd ((hall v).mp (hx.mp e)) hp, fun _ => ?_⟩
          rw [← hQ]
          exact ⟨(wrB_0 10 (fun t _ => by rw [hall]; exact hp)).symm, f⟩
      · rintro ⟨s, w⟩ ⟨⟨s1, s2⟩, f, h17, g, hv⟩
        simp only at s1 s2 f h17 g
        rw [u75_55]
        simp only [k75_55, e75, k75_0, u75_11, k75_11, u75_46, k75_46, u75_47, k75_47, u75_99, k75_99, u75_123, k75_123, u75_130, k75_130, u75_136, k75_136, zO_nop, zO_goto, zO_iload_n0, zO_iload_n1, zO_iload_n2, zO_iload_n3, zO_iload, zO_lload_n0, zO_lload_n1, zO_lload_n2, zO_lload_n3, zO_lload, zO_aload_n0, zO_aload_n1, zO_aload_n2, zO_aload_n3, zO_aload, zO_istore_n0, zO_istore_n1, zO_istore_n2, zO_istore_n3, zO_istore, zO_astore_n0, zO_astore_n1, zO_astore_n2, zO_astore_n3, zO_astore, zO_lstore, zO_iinc, zO_iconst, zO_bipush, zO_sipush, zO_lconst0, zO_lconst1, zO_ldc, zO_ldc2_w, zO_iadd, zO_isub, zO_imul, zO_idiv, zO_irem, zO_ineg, zO_iand, zO_ior, zO_ixor, zO_ishl, zO_ishr, zO_iushr, zO_ladd, zO_lmul, zO_land, zO_lor, zO_lshl, zO_lcmp, zO_i2l, zO_l2i, zO_i2b, zO_dup0, zO_dup2, zO_dup200, zO_dup202, zO_dup220, zO_dup222, zO_ifCond_eq, zO_ifCond_ne, zO_ifCond_lt, zO_ifCond_ge, zO_ifCond_gt, zO_ifCond_le, zO_if_icmp_eq, zO_if_icmp_ne, zO_if_icmp_lt, zO_if_icmp_ge, zO_if_icmp_gt, zO_if_icmp_le, zO_getfield, zO_putfield, zO_iaload, zO_baload, zO_laload, zO_iastore, zO_bastore, zO_lastore, zO_arraylength, zO_invokevirtual, zO_lreturn, zO_areturn, zO_return_, zO_tableswitch, zO_lookupswitch, zO_is0, zO_is1, zO_is2, zO_is3, zO_is4, zO_is9, zO_is10, zO_is11, zO_is12, zO_ir1, zO_ir4, zB_c, zLd_0, zLd_s, zSt_c, zSt2_c, zU_c, zD_c, zY_c, zSw_n, zSw_c, zCall_c, zVirt_c, zP_0, zP_1, zP_2, zP_3, zP_4, zGet_n, zGet_z, zPut_n, zPut_z, zcw_n, zcw_0, zcw_1, zcw_2, List.length_cons, List.length_nil, List.take_succ_cons, List.take_zero, List.drop_succ_cons, List.drop_zero, List.reverse_cons, List.reverse_nil, List.nil_append, List.cons_append, List.append_nil, List.set_cons_zero, List.set_cons_succ, List.getD_cons_zero, List.getD_cons_succ, true_and, and_true, ne_eq, not_false_eq_true, not_true_eq_false, zif, Nat.reduceAdd, Nat.reduceLeDiff, Nat.reduceLT, Nat.reduceSub, Nat.reduceEqDiff, Nat.zero_le, Nat.lt_add_one, Nat.reduceMod, false_implies, true_implies, implies_true, forall_const, Int.reduceLE, Int.reduceLT, Int.reduceEq, Int.reduceNeg, ite10_0, ite10_1, zem, zem2, Classical.not_not, and_self, or_true, true_or, or_false, false_or, zT_0, zN_0, zGf_160_0, zGf_161_0, zGf_162_0, zPf_162_0, zGf_163_0, zGf_164_0, zGf_165_0, zGf_166_0, zGf_167_0, zPf_167_0, zGf_168_0, zPf_168_0, zGf_169_0, zGf_170_0, zGf_171_0, zPf_171_0, zGf_172_0, zGf_173_0, zGf_174_0, zGf_175_0, zGf_176_0, zT_17, zN_17, zGf_32_17, zPf_32_17, zGf_33_17, zAl_18, zAs_18]
        rw [← hQ]
        exact ⟨s1, f⟩
    simp only [e75, k75_0, e75, k75_0, u75_11, k75_11, u75_46, k75_46, u75_47, k75_47, u75_99, k75_99, u75_123, k75_123, u75_130, k75_130, u75_136, k75_136, zO_nop, zO_goto, zO_iload_n0, zO_iload_n1, zO_iload_n2, zO_iload_n3, zO_iload, zO_lload_n0, zO_lload_n1, zO_lload_n2, zO_lload_n3, zO_lload, zO_aload_n0, zO_aload_n1, zO_aload_n2, zO_aload_n3, zO_aload, zO_istore_n0, zO_istore_n1, zO_istore_n2, zO_istore_n3, zO_istore, zO_astore_n0, zO_astore_n1, zO_astore_n2, zO_astore_n3, zO_astore, zO_lstore, zO_iinc, zO_iconst, zO_bipush, zO_sipush, zO_lconst0, zO_lconst1, zO_ldc, zO_ldc2_w, zO_iadd, zO_isub, zO_imul, zO_idiv, zO_irem, zO_ineg, zO_iand, zO_ior, zO_ixor, zO_ishl, zO_ishr, zO_iushr, zO_ladd, zO_lmul, zO_land, zO_lor, zO_lshl, zO_lcmp, zO_i2l, zO_l2i, zO_i2b, zO_dup0, zO_dup2, zO_dup200, zO_dup202, zO_dup220, zO_dup222, zO_ifCond_eq, zO_ifCond_ne, zO_ifCond_lt, zO_ifCond_ge, zO_ifCond_gt, zO_ifCond_le, zO_if_icmp_eq, zO_if_icmp_ne, zO_if_icmp_lt, zO_if_icmp_ge, zO_if_icmp_gt, zO_if_icmp_le, zO_getfield, zO_putfield, zO_iaload, zO_baload, zO_laload, zO_iastore, zO_bastore, zO_lastore, zO_arraylength, zO_invokevirtual, zO_lreturn, zO_areturn, zO_return_, zO_tableswitch, zO_lookupswitch, zO_is0, zO_is1, zO_is2, zO_is3, zO_is4, zO_is9, zO_is10, zO_is11, zO_is12, zO_ir1, zO_ir4, zB_c, zLd_0, zLd_s, zSt_c, zSt2_c, zU_c, zD_c, zY_c, zSw_n, zSw_c, zCall_c, zVirt_c, zP_0, zP_1, zP_2, zP_3, zP_4, zGet_n, zGet_z, zPut_n, zPut_z, zcw_n, zcw_0, zcw_1, zcw_2, List.length_cons, List.length_nil, List.take_succ_cons, List.take_zero, List.drop_succ_cons, List.drop_zero, List.reverse_cons, List.reverse_nil, List.nil_append, List.cons_append, List.append_nil, List.set_cons_zero, List.set_cons_succ, List.getD_cons_zero, List.getD_cons_succ, true_and, and_true, ne_eq, not_false_eq_true, not_true_eq_false, zif, Nat.reduceAdd, Nat.reduceLeDiff, Nat.reduceLT, Nat.reduceSub, Nat.reduceEqDiff, Nat.zero_le, Nat.lt_add_one, Nat.reduceMod, false_implies, true_implies, implies_true, forall_const, Int.reduceLE, Int.reduceLT, Int.reduceEq, Int.reduceNeg, ite10_0, ite10_1, zem, zem2, Classical.not_not, and_self, or_true, true_or, or_false, false_or, zT_0, zN_0, zGf_160_0, zGf_161_0, zGf_162_0, zPf_162_0, zGf_163_0, zGf_164_0, zGf_165_0, zGf_166_0, zGf_167_0, zPf_167_0, zGf_168_0, zPf_168_0, zGf_169_0, zGf_170_0, zGf_171_0, zPf_171_0, zGf_172_0, zGf_173_0, zGf_174_0, zGf_175_0, zGf_176_0, zT_1, zN_1, zGf_64_1, zPf_64_1, zGf_65_1, zPf_65_1, zGf_66_1, zPf_66_1, zGf_67_1, zGf_68_1, zGf_69_1, zGf_70_1, zGf_71_1, zGf_72_1, zGf_73_1, zPf_73_1, zT_17, zN_17, zGf_32_17, zPf_32_17, zGf_33_17, zT_1, zN_1, K_isTold, hi, hj, hk]
    refine zuse (K_becomeRules17 (d := d + 1) hn) ?_
    rintro r u ⟨rfl, f, g1, g2⟩
    have fu : zfr [(17, -1), (18, -1)] μ u := zfr_sm f (by decide)
    have e1 : u 1 = μ 1 := zfr_c fu (by decide)
    have hm := hl 0 (0, u) (by omega) (by omega) ⟨⟨rfl, (show zi32 0 from ⟨by decide, by decide⟩)⟩, fu, g1, fun a b c ha hb hc => g2 a b c ha.1 ha.2 hb.1 hb.2 hc.1 hc.2, fun e => absurd e (by omega)⟩
    simp only [K_areSorts, e1, ite10_0, Classical.not_not]
    (repeat' (first | assumption | (with_reducible refine And.intro ?_ ?_) | (intro hh; first | subst hh | skip)))
    all_goals (first | (exfalso; omega) | omega)
theorem L_were {d : Nat} {i j k : Int} {μ : zM} (hr : Rel μ) (hi : 1 ≤ i ∧ i < 5) (hj : 1 ≤ j ∧ j < 5) (hk : 0 ≤ k ∧ k < 5) : zC (d + 6) 172 [(2, 39), (0, i), (0, j), (0, k)] μ (fun r u => r = wrB μ i j k 10 ∧ zfr [] μ u) := by
  have hn := (Rel_n hr).1
  have hz := (Rel_n hr).2
  obtain ⟨⟨-, a0⟩, ⟨a1, a2⟩, ⟨-, a3⟩, a4, -⟩ := rH_1.mp hr.1
  generalize hQ : (fun (r : Int) (u : zM) => r = wrB μ i j k 10 ∧ zfr [] μ u) = Q
  obtain ⟨p, hp⟩ : ∃ p, p = 25 * i + 5 * j + k := ⟨_, rfl⟩
  obtain ⟨q, hq⟩ : ∃ q, q = 25 * j + 5 * i + k := ⟨_, rfl⟩
  have PL : ∀ {w : zM} {P : Int → zM → Prop}, (zC (d + 5) 111 [(0, i), (0, j), (0, k)] w P ↔ P (3 + p) w) := by
    intro w P
    rw [hp]
    exact L_atb (d := d + 4) (by omega) (by omega) (by omega)
  have PL2 : ∀ {w : zM} {P : Int → zM → Prop}, (zC (d + 5) 111 [(0, j), (0, i), (0, k)] w P ↔ P (3 + q) w) := by
    intro w P
    rw [hq]
    exact L_atb (d := d + 4) (by omega) (by omega) (by omega)
  have hl : ∀ v (s : Int × zM), 0 ≤ v → v ≤ 10 → ((s.1 = wrB μ i j k v.toNat ∧ zi32 s.1) ∧ zfr [(40, -1)] μ s.2 ∧ ∀ x, ¬ x = 3 + p → ¬ x = 3 + q → s.2 40 x = μ 40 x) → zR (d + 5) 172 Q 70 [(2, 39), (0, i), (0, j), (0, k), (0, μ 40 (3 + p)), (0, μ 40 (3 + q)), (0, s.1), (0, v)] [] s.2 := by
    refine zloop (n := 10) (Inv := fun v (s : Int × zM) => (s.1 = wrB μ i j k v.toNat ∧ zi32 s.1) ∧ zfr [(40, -1)] μ s.2 ∧ ∀ x, ¬ x = 3 + p → ¬ x = 3 + q → s.2 40 x = μ 40 x) (R := fun v s => zR (d + 5) 172 Q 70 [(2, 39), (0, i), (0, j), (0, k), (0, μ 40 (3 + p)), (0, μ 40 (3 + q)), (0, s.1), (0, v)] [] s.2) ?_ ?_
    · rintro v ⟨s, w⟩ v0 v1 ⟨⟨s1, s2⟩, f, g⟩ ih
      simp only at s1 s2 f g
      have e18 : ∀ x, zu (zu w 40 (3 + p) v) 40 (3 + q) v 40 x = if x = 3 + p ∨ x = 3 + q then v else w 40 x := fun x => by simp only [zu_d, true_and]; grind
      have fw : zfr [(40, -1)] w (zu (zu w 40 (3 + p) v) 40 (3 + q) v) := zfr_w (zfr_w zfr_rf (by decide)) (by decide)
      have hfc : zC (d + 5) 119 [(2, 39)] (zu (zu w 40 (3 + p) v) 40 (3 + q) v) (fun r u => u = zu (zu w 40 (3 + p) v) 40 (3 + q) v ∧ (r = -5 ↔ noC (wrN μ i j k v) (μ 1 1))) := by
        generalize zu (zu w 40 (3 + p) v) 40 (3 + q) v = w2 at e18 fw
        have kk : ∀ x, (x < 3 ∨ 128 ≤ x) → w2 40 x = μ 40 x := fun x hx => by
          rw [e18, if_neg (by omega)]
          exact g x (by omega) (by omega)
        have hN : ∀ a b c, zrg (μ 1 1) a → zrg (μ 1 1) b → zrg (μ 1 1) c → nF w2 a b c = wrN μ i j k v a b c := by
          intro a b c ha hb hc
          unfold zrg at ha hb hc
          have eT : w2 40 (3 + (25 * a + 5 * b + c)) = wrT μ i j k v (25 * a + 5 * b + c) := by
            rw [e18]
            unfold wrT
            rw [← hp, ← hq]
            by_cases e : 25 * a + 5 * b + c = p ∨ 25 * a + 5 * b + c = q
            · rw [if_pos e, if_pos (by omega)]
            · rw [if_neg e, if_neg (by omega), g _ (by omega) (by omega)]
              exact (a4 (25 * a + 5 * b + c) (by omega) (by omega)).2
          unfold nF wrN oF
          simp only [eT]
          rw [kk 0 (by omega), kk 1 (by omega), kk 2 (by omega), a0, a2, a3]
        refine zuse (L_firstClash (d := d + 1) (n := μ 1 1) hn (by rw [kk 1 (by omega), hz]) (fun a b c ha hb hc => by rw [hN a b c ha hb hc]; exact wrN_b hr (by omega) a b c ha hb hc)) ?_
        rintro r u ⟨rfl, hc⟩
        exact ⟨rfl, isC_no (isC_ext hN hc)⟩
      rw [u172_70]
      simp only [k172_70, e172, k172_0, u172_36, k172_36, u172_38, k172_38, u172_118, k172_118, u172_119, k172_119, u172_134, k172_134, zO_nop, zO_goto, zO_iload_n0, zO_iload_n1, zO_iload_n2, zO_iload_n3, zO_iload, zO_lload_n0, zO_lload_n1, zO_lload_n2, zO_lload_n3, zO_lload, zO_aload_n0, zO_aload_n1, zO_aload_n2, zO_aload_n3, zO_aload, zO_istore_n0, zO_istore_n1, zO_istore_n2, zO_istore_n3, zO_istore, zO_astore_n0, zO_astore_n1, zO_astore_n2, zO_astore_n3, zO_astore, zO_lstore, zO_iinc, zO_iconst, zO_bipush, zO_sipush, zO_lconst0, zO_lconst1, zO_ldc, zO_ldc2_w, zO_iadd, zO_isub, zO_imul, zO_idiv, zO_irem, zO_ineg, zO_iand, zO_ior, zO_ixor, zO_ishl, zO_ishr, zO_iushr, zO_ladd, zO_lmul, zO_land, zO_lor, zO_lshl, zO_lcmp, zO_i2l, zO_l2i, zO_i2b, zO_dup0, zO_dup2, zO_dup200, zO_dup202, zO_dup220, zO_dup222, zO_ifCond_eq, zO_ifCond_ne, zO_ifCond_lt, zO_ifCond_ge, zO_ifCond_gt, zO_ifCond_le, zO_if_icmp_eq, zO_if_icmp_ne, zO_if_icmp_lt, zO_if_icmp_ge, zO_if_icmp_gt, zO_if_icmp_le, zO_getfield, zO_putfield, zO_iaload, zO_baload, zO_laload, zO_iastore, zO_bastore, zO_lastore, zO_arraylength, zO_invokevirtual, zO_lreturn, zO_areturn, zO_return_, zO_tableswitch, zO_lookupswitch, zO_is0, zO_is1, zO_is2, zO_is3, zO_is4, zO_is9, zO_is10, zO_is11, zO_is12, zO_ir1, zO_ir4, zB_c, zLd_0, zLd_s, zSt_c, zSt2_c, zU_c, zD_c, zY_c, zSw_n, zSw_c, zCall_c, zVirt_c, zP_0, zP_1, zP_2, zP_3, zP_4, zGet_n, zGet_z, zPut_n, zPut_z, zcw_n, zcw_0, zcw_1, zcw_2, List.length_cons, List.length_nil, List.take_succ_cons, List.take_zero, List.drop_succ_cons, List.drop_zero, List.reverse_cons, List.reverse_nil, List.nil_append, List.cons_append, List.append_nil, List.set_cons_zero, List.set_cons_succ, List.getD_cons_zero, List.getD_cons_succ, true_and, and_true, ne_eq, not_false_eq_true, not_true_eq_false, zif, Nat.reduceAdd, Nat.reduceLeDiff, Nat.reduceLT, Nat.reduceSub, Nat.reduceEqDiff, Nat.zero_le, Nat.lt_add_one, Nat.reduceMod, false_implies, true_implies, implies_true, forall_const, Int.reduceLE, Int.reduceLT, Int.reduceEq, Int.reduceNeg, ite10_0, ite10_1, zem, zem2, Classical.not_not, and_self, or_true, true_or, or_false, false_or, zT_39, zN_39, zGf_192_39, zGf_193_39, zGf_194_39, zPf_194_39, zGf_195_39, zGf_196_39, zGf_197_39, zGf_198_39, zPf_198_39, zGf_199_39, zPf_199_39, zGf_200_39, zPf_200_39, zGf_201_39, zGf_202_39, zPf_202_39, zGf_203_39, zGf_204_39, zPf_204_39, zGf_205_39, zGf_206_39, zGf_207_39, zGf_208_39, zGf_209_39, zGf_210_39, zGf_211_39, zGf_212_39, zGf_213_39, zGf_214_39, zPf_214_39, zGf_215_39, zGf_216_39, zAl_40, zAs_40, PL, PL2]
      refine ⟨fun _ => ⟨by omega, by omega, by omega, by omega, ?_⟩, fun e => absurd v1 e⟩
      refine zuse hfc ?_
      rintro r u ⟨rfl, hx⟩
      have ev : (v + 1).toNat = v.toNat + 1 := by omega
      have evc : ((v.toNat : Nat) : Int) = v := by omega
      have bt : zw (v + 1) = v + 1 := zw_e (by omega) (by omega)
      have keep : ∀ x, ¬ x = 3 + p → ¬ x = 3 + q → zu (zu w 40 (3 + p) v) 40 (3 + q) v 40 x = μ 40 x := fun x h1 h2 => by
        rw [e18, if_neg (by omega)]; exact g x h1 h2
      have fu := zfr_tr f fw
      simp only [L_bit, if_true, if_false, Int.reduceEq]
      rw [bt]
      by_cases hpc : noC (wrN μ i j k v) (μ 1 1)
      · refine ⟨fun _ => ih (zor s (zshl 1 v), zu (zu w 40 (3 + p) v) 40 (3 + q) v) ⟨⟨?_, zor_in _ _⟩, fu, keep⟩, fun e => absurd (hx.mpr hpc) e⟩
        rw [ev, wrB_y (by rw [evc]; exact hpc), evc, ← s1]
      · refine ⟨fun e => absurd (hx.mp e) hpc, fun _ => ?_⟩
        rw [zshl_0 ⟨v0, v1⟩, zor_0 s2]
        refine ih (s, zu (zu w 40 (3 + p) v) 40 (3 + q) v) ⟨⟨?_, s2⟩, fu, keep⟩
        rw [ev, wrB_n (by rw [evc]; exact hpc), ← s1]
    · rintro ⟨s, w⟩ ⟨⟨s1, s2⟩, f, g⟩
      simp only at s1 s2 f g
      rw [u172_70]
      simp only [k172_70, e172, k172_0, u172_36, k172_36, u172_38, k172_38, u172_118, k172_118, u172_119, k172_119, u172_134, k172_134, zO_nop, zO_goto, zO_iload_n0, zO_iload_n1, zO_iload_n2, zO_iload_n3, zO_iload, zO_lload_n0, zO_lload_n1, zO_lload_n2, zO_lload_n3, zO_lload, zO_aload_n0, zO_aload_n1, zO_aload_n2, zO_aload_n3, zO_aload, zO_istore_n0, zO_istore_n1, zO_istore_n2, zO_istore_n3, zO_istore, zO_astore_n0, zO_astore_n1, zO_astore_n2, zO_astore_n3, zO_astore, zO_lstore, zO_iinc, zO_iconst, zO_bipush, zO_sipush, zO_lconst0, zO_lconst1, zO_ldc, zO_ldc2_w, zO_iadd, zO_isub, zO_imul, zO_idiv, zO_irem, zO_ineg, zO_iand, zO_ior, zO_ixor, zO_ishl, zO_ishr, zO_iushr, zO_ladd, zO_lmul, zO_land, zO_lor, zO_lshl, zO_lcmp, zO_i2l, zO_l2i, zO_i2b, zO_dup0, zO_dup2, zO_dup200, zO_dup202, zO_dup220, zO_dup222, zO_ifCond_eq, zO_ifCond_ne, zO_ifCond_lt, zO_ifCond_ge, zO_ifCond_gt, zO_ifCond_le, zO_if_icmp_eq, zO_if_icmp_ne, zO_if_icmp_lt, zO_if_icmp_ge, zO_if_icmp_gt, zO_if_icmp_le, zO_getfield, zO_putfield, zO_iaload, zO_baload, zO_laload, zO_iastore, zO_bastore, zO_lastore, zO_arraylength, zO_invokevirtual, zO_lreturn, zO_areturn, zO_return_, zO_tableswitch, zO_lookupswitch, zO_is0, zO_is1, zO_is2, zO_is3, zO_is4, zO_is9, zO_is10, zO_is11, zO_is12, zO_ir1, zO_ir4, zB_c, zLd_0, zLd_s, zSt_c, zSt2_c, zU_c, zD_c, zY_c, zSw_n, zSw_c, zCall_c, zVirt_c, zP_0, zP_1, zP_2, zP_3, zP_4, zGet_n, zGet_z, zPut_n, zPut_z, zcw_n, zcw_0, zcw_1, zcw_2, List.length_cons, List.length_nil, List.take_succ_cons, List.take_zero, List.drop_succ_cons, List.drop_zero, List.reverse_cons, List.reverse_nil, List.nil_append, List.cons_append, List.append_nil, List.set_cons_zero, List.set_cons_succ, List.getD_cons_zero, List.getD_cons_succ, true_and, and_true, ne_eq, not_false_eq_true, not_true_eq_false, zif, Nat.reduceAdd, Nat.reduceLeDiff, Nat.reduceLT, Nat.reduceSub, Nat.reduceEqDiff, Nat.zero_le, Nat.lt_add_one, Nat.reduceMod, false_implies, true_implies, implies_true, forall_const, Int.reduceLE, Int.reduceLT, Int.reduceEq, Int.reduceNeg, ite10_0, ite10_1, zem, zem2, Classical.not_not, and_self, or_true, true_or, or_false, false_or, zT_39, zN_39, zGf_192_39, zGf_193_39, zGf_194_39, zPf_194_39, zGf_195_39, zGf_196_39, zGf_197_39, zGf_198_39, zPf_198_39, zGf_199_39, zPf_199_39, zGf_200_39, zPf_200_39, zGf_201_39, zGf_202_39, zPf_202_39, zGf_203_39, zGf_204_39, zPf_204_39, zGf_205_39, zGf_206_39, zGf_207_39, zGf_208_39, zGf_209_39, zGf_210_39, zGf_211_39, zGf_212_39, zGf_213_39, zGf_214_39, zPf_214_39, zGf_215_39, zGf_216_39, zAl_40, zAs_40, PL, PL2]
      refine ⟨by omega, by omega, by omega, by omega, ?_⟩
      rw [← hQ]
      refine ⟨s1, zfr_back (c := 40) (zfr_w (zfr_w f (by decide)) (by decide)) (fun x => ?_)⟩
      have := g x
      simp only [zu_d, true_and]
      grind
  have hm := hl 0 (0, μ) (by omega) (by omega) ⟨⟨rfl, (show zi32 0 from ⟨by decide, by decide⟩)⟩, zfr_rf, fun x _ _ => rfl⟩
  simp only [e172, k172_0, e172, k172_0, u172_36, k172_36, u172_38, k172_38, u172_118, k172_118, u172_119, k172_119, u172_134, k172_134, zO_nop, zO_goto, zO_iload_n0, zO_iload_n1, zO_iload_n2, zO_iload_n3, zO_iload, zO_lload_n0, zO_lload_n1, zO_lload_n2, zO_lload_n3, zO_lload, zO_aload_n0, zO_aload_n1, zO_aload_n2, zO_aload_n3, zO_aload, zO_istore_n0, zO_istore_n1, zO_istore_n2, zO_istore_n3, zO_istore, zO_astore_n0, zO_astore_n1, zO_astore_n2, zO_astore_n3, zO_astore, zO_lstore, zO_iinc, zO_iconst, zO_bipush, zO_sipush, zO_lconst0, zO_lconst1, zO_ldc, zO_ldc2_w, zO_iadd, zO_isub, zO_imul, zO_idiv, zO_irem, zO_ineg, zO_iand, zO_ior, zO_ixor, zO_ishl, zO_ishr, zO_iushr, zO_ladd, zO_lmul, zO_land, zO_lor, zO_lshl, zO_lcmp, zO_i2l, zO_l2i, zO_i2b, zO_dup0, zO_dup2, zO_dup200, zO_dup202, zO_dup220, zO_dup222, zO_ifCond_eq, zO_ifCond_ne, zO_ifCond_lt, zO_ifCond_ge, zO_ifCond_gt, zO_ifCond_le, zO_if_icmp_eq, zO_if_icmp_ne, zO_if_icmp_lt, zO_if_icmp_ge, zO_if_icmp_gt, zO_if_icmp_le, zO_getfield, zO_putfield, zO_iaload, zO_baload, zO_laload, zO_iastore, zO_bastore, zO_lastore, zO_arraylength, zO_invokevirtual, zO_lreturn, zO_areturn, zO_return_, zO_tableswitch, zO_lookupswitch, zO_is0, zO_is1, zO_is2, zO_is3, zO_is4, zO_is9, zO_is10, zO_is11, zO_is12, zO_ir1, zO_ir4, zB_c, zLd_0, zLd_s, zSt_c, zSt2_c, zU_c, zD_c, zY_c, zSw_n, zSw_c, zCall_c, zVirt_c, zP_0, zP_1, zP_2, zP_3, zP_4, zGet_n, zGet_z, zPut_n, zPut_z, zcw_n, zcw_0, zcw_1, zcw_2, List.length_cons, List.length_nil, List.take_succ_cons, List.take_zero, List.drop_succ_cons, List.drop_zero, List.reverse_cons, List.reverse_nil, List.nil_append, List.cons_append, List.append_nil, List.set_cons_zero, List.set_cons_succ, List.getD_cons_zero, List.getD_cons_succ, true_and, and_true, ne_eq, not_false_eq_true, not_true_eq_false, zif, Nat.reduceAdd, Nat.reduceLeDiff, Nat.reduceLT, Nat.reduceSub, Nat.reduceEqDiff, Nat.zero_le, Nat.lt_add_one, Nat.reduceMod, false_implies, true_implies, implies_true, forall_const, Int.reduceLE, Int.reduceLT, Int.reduceEq, Int.reduceNeg, ite10_0, ite10_1, zem, zem2, Classical.not_not, and_self, or_true, true_or, or_false, false_or, zT_39, zN_39, zGf_192_39, zGf_193_39, zGf_194_39, zPf_194_39, zGf_195_39, zGf_196_39, zGf_197_39, zGf_198_39, zPf_198_39, zGf_199_39, zPf_199_39, zGf_200_39, zPf_200_39, zGf_201_39, zGf_202_39, zPf_202_39, zGf_203_39, zGf_204_39, zPf_204_39, zGf_205_39, zGf_206_39, zGf_207_39, zGf_208_39, zGf_209_39, zGf_210_39, zGf_211_39, zGf_212_39, zGf_213_39, zGf_214_39, zPf_214_39, zGf_215_39, zGf_216_39, zAl_40, zAs_40, PL, PL2, L_in]
  (repeat' (first | assumption | (with_reducible refine And.intro ?_ ?_) | (intro hh; first | subst hh | skip)))
  all_goals (first | (exfalso; omega) | omega)
theorem op_were (a1 a2 a3 : Int) : zOp 75 172 [(0, a1), (0, a2), (0, a3)] := by
  refine zOp_q (fun μ r => rgd ((1 ≤ a1 ∧ a1 < 5) ∧ (1 ≤ a2 ∧ a2 < 5) ∧ (0 ≤ a3 ∧ a3 < 5)) (fun r => r = wrB μ a1 a2 a3 10) (-1) r) (fun μ r r' => rgd_one eq_one) ?_ ?_ ?_
  · intro μ hr
    by_cases hv : (1 ≤ a1 ∧ a1 < 5) ∧ (1 ≤ a2 ∧ a2 < 5) ∧ (0 ≤ a3 ∧ a3 < 5)
    · refine zuse (K_were (d := 34) hr hv.1 hv.2.1 hv.2.2) ?_
      rintro r u ⟨h1, h2⟩
      exact ⟨rgd_y hv h1, Rel_fr hr (zfr_up h2 (by decide)), zfr_up h2 (by decide)⟩
    · have hno : rgd ((1 ≤ a1 ∧ a1 < 5) ∧ (1 ≤ a2 ∧ a2 < 5) ∧ (0 ≤ a3 ∧ a3 < 5)) (fun r => r = wrB μ a1 a2 a3 10) (-1) (-1) := rgd_n hv
      have hf : zfr zCa μ μ := zfr_rf
      simp only [e75, k75_0, e75, k75_0, u75_11, k75_11, u75_46, k75_46, u75_47, k75_47, u75_99, k75_99, u75_123, k75_123, u75_130, k75_130, u75_136, k75_136, zO_nop, zO_goto, zO_iload_n0, zO_iload_n1, zO_iload_n2, zO_iload_n3, zO_iload, zO_lload_n0, zO_lload_n1, zO_lload_n2, zO_lload_n3, zO_lload, zO_aload_n0, zO_aload_n1, zO_aload_n2, zO_aload_n3, zO_aload, zO_istore_n0, zO_istore_n1, zO_istore_n2, zO_istore_n3, zO_istore, zO_astore_n0, zO_astore_n1, zO_astore_n2, zO_astore_n3, zO_astore, zO_lstore, zO_iinc, zO_iconst, zO_bipush, zO_sipush, zO_lconst0, zO_lconst1, zO_ldc, zO_ldc2_w, zO_iadd, zO_isub, zO_imul, zO_idiv, zO_irem, zO_ineg, zO_iand, zO_ior, zO_ixor, zO_ishl, zO_ishr, zO_iushr, zO_ladd, zO_lmul, zO_land, zO_lor, zO_lshl, zO_lcmp, zO_i2l, zO_l2i, zO_i2b, zO_dup0, zO_dup2, zO_dup200, zO_dup202, zO_dup220, zO_dup222, zO_ifCond_eq, zO_ifCond_ne, zO_ifCond_lt, zO_ifCond_ge, zO_ifCond_gt, zO_ifCond_le, zO_if_icmp_eq, zO_if_icmp_ne, zO_if_icmp_lt, zO_if_icmp_ge, zO_if_icmp_gt, zO_if_icmp_le, zO_getfield, zO_putfield, zO_iaload, zO_baload, zO_laload, zO_iastore, zO_bastore, zO_lastore, zO_arraylength, zO_invokevirtual, zO_lreturn, zO_areturn, zO_return_, zO_tableswitch, zO_lookupswitch, zO_is0, zO_is1, zO_is2, zO_is3, zO_is4, zO_is9, zO_is10, zO_is11, zO_is12, zO_ir1, zO_ir4, zB_c, zLd_0, zLd_s, zSt_c, zSt2_c, zU_c, zD_c, zY_c, zSw_n, zSw_c, zCall_c, zVirt_c, zP_0, zP_1, zP_2, zP_3, zP_4, zGet_n, zGet_z, zPut_n, zPut_z, zcw_n, zcw_0, zcw_1, zcw_2, List.length_cons, List.length_nil, List.take_succ_cons, List.take_zero, List.drop_succ_cons, List.drop_zero, List.reverse_cons, List.reverse_nil, List.nil_append, List.cons_append, List.append_nil, List.set_cons_zero, List.set_cons_succ, List.getD_cons_zero, List.getD_cons_succ, true_and, and_true, ne_eq, not_false_eq_true, not_true_eq_false, zif, Nat.reduceAdd, Nat.reduceLeDiff, Nat.reduceLT, Nat.reduceSub, Nat.reduceEqDiff, Nat.zero_le, Nat.lt_add_one, Nat.reduceMod, false_implies, true_implies, implies_true, forall_const, Int.reduceLE, Int.reduceLT, Int.reduceEq, Int.reduceNeg, ite10_0, ite10_1, zem, zem2, Classical.not_not, and_self, or_true, true_or, or_false, false_or, zT_0, zN_0, zGf_160_0, zGf_161_0, zGf_162_0, zPf_162_0, zGf_163_0, zGf_164_0, zGf_165_0, zGf_166_0, zGf_167_0, zPf_167_0, zGf_168_0, zPf_168_0, zGf_169_0, zGf_170_0, zGf_171_0, zPf_171_0, zGf_172_0, zGf_173_0, zGf_174_0, zGf_175_0, zGf_176_0, zT_1, zN_1, zGf_64_1, zPf_64_1, zGf_65_1, zPf_65_1, zGf_66_1, zPf_66_1, zGf_67_1, zGf_68_1, zGf_69_1, zGf_70_1, zGf_71_1, zGf_72_1, zGf_73_1, zPf_73_1, zT_17, zN_17, zGf_32_17, zPf_32_17, zGf_33_17, K_isTold]
      exact ⟨fun _ => ⟨hno, hr, hf⟩, fun e => absurd e hv⟩
  · intro μ hr
    by_cases hv : (1 ≤ a1 ∧ a1 < 5) ∧ (1 ≤ a2 ∧ a2 < 5) ∧ (0 ≤ a3 ∧ a3 < 5)
    · refine zuse (L_were (d := 34) hr hv.1 hv.2.1 hv.2.2) ?_
      rintro r u ⟨h1, h2⟩
      exact ⟨rgd_y hv h1, zfr_up h2 (by decide)⟩
    · have hno : rgd ((1 ≤ a1 ∧ a1 < 5) ∧ (1 ≤ a2 ∧ a2 < 5) ∧ (0 ≤ a3 ∧ a3 < 5)) (fun r => r = wrB μ a1 a2 a3 10) (-1) (-1) := rgd_n hv
      have hf : zfr zTm μ μ := zfr_rf
      simp only [e172, k172_0, e172, k172_0, u172_36, k172_36, u172_38, k172_38, u172_118, k172_118, u172_119, k172_119, u172_134, k172_134, zO_nop, zO_goto, zO_iload_n0, zO_iload_n1, zO_iload_n2, zO_iload_n3, zO_iload, zO_lload_n0, zO_lload_n1, zO_lload_n2, zO_lload_n3, zO_lload, zO_aload_n0, zO_aload_n1, zO_aload_n2, zO_aload_n3, zO_aload, zO_istore_n0, zO_istore_n1, zO_istore_n2, zO_istore_n3, zO_istore, zO_astore_n0, zO_astore_n1, zO_astore_n2, zO_astore_n3, zO_astore, zO_lstore, zO_iinc, zO_iconst, zO_bipush, zO_sipush, zO_lconst0, zO_lconst1, zO_ldc, zO_ldc2_w, zO_iadd, zO_isub, zO_imul, zO_idiv, zO_irem, zO_ineg, zO_iand, zO_ior, zO_ixor, zO_ishl, zO_ishr, zO_iushr, zO_ladd, zO_lmul, zO_land, zO_lor, zO_lshl, zO_lcmp, zO_i2l, zO_l2i, zO_i2b, zO_dup0, zO_dup2, zO_dup200, zO_dup202, zO_dup220, zO_dup222, zO_ifCond_eq, zO_ifCond_ne, zO_ifCond_lt, zO_ifCond_ge, zO_ifCond_gt, zO_ifCond_le, zO_if_icmp_eq, zO_if_icmp_ne, zO_if_icmp_lt, zO_if_icmp_ge, zO_if_icmp_gt, zO_if_icmp_le, zO_getfield, zO_putfield, zO_iaload, zO_baload, zO_laload, zO_iastore, zO_bastore, zO_lastore, zO_arraylength, zO_invokevirtual, zO_lreturn, zO_areturn, zO_return_, zO_tableswitch, zO_lookupswitch, zO_is0, zO_is1, zO_is2, zO_is3, zO_is4, zO_is9, zO_is10, zO_is11, zO_is12, zO_ir1, zO_ir4, zB_c, zLd_0, zLd_s, zSt_c, zSt2_c, zU_c, zD_c, zY_c, zSw_n, zSw_c, zCall_c, zVirt_c, zP_0, zP_1, zP_2, zP_3, zP_4, zGet_n, zGet_z, zPut_n, zPut_z, zcw_n, zcw_0, zcw_1, zcw_2, List.length_cons, List.length_nil, List.take_succ_cons, List.take_zero, List.drop_succ_cons, List.drop_zero, List.reverse_cons, List.reverse_nil, List.nil_append, List.cons_append, List.append_nil, List.set_cons_zero, List.set_cons_succ, List.getD_cons_zero, List.getD_cons_succ, true_and, and_true, ne_eq, not_false_eq_true, not_true_eq_false, zif, Nat.reduceAdd, Nat.reduceLeDiff, Nat.reduceLT, Nat.reduceSub, Nat.reduceEqDiff, Nat.zero_le, Nat.lt_add_one, Nat.reduceMod, false_implies, true_implies, implies_true, forall_const, Int.reduceLE, Int.reduceLT, Int.reduceEq, Int.reduceNeg, ite10_0, ite10_1, zem, zem2, Classical.not_not, and_self, or_true, true_or, or_false, false_or, zT_39, zN_39, zGf_192_39, zGf_193_39, zGf_194_39, zPf_194_39, zGf_195_39, zGf_196_39, zGf_197_39, zGf_198_39, zPf_198_39, zGf_199_39, zPf_199_39, zGf_200_39, zPf_200_39, zGf_201_39, zGf_202_39, zPf_202_39, zGf_203_39, zGf_204_39, zPf_204_39, zGf_205_39, zGf_206_39, zGf_207_39, zGf_208_39, zGf_209_39, zGf_210_39, zGf_211_39, zGf_212_39, zGf_213_39, zGf_214_39, zPf_214_39, zGf_215_39, zGf_216_39, zAl_40, zAs_40, L_in]
      (repeat' (first | assumption | (with_reducible refine And.intro ?_ ?_) | (intro hh; first | subst hh | skip)))
      all_goals (first | (exfalso; omega))
  · intro μ u r f h
    have e1 : u 1 = μ 1 := zfr_c f (by decide)
    have e2 : u 2 = μ 2 := zfr_c f (by decide)
    have eT : ∀ v, wrN u a1 a2 a3 v = wrN μ a1 a2 a3 v := fun v => by
      funext a b c
      unfold wrN
      rw [e1]
      congr 1
      funext x
      unfold wrT
      rw [e2]
    have eB : ∀ m, wrB u a1 a2 a3 m = wrB μ a1 a2 a3 m := fun m => by
      induction m with
      | zero => rfl
      | succ m ih =>
        by_cases hp : noC (wrN μ a1 a2 a3 m) (μ 1 1)
        · rw [wrB_y hp, wrB_y (by rw [eT, e1]; exact hp), ih]
        · rw [wrB_n hp, wrB_n (by rw [eT, e1]; exact hp), ih]
    rw [eB] at h
    exact h
