/-! frames: where a run may write; what keeps the relation -/
def zfq (S : List (Int × Int)) (a i : Int) : Bool := S.any (fun x => x.1 == a && (x.2 == -1 || x.2 == i))
def zfr (S : List (Int × Int)) (μ u : zM) : Prop := ∀ a i, zfq S a i = false → u a i = μ a i
theorem zfr_rf {S : List (Int × Int)} {μ : zM} : zfr S μ μ := fun _ _ _ => rfl
theorem zfr_tr {S : List (Int × Int)} {μ u w : zM} (h1 : zfr S μ u) (h2 : zfr S u w) : zfr S μ w := fun a i h => (h2 a i h).trans (h1 a i h)
theorem zfq_up {S T : List (Int × Int)} (hs : ∀ x ∈ S, x ∈ T) {a i : Int} (h : zfq T a i = false) : zfq S a i = false := by
  unfold zfq at h ⊢
  rw [List.any_eq_false] at h ⊢
  exact fun x hx => h x (hs x hx)
theorem zfr_up {S T : List (Int × Int)} {μ u : zM} (h : zfr S μ u) (hs : ∀ x ∈ S, x ∈ T) : zfr T μ u := fun a i ha => h a i (zfq_up hs ha)
theorem zfr_u {S : List (Int × Int)} {μ u : zM} {a i v : Int} (h : zfr S μ u) (ha : zfq S a i = true) : zfr S μ (zu u a i v) := fun b j hb => by
  rw [← h b j hb]
  refine zu_ne (fun z => ?_)
  rw [z.1, z.2, ha] at hb
  cases hb
theorem zfq_c {S : List (Int × Int)} {a : Int} (ha : a ∉ S.map Prod.fst) (i : Int) : zfq S a i = false := by
  unfold zfq
  rw [List.any_eq_false]
  intro x hx h
  simp only [Bool.and_eq_true, beq_iff_eq] at h
  exact ha (List.mem_map.mpr ⟨x, hx, h.1⟩)
theorem zfr_c {S : List (Int × Int)} {μ u : zM} (h : zfr S μ u) {a : Int} (ha : a ∉ S.map Prod.fst) : u a = μ a := funext fun i => h a i (zfq_c ha i)
theorem zfq_w {S : List (Int × Int)} {a : Int} (ha : (a, -1) ∈ S) (i : Int) : zfq S a i = true := by
  unfold zfq
  rw [List.any_eq_true]
  exact ⟨_, ha, by simp⟩
theorem zfr_w {S : List (Int × Int)} {μ u : zM} {a i v : Int} (h : zfr S μ u) (ha : (a, -1) ∈ S) : zfr S μ (zu u a i v) := zfr_u h (zfq_w ha i)
theorem zfr_cp {S : List (Int × Int)} {μ u : zM} {a b sp dp n : Int} (h : zfr S μ u) (ha : (b, -1) ∈ S) : zfr S μ (zcp u a b sp dp n) := fun c j hc => by
  rw [← h c j hc]
  unfold zcp
  rw [if_neg (fun z : c = b ∧ dp ≤ j ∧ j < dp + n => by rw [z.1, zfq_w ha] at hc; cases hc)]
theorem zfr_sm {L : List Int} {S : List (Int × Int)} {μ u : zM} (h : zsm L μ u) (hs : ∀ a ∈ L, (a, -1) ∈ S) : zfr S μ u := fun a i ha => by
  rw [h a (fun z => by rw [zfq_w (hs a z)] at ha; cases ha)]
theorem xF_fr {μ u : zM} {S : List (Int × Int)} (f : zfr S μ u) (h1 : 1 ∉ S.map Prod.fst) (h2 : 2 ∉ S.map Prod.fst) : xF u = xF μ := by
  funext i j k
  unfold xF
  rw [zfr_c f h1, zfr_c f h2]
/-- what no call looks at before it has written it -/
def zTm : List (Int × Int) := [(17, -1), (18, -1), (21, -1), (22, -1), (23, -1), (24, -1), (25, -1), (26, -1), (27, -1), (28, -1), (31, -1), (32, -1), (36, -1), (37, -1), (38, -1), (29, 3), (29, 4), (42, -1), (43, -1), (45, -1), (46, -1), (47, -1), (48, -1), (49, -1), (50, -1), (51, -1), (52, -1), (53, -1), (54, -1), (39, 7), (39, 8), (39, 10), (39, 12)]
/-- what a question of the class may write -/
def zCa : List (Int × Int) := (0, 7) :: (0, 8) :: (15, -1) :: (16, -1) :: (19, -1) :: (20, -1) :: zTm
theorem Rel_fr {μ u : zM} (h : Rel μ) (f : zfr zTm μ u) : Rel u := by
  have c1 : u 1 = μ 1 := zfr_c f (by decide)
  have c2 : u 2 = μ 2 := zfr_c f (by decide)
  have c3 : u 3 = μ 3 := zfr_c f (by decide)
  have c4 : u 4 = μ 4 := zfr_c f (by decide)
  have c5 : u 5 = μ 5 := zfr_c f (by decide)
  have c6 : u 6 = μ 6 := zfr_c f (by decide)
  have c7 : u 7 = μ 7 := zfr_c f (by decide)
  have c8 : u 8 = μ 8 := zfr_c f (by decide)
  have c9 : u 9 = μ 9 := zfr_c f (by decide)
  have c10 : u 10 = μ 10 := zfr_c f (by decide)
  have c11 : u 11 = μ 11 := zfr_c f (by decide)
  have c12 : u 12 = μ 12 := zfr_c f (by decide)
  have c13 : u 13 = μ 13 := zfr_c f (by decide)
  have c14 : u 14 = μ 14 := zfr_c f (by decide)
  have c15 : u 15 = μ 15 := zfr_c f (by decide)
  have c16 : u 16 = μ 16 := zfr_c f (by decide)
  have c19 : u 19 = μ 19 := zfr_c f (by decide)
  have c20 : u 20 = μ 20 := zfr_c f (by decide)
  have c30 : u 30 = μ 30 := zfr_c f (by decide)
  have c33 : u 33 = μ 33 := zfr_c f (by decide)
  have c34 : u 34 = μ 34 := zfr_c f (by decide)
  have c35 : u 35 = μ 35 := zfr_c f (by decide)
  have c40 : u 40 = μ 40 := zfr_c f (by decide)
  have c41 : u 41 = μ 41 := zfr_c f (by decide)
  have c44 : u 44 = μ 44 := zfr_c f (by decide)
  have c55 : u 55 = μ 55 := zfr_c f (by decide)
  have c56 : u 56 = μ 56 := zfr_c f (by decide)
  have c57 : u 57 = μ 57 := zfr_c f (by decide)
  have c0 : u 0 = μ 0 := zfr_c f (by decide)
  have i1 : u 29 1 = μ 29 1 := f _ _ (by decide)
  have i2 : u 39 2 = μ 39 2 := f _ _ (by decide)
  have i3 : u 39 6 = μ 39 6 := f _ _ (by decide)
  have i4 : u 39 22 = μ 39 22 := f _ _ (by decide)
  have ex : xF u = xF μ := xF_fr f (by decide) (by decide)
  simp only [Rel, rI, rT, rP, rLs, rC, ex, zFu, rH, rA, Int.reduceAdd, c0, c1, c2, c3, c4, c5, c6, c7, c8, c9, c10, c11, c12, c13, c14, c15, c16, c19, c20, c30, c33, c34, c35, c40, c41, c44, c55, c56, c57, i1, i2, i3, i4] at h ⊢
  exact h
theorem rH_1 {μ : zM} : rH 1 40 μ ↔ (((0 ≤ μ 1 0 ∧ μ 1 0 ≤ 4) ∧ μ 40 0 = μ 1 0) ∧ ((1 ≤ μ 1 1 ∧ μ 1 1 ≤ 5) ∧ μ 40 1 = μ 1 1) ∧ ((0 ≤ μ 1 2 ∧ μ 1 2 ≤ 9) ∧ μ 40 2 = μ 1 2) ∧ rA 2 40 0 9 125 3 μ ∧ rA 3 40 0 999 20 128 μ ∧ rA 4 40 0 30 25 148 μ ∧ rA 5 40 0 30 5 173 μ ∧ ((0 ≤ μ 1 9 ∧ μ 1 9 ≤ 8) ∧ μ 40 178 = μ 1 9) ∧ rA 6 40 0 2 8 179 μ ∧ rA 7 40 0 9 8 187 μ) := Iff.rfl
/-- a question, answered alike -/
theorem zOp_q {x m : Nat} {as : List zV} (R : zM → Int → Prop) (hu : ∀ μ r r', R μ r → R μ r' → r = r') (hK : ∀ μ, Rel μ → zC 40 x ((2, 0) :: as) μ (fun r u => R μ r ∧ Rel u ∧ zfr zCa μ u)) (hL : ∀ μ, Rel μ → zC 40 m ((2, 39) :: as) μ (fun r u => R μ r ∧ zfr zTm μ u)) (hR : ∀ μ u r, zfr zCa μ u → R u r → R μ r) : zOp x m as := by
  intro μ hr
  refine zuse (hK μ hr) (fun r u h => ?_)
  obtain ⟨h1, h2, h3⟩ := h
  refine ⟨⟨zfr_c h3 (by decide), zfr_c h3 (by decide)⟩, ?_⟩
  refine zuse (hL u h2) (fun r' w h' => ?_)
  obtain ⟨g1, g2⟩ := h'
  refine ⟨(hu μ r r' h1 (hR μ u r' h3 g1)).symm, Rel_fr h2 g2, ?_, ?_⟩
  · rw [zfr_c g2 (by decide), zfr_c h3 (by decide)]
  · rw [zfr_c g2 (by decide), zfr_c h3 (by decide)]
/-- the class's rules are the reference's -/
theorem Rel_n {μ : zM} (h : Rel μ) : (1 ≤ μ 1 1 ∧ μ 1 1 ≤ 5) ∧ μ 40 1 = μ 1 1 := (rH_1.mp h.1).2.1
theorem nF_eq {μ : zM} (h : Rel μ) {i j k : Int} (hi : zrg (μ 1 1) i) (hj : zrg (μ 1 1) j) (hk : zrg (μ 1 1) k) : nF μ i j k = xF μ i j k := by
  obtain ⟨⟨-, a0⟩, ⟨a1, a2⟩, ⟨-, a3⟩, a4, -⟩ := rH_1.mp h.1
  unfold zrg at hi hj hk
  have := (a4 (25 * i + 5 * j + k) (by omega) (by omega)).2
  unfold nF xF oF
  simp only [a0, a2, a3, this]
theorem xF_nb {μ : zM} (h : Rel μ) : zNb (μ 1 1) (xF μ) := by
  obtain ⟨⟨-, a0⟩, ⟨a1, a2⟩, ⟨a3, -⟩, a4, -⟩ := rH_1.mp h.1
  intro i j k hi hj hk
  unfold zrg at hi hj hk
  exact oF_bd a3 (a4 (25 * i + 5 * j + k) (by omega) (by omega)).1
theorem xF_np {μ : zM} : zNp (μ 1 1) (xF μ) := by
  intro a c ha hc
  unfold xF oF
  rw [if_pos (Or.inl rfl), if_pos (Or.inr rfl)]
  simp
theorem nF_nb {μ : zM} (h : Rel μ) : zNb (μ 1 1) (nF μ) := by
  intro i j k hi hj hk
  rw [nF_eq h hi hj hk]
  exact xF_nb h i j k hi hj hk
theorem L_nx {d : Nat} {i j k : Int} {μ : zM} {P : Int → zM → Prop} (h : Rel μ) (hi : zrg (μ 1 1) i) (hj : zrg (μ 1 1) j) (hk : zrg (μ 1 1) k) : zC (d + 3) 117 [(2, 39), (0, i), (0, j), (0, k)] μ P ↔ P (xF μ i j k) μ := by
  have e := (Rel_n h).2
  rw [L_n2 (by rw [e]; exact (Rel_n h).1) (by rw [e]; exact hi) (by rw [e]; exact hj) (by rw [e]; exact hk), nF_eq h hi hj hk]
/-- the rules stand in the class's table -/
def RF (μ : zM) : Prop := Rel μ ∧ μ 0 7 = 1
theorem RF_s {μ : zM} (h : RF μ) : μ 15 0 = μ 1 1 := (h.1.2.2.2.2.2.2.2.1 h.2).1
theorem RF_F {μ : zM} (h : RF μ) : zFu 16 (μ 1 1) (xF μ) μ := (h.1.2.2.2.2.2.2.2.1 h.2).2
theorem RF_fr {μ u : zM} (h : RF μ) (f : zfr zTm μ u) : RF u := ⟨Rel_fr h.1 f, by rw [zfr_c f (by decide)]; exact h.2⟩
theorem K_at {d : Nat} {i j k : Int} {μ : zM} {P : Int → zM → Prop} (h : RF μ) (hi : zrg (μ 1 1) i) (hj : zrg (μ 1 1) j) (hk : zrg (μ 1 1) k) : zC (d + 2) 10 [(2, 15), (0, i), (0, j), (0, k)] μ P ↔ P (xF μ i j k) μ := by
  have hn := (Rel_n h.1).1
  rw [K_at15 ⟨hi.1, by have := hi.2; omega⟩ ⟨hj.1, by have := hj.2; omega⟩ ⟨hk.1, by have := hk.2; omega⟩, RF_F h i j k hi hj hk]
theorem K_forget {d : Nat} {μ : zM} {P : Int → zM → Prop} : zC (d + 1) 96 [(2, 0)] μ P ↔ P 0 (zu (zu μ 0 7 0) 0 8 0) := by
  simp only [e96, k96_0, zO_nop, zO_goto, zO_iload_n0, zO_iload_n1, zO_iload_n2, zO_iload_n3, zO_iload, zO_lload_n0, zO_lload_n1, zO_lload_n2, zO_lload_n3, zO_lload, zO_aload_n0, zO_aload_n1, zO_aload_n2, zO_aload_n3, zO_aload, zO_istore_n0, zO_istore_n1, zO_istore_n2, zO_istore_n3, zO_istore, zO_astore_n0, zO_astore_n1, zO_astore_n2, zO_astore_n3, zO_astore, zO_lstore, zO_iinc, zO_iconst, zO_bipush, zO_sipush, zO_lconst0, zO_lconst1, zO_ldc, zO_ldc2_w, zO_iadd, zO_isub, zO_imul, zO_idiv, zO_irem, zO_ineg, zO_iand, zO_ior, zO_ixor, zO_ishl, zO_ishr, zO_iushr, zO_ladd, zO_lmul, zO_land, zO_lor, zO_lshl, zO_lcmp, zO_i2l, zO_l2i, zO_i2b, zO_dup0, zO_dup2, zO_dup200, zO_dup202, zO_dup220, zO_dup222, zO_ifCond_eq, zO_ifCond_ne, zO_ifCond_lt, zO_ifCond_ge, zO_ifCond_gt, zO_ifCond_le, zO_if_icmp_eq, zO_if_icmp_ne, zO_if_icmp_lt, zO_if_icmp_ge, zO_if_icmp_gt, zO_if_icmp_le, zO_getfield, zO_putfield, zO_iaload, zO_baload, zO_laload, zO_iastore, zO_bastore, zO_lastore, zO_arraylength, zO_invokevirtual, zO_lreturn, zO_areturn, zO_return_, zO_tableswitch, zO_lookupswitch, zO_is0, zO_is1, zO_is2, zO_is3, zO_is4, zO_is9, zO_is10, zO_is11, zO_is12, zO_ir1, zO_ir4, zB_c, zLd_0, zLd_s, zSt_c, zSt2_c, zU_c, zD_c, zY_c, zSw_n, zSw_c, zCall_c, zVirt_c, zP_0, zP_1, zP_2, zP_3, zP_4, zGet_n, zGet_z, zPut_n, zPut_z, zcw_n, zcw_0, zcw_1, zcw_2, List.length_cons, List.length_nil, List.take_succ_cons, List.take_zero, List.drop_succ_cons, List.drop_zero, List.reverse_cons, List.reverse_nil, List.nil_append, List.cons_append, List.append_nil, List.set_cons_zero, List.set_cons_succ, List.getD_cons_zero, List.getD_cons_succ, true_and, and_true, ne_eq, not_false_eq_true, not_true_eq_false, zif, Nat.reduceAdd, Nat.reduceLeDiff, Nat.reduceLT, Nat.reduceSub, Nat.reduceEqDiff, Nat.zero_le, Nat.lt_add_one, Nat.reduceMod, false_implies, true_implies, implies_true, forall_const, Int.reduceLE, Int.reduceLT, Int.reduceEq, Int.reduceNeg, ite10_0, ite10_1, zem, zem2, Classical.not_not, and_self, or_true, true_or, or_false, false_or, zT_0, zN_0, zGf_160_0, zGf_161_0, zGf_162_0, zPf_162_0, zGf_163_0, zGf_164_0, zGf_165_0, zGf_166_0, zGf_167_0, zPf_167_0, zGf_168_0, zPf_168_0, zGf_169_0, zGf_170_0, zGf_171_0, zPf_171_0, zGf_172_0, zGf_173_0, zGf_174_0, zGf_175_0, zGf_176_0, true_or]
theorem K_cF1 {d : Nat} {μ : zM} {P : Int → zM → Prop} (h : μ 0 7 = 1) : zC (d + 2) 97 [(2, 0)] μ P ↔ P 15 μ := by
  simp only [e97, k97_0, u97_23, k97_23, zO_nop, zO_goto, zO_iload_n0, zO_iload_n1, zO_iload_n2, zO_iload_n3, zO_iload, zO_lload_n0, zO_lload_n1, zO_lload_n2, zO_lload_n3, zO_lload, zO_aload_n0, zO_aload_n1, zO_aload_n2, zO_aload_n3, zO_aload, zO_istore_n0, zO_istore_n1, zO_istore_n2, zO_istore_n3, zO_istore, zO_astore_n0, zO_astore_n1, zO_astore_n2, zO_astore_n3, zO_astore, zO_lstore, zO_iinc, zO_iconst, zO_bipush, zO_sipush, zO_lconst0, zO_lconst1, zO_ldc, zO_ldc2_w, zO_iadd, zO_isub, zO_imul, zO_idiv, zO_irem, zO_ineg, zO_iand, zO_ior, zO_ixor, zO_ishl, zO_ishr, zO_iushr, zO_ladd, zO_lmul, zO_land, zO_lor, zO_lshl, zO_lcmp, zO_i2l, zO_l2i, zO_i2b, zO_dup0, zO_dup2, zO_dup200, zO_dup202, zO_dup220, zO_dup222, zO_ifCond_eq, zO_ifCond_ne, zO_ifCond_lt, zO_ifCond_ge, zO_ifCond_gt, zO_ifCond_le, zO_if_icmp_eq, zO_if_icmp_ne, zO_if_icmp_lt, zO_if_icmp_ge, zO_if_icmp_gt, zO_if_icmp_le, zO_getfield, zO_putfield, zO_iaload, zO_baload, zO_laload, zO_iastore, zO_bastore, zO_lastore, zO_arraylength, zO_invokevirtual, zO_lreturn, zO_areturn, zO_return_, zO_tableswitch, zO_lookupswitch, zO_is0, zO_is1, zO_is2, zO_is3, zO_is4, zO_is9, zO_is10, zO_is11, zO_is12, zO_ir1, zO_ir4, zB_c, zLd_0, zLd_s, zSt_c, zSt2_c, zU_c, zD_c, zY_c, zSw_n, zSw_c, zCall_c, zVirt_c, zP_0, zP_1, zP_2, zP_3, zP_4, zGet_n, zGet_z, zPut_n, zPut_z, zcw_n, zcw_0, zcw_1, zcw_2, List.length_cons, List.length_nil, List.take_succ_cons, List.take_zero, List.drop_succ_cons, List.drop_zero, List.reverse_cons, List.reverse_nil, List.nil_append, List.cons_append, List.append_nil, List.set_cons_zero, List.set_cons_succ, List.getD_cons_zero, List.getD_cons_succ, true_and, and_true, ne_eq, not_false_eq_true, not_true_eq_false, zif, Nat.reduceAdd, Nat.reduceLeDiff, Nat.reduceLT, Nat.reduceSub, Nat.reduceEqDiff, Nat.zero_le, Nat.lt_add_one, Nat.reduceMod, false_implies, true_implies, implies_true, forall_const, Int.reduceLE, Int.reduceLT, Int.reduceEq, Int.reduceNeg, ite10_0, ite10_1, zem, zem2, Classical.not_not, and_self, or_true, true_or, or_false, false_or, zT_0, zN_0, zGf_160_0, zGf_161_0, zGf_162_0, zPf_162_0, zGf_163_0, zGf_164_0, zGf_165_0, zGf_166_0, zGf_167_0, zPf_167_0, zGf_168_0, zPf_168_0, zGf_169_0, zGf_170_0, zGf_171_0, zPf_171_0, zGf_172_0, zGf_173_0, zGf_174_0, zGf_175_0, zGf_176_0, h]
theorem Rel_cF {μ u : zM} (hr : Rel μ) (f : zfr [(15, -1), (16, -1)] μ u) (h1 : u 15 0 = μ 1 1) (h2 : zFu 16 (μ 1 1) (xF μ) u) (h8 : μ 0 7 = 0) : RF (zu u 0 7 1) := by
  have f2 : zfr [(0, 7), (15, -1), (16, -1)] μ (zu u 0 7 1) := zfr_u (zfr_up f (by decide)) (by decide)
  generalize hw : zu u 0 7 1 = w at f2
  have w7 : w 0 7 = 1 := by rw [← hw, zu_at]
  have w15 : w 15 = u 15 := by funext i; rw [← hw]; exact zu_ne (by omega)
  have w16 : w 16 = u 16 := by funext i; rw [← hw]; exact zu_ne (by omega)
  have c1 : w 1 = μ 1 := zfr_c f2 (by decide)
  have c2 : w 2 = μ 2 := zfr_c f2 (by decide)
  have c3 : w 3 = μ 3 := zfr_c f2 (by decide)
  have c4 : w 4 = μ 4 := zfr_c f2 (by decide)
  have c5 : w 5 = μ 5 := zfr_c f2 (by decide)
  have c6 : w 6 = μ 6 := zfr_c f2 (by decide)
  have c7 : w 7 = μ 7 := zfr_c f2 (by decide)
  have c8 : w 8 = μ 8 := zfr_c f2 (by decide)
  have c9 : w 9 = μ 9 := zfr_c f2 (by decide)
  have c10 : w 10 = μ 10 := zfr_c f2 (by decide)
  have c11 : w 11 = μ 11 := zfr_c f2 (by decide)
  have c12 : w 12 = μ 12 := zfr_c f2 (by decide)
  have c13 : w 13 = μ 13 := zfr_c f2 (by decide)
  have c14 : w 14 = μ 14 := zfr_c f2 (by decide)
  have c19 : w 19 = μ 19 := zfr_c f2 (by decide)
  have c20 : w 20 = μ 20 := zfr_c f2 (by decide)
  have c29 : w 29 = μ 29 := zfr_c f2 (by decide)
  have c30 : w 30 = μ 30 := zfr_c f2 (by decide)
  have c33 : w 33 = μ 33 := zfr_c f2 (by decide)
  have c34 : w 34 = μ 34 := zfr_c f2 (by decide)
  have c35 : w 35 = μ 35 := zfr_c f2 (by decide)
  have c39 : w 39 = μ 39 := zfr_c f2 (by decide)
  have c40 : w 40 = μ 40 := zfr_c f2 (by decide)
  have c41 : w 41 = μ 41 := zfr_c f2 (by decide)
  have c44 : w 44 = μ 44 := zfr_c f2 (by decide)
  have c55 : w 55 = μ 55 := zfr_c f2 (by decide)
  have c56 : w 56 = μ 56 := zfr_c f2 (by decide)
  have c57 : w 57 = μ 57 := zfr_c f2 (by decide)
  have i2 : w 0 2 = μ 0 2 := f2 _ _ (by decide)
  have i8 : w 0 8 = μ 0 8 := f2 _ _ (by decide)
  have i11 : w 0 11 = μ 0 11 := f2 _ _ (by decide)
  refine ⟨?_, w7⟩
  obtain ⟨q1, q2, q3, q4, q5, q6⟩ := hr
  refine ⟨?_, ?_, ?_, ?_, ?_, ?_⟩
  · simp only [rH, rA, Int.reduceAdd, c1, c2, c3, c4, c5, c6, c7, c40] at q1 ⊢; exact q1
  · simp only [rI, rH, rA, Int.reduceAdd, i2, c39, c8, c9, c10, c11, c12, c13, c14, c41] at q2 ⊢; exact q2
  · simp only [rT, c29, c30, c39, c44] at q3 ⊢; exact q3
  · simp only [rP, i11, c33, c39, c55] at q4 ⊢; exact q4
  · simp only [rLs, c34, c35, c56, c57] at q5 ⊢; exact q5
  · refine ⟨Or.inr w7, by rw [i8]; exact q6.2.1, fun _ => ⟨by rw [w15, c1]; exact h1, ?_⟩, fun h => ?_⟩
    · simp only [zFu, xF, c1, c2, w16] at h2 ⊢; exact h2
    · rw [i8] at h
      have := (q6.2.2.2 h).1
      omega
theorem K_cF {d : Nat} {μ : zM} (hr : Rel μ) : zC (d + 6) 97 [(2, 0)] μ (fun r u => r = 15 ∧ RF u ∧ zfr [(0, 7), (15, -1), (16, -1)] μ u) := by
  have h7 := hr.2.2.2.2.2.1
  by_cases h : μ 0 7 = 1
  · rw [K_cF1 h]
    exact ⟨rfl, ⟨hr, h⟩, zfr_rf⟩
  · have h0 : μ 0 7 = 0 := by omega
    simp only [e97, k97_0, u97_23, k97_23, zO_nop, zO_goto, zO_iload_n0, zO_iload_n1, zO_iload_n2, zO_iload_n3, zO_iload, zO_lload_n0, zO_lload_n1, zO_lload_n2, zO_lload_n3, zO_lload, zO_aload_n0, zO_aload_n1, zO_aload_n2, zO_aload_n3, zO_aload, zO_istore_n0, zO_istore_n1, zO_istore_n2, zO_istore_n3, zO_istore, zO_astore_n0, zO_astore_n1, zO_astore_n2, zO_astore_n3, zO_astore, zO_lstore, zO_iinc, zO_iconst, zO_bipush, zO_sipush, zO_lconst0, zO_lconst1, zO_ldc, zO_ldc2_w, zO_iadd, zO_isub, zO_imul, zO_idiv, zO_irem, zO_ineg, zO_iand, zO_ior, zO_ixor, zO_ishl, zO_ishr, zO_iushr, zO_ladd, zO_lmul, zO_land, zO_lor, zO_lshl, zO_lcmp, zO_i2l, zO_l2i, zO_i2b, zO_dup0, zO_dup2, zO_dup200, zO_dup202, zO_dup220, zO_dup222, zO_ifCond_eq, zO_ifCond_ne, zO_ifCond_lt, zO_ifCond_ge, zO_ifCond_gt, zO_ifCond_le, zO_if_icmp_eq, zO_if_icmp_ne, zO_if_icmp_lt, zO_if_icmp_ge, zO_if_icmp_gt, zO_if_icmp_le, zO_getfield, zO_putfield, zO_iaload, zO_baload, zO_laload, zO_iastore, zO_bastore, zO_lastore, zO_arraylength, zO_invokevirtual, zO_lreturn, zO_areturn, zO_return_, zO_tableswitch, zO_lookupswitch, zO_is0, zO_is1, zO_is2, zO_is3, zO_is4, zO_is9, zO_is10, zO_is11, zO_is12, zO_ir1, zO_ir4, zB_c, zLd_0, zLd_s, zSt_c, zSt2_c, zU_c, zD_c, zY_c, zSw_n, zSw_c, zCall_c, zVirt_c, zP_0, zP_1, zP_2, zP_3, zP_4, zGet_n, zGet_z, zPut_n, zPut_z, zcw_n, zcw_0, zcw_1, zcw_2, List.length_cons, List.length_nil, List.take_succ_cons, List.take_zero, List.drop_succ_cons, List.drop_zero, List.reverse_cons, List.reverse_nil, List.nil_append, List.cons_append, List.append_nil, List.set_cons_zero, List.set_cons_succ, List.getD_cons_zero, List.getD_cons_succ, true_and, and_true, ne_eq, not_false_eq_true, not_true_eq_false, zif, Nat.reduceAdd, Nat.reduceLeDiff, Nat.reduceLT, Nat.reduceSub, Nat.reduceEqDiff, Nat.zero_le, Nat.lt_add_one, Nat.reduceMod, false_implies, true_implies, implies_true, forall_const, Int.reduceLE, Int.reduceLT, Int.reduceEq, Int.reduceNeg, ite10_0, ite10_1, zem, zem2, Classical.not_not, and_self, or_true, true_or, or_false, false_or, zT_0, zN_0, zGf_160_0, zGf_161_0, zGf_162_0, zPf_162_0, zGf_163_0, zGf_164_0, zGf_165_0, zGf_166_0, zGf_167_0, zPf_167_0, zGf_168_0, zPf_168_0, zGf_169_0, zGf_170_0, zGf_171_0, zPf_171_0, zGf_172_0, zGf_173_0, zGf_174_0, zGf_175_0, zGf_176_0, zT_15, zN_15, zGf_32_15, zPf_32_15, zGf_33_15, h0]
    refine zuse (K_becomeRules15 (d := d + 1) (Rel_n hr).1) ?_
    rintro r u ⟨rfl, f, g1, g2⟩
    have f2 : zfr [(15, -1), (16, -1)] μ u := zfr_sm f (by decide)
    exact ⟨Rel_cF hr f2 g1 (fun a b c ha hb hc => g2 a b c ha.1 ha.2 hb.1 hb.2 hc.1 hc.2) h0, zfr_u (zfr_up f2 (by decide)) (by decide)⟩
theorem Rel_pt {μ w : zM} {S : List (Int × Int)} (hr : Rel μ) (f : zfr S μ w) (hS : ∀ x ∈ [0, 8, 9, 10, 11, 12, 13, 14, 29, 30, 33, 34, 35, 39, 41, 44, 55, 56, 57], x ∉ (S.filter (fun x => x ∉ [(0, 7), (0, 8), (29, 3), (29, 4), (39, 7), (39, 8), (39, 10), (39, 12)])).map Prod.fst) (hH : rH 1 40 w) (hC : rC w) : Rel w := by
  have key : ∀ a ∈ ([0, 8, 9, 10, 11, 12, 13, 14, 29, 30, 33, 34, 35, 39, 41, 44, 55, 56, 57] : List Int), ∀ i, zfq [(0, 7), (0, 8), (29, 3), (29, 4), (39, 7), (39, 8), (39, 10), (39, 12)] a i = false → w a i = μ a i := by
    intro a ha i hi
    refine f a i ?_
    have h := hS a ha
    unfold zfq at hi ⊢
    rw [List.any_eq_false] at hi ⊢
    intro x hx hb
    simp only [Bool.and_eq_true, beq_iff_eq] at hb
    by_cases e : x ∈ ([(0, 7), (0, 8), (29, 3), (29, 4), (39, 7), (39, 8), (39, 10), (39, 12)] : List (Int × Int))
    · exact hi x e (by simp only [Bool.and_eq_true, beq_iff_eq]; exact hb)
    · exact h (List.mem_map.mpr ⟨x, List.mem_filter.mpr ⟨hx, by simpa using e⟩, hb.1⟩)
  have kc : ∀ a ∈ ([8, 9, 10, 11, 12, 13, 14, 30, 33, 34, 35, 41, 44, 55, 56, 57] : List Int), w a = μ a := fun a ha => funext fun i => key a (by revert a; decide) i (zfq_c (by revert a; decide) i)
  have c8 := kc 8 (by decide)
  have c9 := kc 9 (by decide)
  have c10 := kc 10 (by decide)
  have c11 := kc 11 (by decide)
  have c12 := kc 12 (by decide)
  have c13 := kc 13 (by decide)
  have c14 := kc 14 (by decide)
  have c30 := kc 30 (by decide)
  have c33 := kc 33 (by decide)
  have c34 := kc 34 (by decide)
  have c35 := kc 35 (by decide)
  have c41 := kc 41 (by decide)
  have c44 := kc 44 (by decide)
  have c55 := kc 55 (by decide)
  have c56 := kc 56 (by decide)
  have c57 := kc 57 (by decide)
  have i2 := key 0 (by decide) 2 (by decide)
  have i11 := key 0 (by decide) 11 (by decide)
  have j1 := key 29 (by decide) 1 (by decide)
  have j2 := key 39 (by decide) 2 (by decide)
  have j6 := key 39 (by decide) 6 (by decide)
  have j22 := key 39 (by decide) 22 (by decide)
  obtain ⟨-, q2, q3, q4, q5, -⟩ := hr
  refine ⟨hH, ?_, ?_, ?_, ?_, hC⟩
  · simp only [rI, rH, rA, Int.reduceAdd, i2, j2, c8, c9, c10, c11, c12, c13, c14, c41] at q2 ⊢; exact q2
  · simp only [rT, j1, c30, j6, c44] at q3 ⊢; exact q3
  · simp only [rP, i11, c33, j22, c55] at q4 ⊢; exact q4
  · simp only [rLs, c34, c35, c56, c57] at q5 ⊢; exact q5
theorem rC_no {w : zM} (h7 : w 0 7 = 0) (h8 : w 0 8 = 0) : rC w := ⟨Or.inl h7, Or.inl h8, fun h => by omega, fun h => by omega⟩
theorem rC_kp {μ w : zM} (hr : Rel μ) (e7 : w 0 7 = μ 0 7) (e8 : w 0 8 = μ 0 8) (e15 : w 15 = μ 15) (e16 : w 16 = μ 16) (e19 : w 19 = μ 19) (e20 : w 20 = μ 20) (i0 : w 1 0 = μ 1 0) (i1 : w 1 1 = μ 1 1) (i2 : w 1 2 = μ 1 2) (e2 : w 2 = μ 2) : rC w := by
  have h := hr.2.2.2.2.2
  have ex : xF w = xF μ := by funext i j k; unfold xF; rw [i0, i1, i2, e2]
  simp only [rC, ex, zFu, e7, e8, e15, e16, e19, e20, i0, i1, i2, e2] at h ⊢
  exact h
/-- numbers told anew, the rules as they were -/
theorem Rel_k {μ w : zM} (hr : Rel μ) (f : zfr ((1, 9) :: (3, -1) :: (4, -1) :: (5, -1) :: (6, -1) :: (7, -1) :: (40, -1) :: zTm) μ w) (hH : rH 1 40 w) : Rel w := by
  refine Rel_pt hr f (by decide) hH (rC_kp hr (f _ _ (by decide)) (f _ _ (by decide)) (zfr_c f (by decide)) (zfr_c f (by decide)) (zfr_c f (by decide)) (zfr_c f (by decide)) (f _ _ (by decide)) (f _ _ (by decide)) (f _ _ (by decide)) (zfr_c f (by decide)))
/-- rules told anew -/
theorem Rel_h {μ w : zM} (hr : Rel μ) (f : zfr ((0, 7) :: (0, 8) :: (1, -1) :: (2, -1) :: (3, -1) :: (4, -1) :: (5, -1) :: (6, -1) :: (7, -1) :: (40, -1) :: (15, -1) :: (16, -1) :: (19, -1) :: (20, -1) :: zTm) μ w) (h7 : w 0 7 = 0) (h8 : w 0 8 = 0) (hH : rH 1 40 w) : Rel w := Rel_pt hr f (by decide) hH (rC_no h7 h8)
theorem zu_c {μ : zM} {a i v b : Int} (h : ¬ b = a) : zu μ a i v b = μ b := by funext j; exact zu_ne (fun z => h z.1)
theorem rA_u {c n lo hi len off a j v : Int} {μ : zM} (h : rA c n lo hi len off μ) (hc : ¬ a = c) (hn : a = n → j < off ∨ off + len ≤ j) : rA c n lo hi len off (zu μ a j v) := by
  intro i h0 h1
  rw [zu_ne (by omega), zu_ne (by omega)]
  exact h i h0 h1
theorem rA_p {c n lo hi len off i v : Int} {μ w : zM} (h : rA c n lo hi len off μ) (hv : lo ≤ v ∧ v ≤ hi) (hc : ∀ j, 0 ≤ j → j < len → w c j = if j = i then v else μ c j) (hn : ∀ j, 0 ≤ j → j < len → w n (off + j) = if j = i then v else μ n (off + j)) : rA c n lo hi len off w := by
  intro j h0 h1
  rw [hc j h0 h1, hn j h0 h1]
  by_cases e : j = i
  · rw [if_pos e, if_pos e]; exact ⟨hv, rfl⟩
  · rw [if_neg e, if_neg e]; exact h j h0 h1
theorem rA_fr {c n lo hi len off : Int} {μ w : zM} (h : rA c n lo hi len off μ) (hc : w c = μ c) (hn : w n = μ n) : rA c n lo hi len off w := by
  intro j h0 h1
  rw [hc, hn]
  exact h j h0 h1
