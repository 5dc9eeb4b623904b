/-! the law's loop, out of the operations -/
def lawOps : Prop := (∀ a1 a2 : Int, zOp 50 112 [(0, a1), (0, a2)]) ∧ (∀ a1 : Int, zOp 51 113 [(0, a1)]) ∧ (∀ a1 a2 a3 a4 : Int, zOp 52 114 [(0, a1), (0, a2), (0, a3), (0, a4)]) ∧ (∀ a1 : Int, zOp 53 126 [(0, a1)]) ∧ (zOp 54 134 []) ∧ (∀ a1 a2 a3 : Int, zOp 55 118 [(0, a1), (0, a2), (0, a3)]) ∧ (∀ a1 : Int, zOp 56 121 [(0, a1)]) ∧ (∀ a1 : Int, zOp 57 122 [(0, a1)]) ∧ (∀ a1 a2 a3 : Int, zOp 58 125 [(0, a1), (0, a2), (0, a3)]) ∧ (∀ a1 : Int, zOp 59 137 [(0, a1)]) ∧ (∀ a1 a2 : Int, zOp 60 138 [(0, a1), (0, a2)]) ∧ (∀ a1 a2 a3 : Int, zOp 61 139 [(0, a1), (0, a2), (0, a3)]) ∧ (∀ a1 a2 : Int, zOp 62 140 [(0, a1), (0, a2)]) ∧ (∀ a1 : Int, zOp 63 144 [(0, a1)]) ∧ (∀ a1 : Int, zOp 64 145 [(0, a1)]) ∧ (∀ a1 : Int, zOp 65 146 [(0, a1)]) ∧ (∀ a1 a2 : Int, zOp 66 151 [(0, a1), (0, a2)]) ∧ (∀ a1 : Int, zOp 67 152 [(0, a1)]) ∧ (∀ a1 a2 a3 : Int, zOp 68 158 [(0, a1), (0, a2), (0, a3)]) ∧ (∀ a1 a2 a3 : Int, zOp 69 161 [(0, a1), (0, a2), (0, a3)]) ∧ (∀ a1 a2 : Int, zOp 70 162 [(0, a1), (0, a2)]) ∧ (zOp 71 163 []) ∧ (∀ a1 a2 a3 : Int, zOp 72 164 [(0, a1), (0, a2), (0, a3)]) ∧ (∀ a1 : Int, zOp 73 168 [(0, a1)]) ∧ (∀ a1 a2 : Int, zOp 74 171 [(0, a1), (0, a2)]) ∧ (∀ a1 a2 a3 : Int, zOp 75 172 [(0, a1), (0, a2), (0, a3)]) ∧ (∀ a1 a2 a3 a4 a5 : Int, zOp 76 174 [(0, a1), (0, a2), (0, a3), (0, a4), (0, a5)]) ∧ (∀ a1 a2 : Int, zOp 77 175 [(0, a1), (0, a2)]) ∧ (∀ a1 a2 : Int, zOp 78 177 [(0, a1), (0, a2)]) ∧ (∀ a1 : Int, zOp 79 180 [(0, a1)]) ∧ (∀ a1 : Int, zOp 80 181 [(0, a1)]) ∧ (∀ a1 a2 a3 : Int, zOp 81 183 [(0, a1), (0, a2), (0, a3)]) ∧ (∀ a1 a2 : Int, zOp 82 184 [(0, a1), (0, a2)]) ∧ (∀ a1 a2 a3 : Int, zOp 83 185 [(0, a1), (0, a2), (1, a3)]) ∧ (∀ a1 a2 : Int, zOp 84 186 [(0, a1), (0, a2)]) ∧ (zOp 85 187 []) ∧ (zOp 86 188 []) ∧ (∀ a1 : Int, zOp 87 190 [(0, a1)])
theorem law_0 (ho : ∀ a1 a2 : Int, zOp 50 112 [(0, a1), (0, a2)]) {i : Int} {μ : zM} (hr : Rel μ) (hL : μ 98 0 ≤ 3072) (i0 : 0 ≤ i) (i1 : i + 6 ≤ μ 98 0) (hn : ∀ w, Rel w → w 98 = μ 98 → w 99 = μ 99 → zR 40 193 (fun r _ => r = 1) 1417 [(2, 99), (2, 0), (2, 39), (0, i)] [] w) : zR 40 193 (fun r _ => r = 1) 200 [(2, 99), (2, 0), (2, 39), (0, i)] [] μ := by
    have b1 : 0 ≤ i + 1 := by omega
    have c1 : i + 1 < μ 98 0 := by omega
    have b2 : 0 ≤ i + 2 := by omega
    have c2 : i + 2 < μ 98 0 := by omega
    have b3 : 0 ≤ i + 3 := by omega
    have c3 : i + 3 < μ 98 0 := by omega
    have b4 : 0 ≤ i + 4 := by omega
    have c4 : i + 4 < μ 98 0 := by omega
    have b5 : 0 ≤ i + 5 := by omega
    have c5 : i + 5 < μ 98 0 := by omega
    rw [u193_200]
    simp only [k193_200, zO_nop, zO_goto, zO_iload_n0, zO_iload_n1, zO_iload_n2, zO_iload_n3, zO_iload, zO_lload_n0, zO_lload_n1, zO_lload_n2, zO_lload_n3, zO_lload, zO_aload_n0, zO_aload_n1, zO_aload_n2, zO_aload_n3, zO_aload, zO_istore_n0, zO_istore_n1, zO_istore_n2, zO_istore_n3, zO_istore, zO_astore_n0, zO_astore_n1, zO_astore_n2, zO_astore_n3, zO_astore, zO_lstore, zO_iinc, zO_iconst, zO_bipush, zO_sipush, zO_lconst0, zO_lconst1, zO_ldc, zO_ldc2_w, zO_iadd, zO_isub, zO_imul, zO_idiv, zO_irem, zO_ineg, zO_iand, zO_ior, zO_ixor, zO_ishl, zO_ishr, zO_iushr, zO_ladd, zO_lmul, zO_land, zO_lor, zO_lshl, zO_lcmp, zO_i2l, zO_l2i, zO_i2b, zO_dup0, zO_dup2, zO_dup200, zO_dup202, zO_dup220, zO_dup222, zO_ifCond_eq, zO_ifCond_ne, zO_ifCond_lt, zO_ifCond_ge, zO_ifCond_gt, zO_ifCond_le, zO_if_icmp_eq, zO_if_icmp_ne, zO_if_icmp_lt, zO_if_icmp_ge, zO_if_icmp_gt, zO_if_icmp_le, zO_getfield, zO_putfield, zO_iaload, zO_baload, zO_laload, zO_iastore, zO_bastore, zO_lastore, zO_arraylength, zO_invokevirtual, zO_lreturn, zO_areturn, zO_return_, zO_tableswitch, zO_lookupswitch, zO_is0, zO_is1, zO_is2, zO_is3, zO_is4, zO_is9, zO_is10, zO_is11, zO_is12, zO_ir1, zO_ir4, zB_c, zLd_0, zLd_s, zSt_c, zSt2_c, zU_c, zD_c, zY_c, zSw_n, zSw_c, zCall_c, zVirt_c, zP_0, zP_1, zP_2, zP_3, zP_4, zGet_n, zGet_z, zPut_n, zPut_z, zcw_n, zcw_0, zcw_1, zcw_2, List.length_cons, List.length_nil, List.take_succ_cons, List.take_zero, List.drop_succ_cons, List.drop_zero, List.reverse_cons, List.reverse_nil, List.nil_append, List.cons_append, List.append_nil, List.set_cons_zero, List.set_cons_succ, List.getD_cons_zero, List.getD_cons_succ, true_and, and_true, ne_eq, not_false_eq_true, not_true_eq_false, zif, Nat.reduceAdd, Nat.reduceLeDiff, Nat.reduceLT, Nat.reduceSub, Nat.reduceEqDiff, Nat.zero_le, Nat.lt_add_one, Nat.reduceMod, false_implies, true_implies, implies_true, forall_const, Int.reduceLE, Int.reduceLT, Int.reduceEq, Int.reduceNeg, ite10_0, ite10_1, zem, zem2, Classical.not_not, and_self, zT_0, zN_0, zT_39, zN_39, zAl_99]
    try simp (disch := omega) only [zw_e]
    try simp only [b1, c1, b2, c2, b3, c3, b4, c4, b5, c5, true_and]
    refine zuse (ho _ _ μ hr) (fun r u h => ?_)
    obtain ⟨⟨e8, e9⟩, h2⟩ := h
    try simp only [e8, e9, b1, c1, b2, c2, b3, c3, b4, c4, b5, c5, true_and]
    refine zuse h2 (fun r' w h3 => ?_)
    obtain ⟨rfl, hr2, w8, w9⟩ := h3
    try simp only [zcmp_eq]
    first | exact ⟨fun _ => hn w hr2 w8 w9, fun h => absurd rfl h⟩ | exact ⟨fun _ => hn w hr2 w8 w9, fun h => absurd trivial h⟩
theorem law_1 (ho : ∀ a1 : Int, zOp 51 113 [(0, a1)]) {i : Int} {μ : zM} (hr : Rel μ) (hL : μ 98 0 ≤ 3072) (i0 : 0 ≤ i) (i1 : i + 6 ≤ μ 98 0) (hn : ∀ w, Rel w → w 98 = μ 98 → w 99 = μ 99 → zR 40 193 (fun r _ => r = 1) 1417 [(2, 99), (2, 0), (2, 39), (0, i)] [] w) : zR 40 193 (fun r _ => r = 1) 233 [(2, 99), (2, 0), (2, 39), (0, i)] [] μ := by
    have b1 : 0 ≤ i + 1 := by omega
    have c1 : i + 1 < μ 98 0 := by omega
    have b2 : 0 ≤ i + 2 := by omega
    have c2 : i + 2 < μ 98 0 := by omega
    have b3 : 0 ≤ i + 3 := by omega
    have c3 : i + 3 < μ 98 0 := by omega
    have b4 : 0 ≤ i + 4 := by omega
    have c4 : i + 4 < μ 98 0 := by omega
    have b5 : 0 ≤ i + 5 := by omega
    have c5 : i + 5 < μ 98 0 := by omega
    rw [u193_233]
    simp only [k193_233, zO_nop, zO_goto, zO_iload_n0, zO_iload_n1, zO_iload_n2, zO_iload_n3, zO_iload, zO_lload_n0, zO_lload_n1, zO_lload_n2, zO_lload_n3, zO_lload, zO_aload_n0, zO_aload_n1, zO_aload_n2, zO_aload_n3, zO_aload, zO_istore_n0, zO_istore_n1, zO_istore_n2, zO_istore_n3, zO_istore, zO_astore_n0, zO_astore_n1, zO_astore_n2, zO_astore_n3, zO_astore, zO_lstore, zO_iinc, zO_iconst, zO_bipush, zO_sipush, zO_lconst0, zO_lconst1, zO_ldc, zO_ldc2_w, zO_iadd, zO_isub, zO_imul, zO_idiv, zO_irem, zO_ineg, zO_iand, zO_ior, zO_ixor, zO_ishl, zO_ishr, zO_iushr, zO_ladd, zO_lmul, zO_land, zO_lor, zO_lshl, zO_lcmp, zO_i2l, zO_l2i, zO_i2b, zO_dup0, zO_dup2, zO_dup200, zO_dup202, zO_dup220, zO_dup222, zO_ifCond_eq, zO_ifCond_ne, zO_ifCond_lt, zO_ifCond_ge, zO_ifCond_gt, zO_ifCond_le, zO_if_icmp_eq, zO_if_icmp_ne, zO_if_icmp_lt, zO_if_icmp_ge, zO_if_icmp_gt, zO_if_icmp_le, zO_getfield, zO_putfield, zO_iaload, zO_baload, zO_laload, zO_iastore, zO_bastore, zO_lastore, zO_arraylength, zO_invokevirtual, zO_lreturn, zO_areturn, zO_return_, zO_tableswitch, zO_lookupswitch, zO_is0, zO_is1, zO_is2, zO_is3, zO_is4, zO_is9, zO_is10, zO_is11, zO_is12, zO_ir1, zO_ir4, zB_c, zLd_0, zLd_s, zSt_c, zSt2_c, zU_c, zD_c, zY_c, zSw_n, zSw_c, zCall_c, zVirt_c, zP_0, zP_1, zP_2, zP_3, zP_4, zGet_n, zGet_z, zPut_n, zPut_z, zcw_n, zcw_0, zcw_1, zcw_2, List.length_cons, List.length_nil, List.take_succ_cons, List.take_zero, List.drop_succ_cons, List.drop_zero, List.reverse_cons, List.reverse_nil, List.nil_append, List.cons_append, List.append_nil, List.set_cons_zero, List.set_cons_succ, List.getD_cons_zero, List.getD_cons_succ, true_and, and_true, ne_eq, not_false_eq_true, not_true_eq_false, zif, Nat.reduceAdd, Nat.reduceLeDiff, Nat.reduceLT, Nat.reduceSub, Nat.reduceEqDiff, Nat.zero_le, Nat.lt_add_one, Nat.reduceMod, false_implies, true_implies, implies_true, forall_const, Int.reduceLE, Int.reduceLT, Int.reduceEq, Int.reduceNeg, ite10_0, ite10_1, zem, zem2, Classical.not_not, and_self, zT_0, zN_0, zT_39, zN_39, zAl_99]
    try simp (disch := omega) only [zw_e]
    try simp only [b1, c1, b2, c2, b3, c3, b4, c4, b5, c5, true_and]
    refine zuse (ho _ μ hr) (fun r u h => ?_)
    obtain ⟨⟨e8, e9⟩, h2⟩ := h
    try simp only [e8, e9, b1, c1, b2, c2, b3, c3, b4, c4, b5, c5, true_and]
    refine zuse h2 (fun r' w h3 => ?_)
    obtain ⟨rfl, hr2, w8, w9⟩ := h3
    try simp only [zcmp_eq]
    first | exact ⟨fun _ => hn w hr2 w8 w9, fun h => absurd rfl h⟩ | exact ⟨fun _ => hn w hr2 w8 w9, fun h => absurd trivial h⟩
theorem law_2 (ho : ∀ a1 a2 a3 a4 : Int, zOp 52 114 [(0, a1), (0, a2), (0, a3), (0, a4)]) {i : Int} {μ : zM} (hr : Rel μ) (hL : μ 98 0 ≤ 3072) (i0 : 0 ≤ i) (i1 : i + 6 ≤ μ 98 0) (hn : ∀ w, Rel w → w 98 = μ 98 → w 99 = μ 99 → zR 40 193 (fun r _ => r = 1) 1417 [(2, 99), (2, 0), (2, 39), (0, i)] [] w) : zR 40 193 (fun r _ => r = 1) 256 [(2, 99), (2, 0), (2, 39), (0, i)] [] μ := by
    have b1 : 0 ≤ i + 1 := by omega
    have c1 : i + 1 < μ 98 0 := by omega
    have b2 : 0 ≤ i + 2 := by omega
    have c2 : i + 2 < μ 98 0 := by omega
    have b3 : 0 ≤ i + 3 := by omega
    have c3 : i + 3 < μ 98 0 := by omega
    have b4 : 0 ≤ i + 4 := by omega
    have c4 : i + 4 < μ 98 0 := by omega
    have b5 : 0 ≤ i + 5 := by omega
    have c5 : i + 5 < μ 98 0 := by omega
    rw [u193_256]
    simp only [k193_256, zO_nop, zO_goto, zO_iload_n0, zO_iload_n1, zO_iload_n2, zO_iload_n3, zO_iload, zO_lload_n0, zO_lload_n1, zO_lload_n2, zO_lload_n3, zO_lload, zO_aload_n0, zO_aload_n1, zO_aload_n2, zO_aload_n3, zO_aload, zO_istore_n0, zO_istore_n1, zO_istore_n2, zO_istore_n3, zO_istore, zO_astore_n0, zO_astore_n1, zO_astore_n2, zO_astore_n3, zO_astore, zO_lstore, zO_iinc, zO_iconst, zO_bipush, zO_sipush, zO_lconst0, zO_lconst1, zO_ldc, zO_ldc2_w, zO_iadd, zO_isub, zO_imul, zO_idiv, zO_irem, zO_ineg, zO_iand, zO_ior, zO_ixor, zO_ishl, zO_ishr, zO_iushr, zO_ladd, zO_lmul, zO_land, zO_lor, zO_lshl, zO_lcmp, zO_i2l, zO_l2i, zO_i2b, zO_dup0, zO_dup2, zO_dup200, zO_dup202, zO_dup220, zO_dup222, zO_ifCond_eq, zO_ifCond_ne, zO_ifCond_lt, zO_ifCond_ge, zO_ifCond_gt, zO_ifCond_le, zO_if_icmp_eq, zO_if_icmp_ne, zO_if_icmp_lt, zO_if_icmp_ge, zO_if_icmp_gt, zO_if_icmp_le, zO_getfield, zO_putfield, zO_iaload, zO_baload, zO_laload, zO_iastore, zO_bastore, zO_lastore, zO_arraylength, zO_invokevirtual, zO_lreturn, zO_areturn, zO_return_, zO_tableswitch, zO_lookupswitch, zO_is0, zO_is1, zO_is2, zO_is3, zO_is4, zO_is9, zO_is10, zO_is11, zO_is12, zO_ir1, zO_ir4, zB_c, zLd_0, zLd_s, zSt_c, zSt2_c, zU_c, zD_c, zY_c, zSw_n, zSw_c, zCall_c, zVirt_c, zP_0, zP_1, zP_2, zP_3, zP_4, zGet_n, zGet_z, zPut_n, zPut_z, zcw_n, zcw_0, zcw_1, zcw_2, List.length_cons, List.length_nil, List.take_succ_cons, List.take_zero, List.drop_succ_cons, List.drop_zero, List.reverse_cons, List.reverse_nil, List.nil_append, List.cons_append, List.append_nil, List.set_cons_zero, List.set_cons_succ, List.getD_cons_zero, List.getD_cons_succ, true_and, and_true, ne_eq, not_false_eq_true, not_true_eq_false, zif, Nat.reduceAdd, Nat.reduceLeDiff, Nat.reduceLT, Nat.reduceSub, Nat.reduceEqDiff, Nat.zero_le, Nat.lt_add_one, Nat.reduceMod, false_implies, true_implies, implies_true, forall_const, Int.reduceLE, Int.reduceLT, Int.reduceEq, Int.reduceNeg, ite10_0, ite10_1, zem, zem2, Classical.not_not, and_self, zT_0, zN_0, zT_39, zN_39, zAl_99]
    try simp (disch := omega) only [zw_e]
    try simp only [b1, c1, b2, c2, b3, c3, b4, c4, b5, c5, true_and]
    refine zuse (ho _ _ _ _ μ hr) (fun r u h => ?_)
    obtain ⟨⟨e8, e9⟩, h2⟩ := h
    try simp only [e8, e9, b1, c1, b2, c2, b3, c3, b4, c4, b5, c5, true_and]
    refine zuse h2 (fun r' w h3 => ?_)
    obtain ⟨rfl, hr2, w8, w9⟩ := h3
    try simp only [zcmp_eq]
    first | exact ⟨fun _ => hn w hr2 w8 w9, fun h => absurd rfl h⟩ | exact ⟨fun _ => hn w hr2 w8 w9, fun h => absurd trivial h⟩
theorem law_3 (ho : ∀ a1 : Int, zOp 53 126 [(0, a1)]) {i : Int} {μ : zM} (hr : Rel μ) (hL : μ 98 0 ≤ 3072) (i0 : 0 ≤ i) (i1 : i + 6 ≤ μ 98 0) (hn : ∀ w, Rel w → w 98 = μ 98 → w 99 = μ 99 → zR 40 193 (fun r _ => r = 1) 1417 [(2, 99), (2, 0), (2, 39), (0, i)] [] w) : zR 40 193 (fun r _ => r = 1) 309 [(2, 99), (2, 0), (2, 39), (0, i)] [] μ := by
    have b1 : 0 ≤ i + 1 := by omega
    have c1 : i + 1 < μ 98 0 := by omega
    have b2 : 0 ≤ i + 2 := by omega
    have c2 : i + 2 < μ 98 0 := by omega
    have b3 : 0 ≤ i + 3 := by omega
    have c3 : i + 3 < μ 98 0 := by omega
    have b4 : 0 ≤ i + 4 := by omega
    have c4 : i + 4 < μ 98 0 := by omega
    have b5 : 0 ≤ i + 5 := by omega
    have c5 : i + 5 < μ 98 0 := by omega
    rw [u193_309]
    simp only [k193_309, zO_nop, zO_goto, zO_iload_n0, zO_iload_n1, zO_iload_n2, zO_iload_n3, zO_iload, zO_lload_n0, zO_lload_n1, zO_lload_n2, zO_lload_n3, zO_lload, zO_aload_n0, zO_aload_n1, zO_aload_n2, zO_aload_n3, zO_aload, zO_istore_n0, zO_istore_n1, zO_istore_n2, zO_istore_n3, zO_istore, zO_astore_n0, zO_astore_n1, zO_astore_n2, zO_astore_n3, zO_astore, zO_lstore, zO_iinc, zO_iconst, zO_bipush, zO_sipush, zO_lconst0, zO_lconst1, zO_ldc, zO_ldc2_w, zO_iadd, zO_isub, zO_imul, zO_idiv, zO_irem, zO_ineg, zO_iand, zO_ior, zO_ixor, zO_ishl, zO_ishr, zO_iushr, zO_ladd, zO_lmul, zO_land, zO_lor, zO_lshl, zO_lcmp, zO_i2l, zO_l2i, zO_i2b, zO_dup0, zO_dup2, zO_dup200, zO_dup202, zO_dup220, zO_dup222, zO_ifCond_eq, zO_ifCond_ne, zO_ifCond_lt, zO_ifCond_ge, zO_ifCond_gt, zO_ifCond_le, zO_if_icmp_eq, zO_if_icmp_ne, zO_if_icmp_lt, zO_if_icmp_ge, zO_if_icmp_gt, zO_if_icmp_le, zO_getfield, zO_putfield, zO_iaload, zO_baload, zO_laload, zO_iastore, zO_bastore, zO_lastore, zO_arraylength, zO_invokevirtual, zO_lreturn, zO_areturn, zO_return_, zO_tableswitch, zO_lookupswitch, zO_is0, zO_is1, zO_is2, zO_is3, zO_is4, zO_is9, zO_is10, zO_is11, zO_is12, zO_ir1, zO_ir4, zB_c, zLd_0, zLd_s, zSt_c, zSt2_c, zU_c, zD_c, zY_c, zSw_n, zSw_c, zCall_c, zVirt_c, zP_0, zP_1, zP_2, zP_3, zP_4, zGet_n, zGet_z, zPut_n, zPut_z, zcw_n, zcw_0, zcw_1, zcw_2, List.length_cons, List.length_nil, List.take_succ_cons, List.take_zero, List.drop_succ_cons, List.drop_zero, List.reverse_cons, List.reverse_nil, List.nil_append, List.cons_append, List.append_nil, List.set_cons_zero, List.set_cons_succ, List.getD_cons_zero, List.getD_cons_succ, true_and, and_true, ne_eq, not_false_eq_true, not_true_eq_false, zif, Nat.reduceAdd, Nat.reduceLeDiff, Nat.reduceLT, Nat.reduceSub, Nat.reduceEqDiff, Nat.zero_le, Nat.lt_add_one, Nat.reduceMod, false_implies, true_implies, implies_true, forall_const, Int.reduceLE, Int.reduceLT, Int.reduceEq, Int.reduceNeg, ite10_0, ite10_1, zem, zem2, Classical.not_not, and_self, zT_0, zN_0, zT_39, zN_39, zAl_99]
    try simp (disch := omega) only [zw_e]
    try simp only [b1, c1, b2, c2, b3, c3, b4, c4, b5, c5, true_and]
    refine zuse (ho _ μ hr) (fun r u h => ?_)
    obtain ⟨⟨e8, e9⟩, h2⟩ := h
    try simp only [e8, e9, b1, c1, b2, c2, b3, c3, b4, c4, b5, c5, true_and]
    refine zuse h2 (fun r' w h3 => ?_)
    obtain ⟨rfl, hr2, w8, w9⟩ := h3
    try simp only [zcmp_eq]
    first | exact ⟨fun _ => hn w hr2 w8 w9, fun h => absurd rfl h⟩ | exact ⟨fun _ => hn w hr2 w8 w9, fun h => absurd trivial h⟩
theorem law_4 (ho : zOp 54 134 []) {i : Int} {μ : zM} (hr : Rel μ) (hL : μ 98 0 ≤ 3072) (i0 : 0 ≤ i) (i1 : i + 6 ≤ μ 98 0) (hn : ∀ w, Rel w → w 98 = μ 98 → w 99 = μ 99 → zR 40 193 (fun r _ => r = 1) 1417 [(2, 99), (2, 0), (2, 39), (0, i)] [] w) : zR 40 193 (fun r _ => r = 1) 332 [(2, 99), (2, 0), (2, 39), (0, i)] [] μ := by
    have b1 : 0 ≤ i + 1 := by omega
    have c1 : i + 1 < μ 98 0 := by omega
    have b2 : 0 ≤ i + 2 := by omega
    have c2 : i + 2 < μ 98 0 := by omega
    have b3 : 0 ≤ i + 3 := by omega
    have c3 : i + 3 < μ 98 0 := by omega
    have b4 : 0 ≤ i + 4 := by omega
    have c4 : i + 4 < μ 98 0 := by omega
    have b5 : 0 ≤ i + 5 := by omega
    have c5 : i + 5 < μ 98 0 := by omega
    rw [u193_332]
    simp only [k193_332, zO_nop, zO_goto, zO_iload_n0, zO_iload_n1, zO_iload_n2, zO_iload_n3, zO_iload, zO_lload_n0, zO_lload_n1, zO_lload_n2, zO_lload_n3, zO_lload, zO_aload_n0, zO_aload_n1, zO_aload_n2, zO_aload_n3, zO_aload, zO_istore_n0, zO_istore_n1, zO_istore_n2, zO_istore_n3, zO_istore, zO_astore_n0, zO_astore_n1, zO_astore_n2, zO_astore_n3, zO_astore, zO_lstore, zO_iinc, zO_iconst, zO_bipush, zO_sipush, zO_lconst0, zO_lconst1, zO_ldc, zO_ldc2_w, zO_iadd, zO_isub, zO_imul, zO_idiv, zO_irem, zO_ineg, zO_iand, zO_ior, zO_ixor, zO_ishl, zO_ishr, zO_iushr, zO_ladd, zO_lmul, zO_land, zO_lor, zO_lshl, zO_lcmp, zO_i2l, zO_l2i, zO_i2b, zO_dup0, zO_dup2, zO_dup200, zO_dup202, zO_dup220, zO_dup222, zO_ifCond_eq, zO_ifCond_ne, zO_ifCond_lt, zO_ifCond_ge, zO_ifCond_gt, zO_ifCond_le, zO_if_icmp_eq, zO_if_icmp_ne, zO_if_icmp_lt, zO_if_icmp_ge, zO_if_icmp_gt, zO_if_icmp_le, zO_getfield, zO_putfield, zO_iaload, zO_baload, zO_laload, zO_iastore, zO_bastore, zO_lastore, zO_arraylength, zO_invokevirtual, zO_lreturn, zO_areturn, zO_return_, zO_tableswitch, zO_lookupswitch, zO_is0, zO_is1, zO_is2, zO_is3, zO_is4, zO_is9, zO_is10, zO_is11, zO_is12, zO_ir1, zO_ir4, zB_c, zLd_0, zLd_s, zSt_c, zSt2_c, zU_c, zD_c, zY_c, zSw_n, zSw_c, zCall_c, zVirt_c, zP_0, zP_1, zP_2, zP_3, zP_4, zGet_n, zGet_z, zPut_n, zPut_z, zcw_n, zcw_0, zcw_1, zcw_2, List.length_cons, List.length_nil, List.take_succ_cons, List.take_zero, List.drop_succ_cons, List.drop_zero, List.reverse_cons, List.reverse_nil, List.nil_append, List.cons_append, List.append_nil, List.set_cons_zero, List.set_cons_succ, List.getD_cons_zero, List.getD_cons_succ, true_and, and_true, ne_eq, not_false_eq_true, not_true_eq_false, zif, Nat.reduceAdd, Nat.reduceLeDiff, Nat.reduceLT, Nat.reduceSub, Nat.reduceEqDiff, Nat.zero_le, Nat.lt_add_one, Nat.reduceMod, false_implies, true_implies, implies_true, forall_const, Int.reduceLE, Int.reduceLT, Int.reduceEq, Int.reduceNeg, ite10_0, ite10_1, zem, zem2, Classical.not_not, and_self, zT_0, zN_0, zT_39, zN_39, zAl_99]
    try simp (disch := omega) only [zw_e]
    try simp only [b1, c1, b2, c2, b3, c3, b4, c4, b5, c5, true_and]
    refine zuse (ho μ hr) (fun r u h => ?_)
    obtain ⟨⟨e8, e9⟩, h2⟩ := h
    try simp only [e8, e9, b1, c1, b2, c2, b3, c3, b4, c4, b5, c5, true_and]
    refine zuse h2 (fun r' w h3 => ?_)
    obtain ⟨rfl, hr2, w8, w9⟩ := h3
    try simp only [zcmp_eq]
    first | exact ⟨fun _ => hn w hr2 w8 w9, fun h => absurd rfl h⟩ | exact ⟨fun _ => hn w hr2 w8 w9, fun h => absurd trivial h⟩
theorem law_5 (ho : ∀ a1 a2 a3 : Int, zOp 55 118 [(0, a1), (0, a2), (0, a3)]) {i : Int} {μ : zM} (hr : Rel μ) (hL : μ 98 0 ≤ 3072) (i0 : 0 ≤ i) (i1 : i + 6 ≤ μ 98 0) (hn : ∀ w, Rel w → w 98 = μ 98 → w 99 = μ 99 → zR 40 193 (fun r _ => r = 1) 1417 [(2, 99), (2, 0), (2, 39), (0, i)] [] w) : zR 40 193 (fun r _ => r = 1) 345 [(2, 99), (2, 0), (2, 39), (0, i)] [] μ := by
    have b1 : 0 ≤ i + 1 := by omega
    have c1 : i + 1 < μ 98 0 := by omega
    have b2 : 0 ≤ i + 2 := by omega
    have c2 : i + 2 < μ 98 0 := by omega
    have b3 : 0 ≤ i + 3 := by omega
    have c3 : i + 3 < μ 98 0 := by omega
    have b4 : 0 ≤ i + 4 := by omega
    have c4 : i + 4 < μ 98 0 := by omega
    have b5 : 0 ≤ i + 5 := by omega
    have c5 : i + 5 < μ 98 0 := by omega
    rw [u193_345]
    simp only [k193_345, zO_nop, zO_goto, zO_iload_n0, zO_iload_n1, zO_iload_n2, zO_iload_n3, zO_iload, zO_lload_n0, zO_lload_n1, zO_lload_n2, zO_lload_n3, zO_lload, zO_aload_n0, zO_aload_n1, zO_aload_n2, zO_aload_n3, zO_aload, zO_istore_n0, zO_istore_n1, zO_istore_n2, zO_istore_n3, zO_istore, zO_astore_n0, zO_astore_n1, zO_astore_n2, zO_astore_n3, zO_astore, zO_lstore, zO_iinc, zO_iconst, zO_bipush, zO_sipush, zO_lconst0, zO_lconst1, zO_ldc, zO_ldc2_w, zO_iadd, zO_isub, zO_imul, zO_idiv, zO_irem, zO_ineg, zO_iand, zO_ior, zO_ixor, zO_ishl, zO_ishr, zO_iushr, zO_ladd, zO_lmul, zO_land, zO_lor, zO_lshl, zO_lcmp, zO_i2l, zO_l2i, zO_i2b, zO_dup0, zO_dup2, zO_dup200, zO_dup202, zO_dup220, zO_dup222, zO_ifCond_eq, zO_ifCond_ne, zO_ifCond_lt, zO_ifCond_ge, zO_ifCond_gt, zO_ifCond_le, zO_if_icmp_eq, zO_if_icmp_ne, zO_if_icmp_lt, zO_if_icmp_ge, zO_if_icmp_gt, zO_if_icmp_le, zO_getfield, zO_putfield, zO_iaload, zO_baload, zO_laload, zO_iastore, zO_bastore, zO_lastore, zO_arraylength, zO_invokevirtual, zO_lreturn, zO_areturn, zO_return_, zO_tableswitch, zO_lookupswitch, zO_is0, zO_is1, zO_is2, zO_is3, zO_is4, zO_is9, zO_is10, zO_is11, zO_is12, zO_ir1, zO_ir4, zB_c, zLd_0, zLd_s, zSt_c, zSt2_c, zU_c, zD_c, zY_c, zSw_n, zSw_c, zCall_c, zVirt_c, zP_0, zP_1, zP_2, zP_3, zP_4, zGet_n, zGet_z, zPut_n, zPut_z, zcw_n, zcw_0, zcw_1, zcw_2, List.length_cons, List.length_nil, List.take_succ_cons, List.take_zero, List.drop_succ_cons, List.drop_zero, List.reverse_cons, List.reverse_nil, List.nil_append, List.cons_append, List.append_nil, List.set_cons_zero, List.set_cons_succ, List.getD_cons_zero, List.getD_cons_succ, true_and, and_true, ne_eq, not_false_eq_true, not_true_eq_false, zif, Nat.reduceAdd, Nat.reduceLeDiff, Nat.reduceLT, Nat.reduceSub, Nat.reduceEqDiff, Nat.zero_le, Nat.lt_add_one, Nat.reduceMod, false_implies, true_implies, implies_true, forall_const, Int.reduceLE, Int.reduceLT, Int.reduceEq, Int.reduceNeg, ite10_0, ite10_1, zem, zem2, Classical.not_not, and_self, zT_0, zN_0, zT_39, zN_39, zAl_99]
    try simp (disch := omega) only [zw_e]
    try simp only [b1, c1, b2, c2, b3, c3, b4, c4, b5, c5, true_and]
    refine zuse (ho _ _ _ μ hr) (fun r u h => ?_)
    obtain ⟨⟨e8, e9⟩, h2⟩ := h
    try simp only [e8, e9, b1, c1, b2, c2, b3, c3, b4, c4, b5, c5, true_and]
    refine zuse h2 (fun r' w h3 => ?_)
    obtain ⟨rfl, hr2, w8, w9⟩ := h3
    try simp only [zcmp_eq]
    first | exact ⟨fun _ => hn w hr2 w8 w9, fun h => absurd rfl h⟩ | exact ⟨fun _ => hn w hr2 w8 w9, fun h => absurd trivial h⟩
theorem law_6 (ho : ∀ a1 : Int, zOp 56 121 [(0, a1)]) {i : Int} {μ : zM} (hr : Rel μ) (hL : μ 98 0 ≤ 3072) (i0 : 0 ≤ i) (i1 : i + 6 ≤ μ 98 0) (hn : ∀ w, Rel w → w 98 = μ 98 → w 99 = μ 99 → zR 40 193 (fun r _ => r = 1) 1417 [(2, 99), (2, 0), (2, 39), (0, i)] [] w) : zR 40 193 (fun r _ => r = 1) 388 [(2, 99), (2, 0), (2, 39), (0, i)] [] μ := by
    have b1 : 0 ≤ i + 1 := by omega
    have c1 : i + 1 < μ 98 0 := by omega
    have b2 : 0 ≤ i + 2 := by omega
    have c2 : i + 2 < μ 98 0 := by omega
    have b3 : 0 ≤ i + 3 := by omega
    have c3 : i + 3 < μ 98 0 := by omega
    have b4 : 0 ≤ i + 4 := by omega
    have c4 : i + 4 < μ 98 0 := by omega
    have b5 : 0 ≤ i + 5 := by omega
    have c5 : i + 5 < μ 98 0 := by omega
    rw [u193_388]
    simp only [k193_388, zO_nop, zO_goto, zO_iload_n0, zO_iload_n1, zO_iload_n2, zO_iload_n3, zO_iload, zO_lload_n0, zO_lload_n1, zO_lload_n2, zO_lload_n3, zO_lload, zO_aload_n0, zO_aload_n1, zO_aload_n2, zO_aload_n3, zO_aload, zO_istore_n0, zO_istore_n1, zO_istore_n2, zO_istore_n3, zO_istore, zO_astore_n0, zO_astore_n1, zO_astore_n2, zO_astore_n3, zO_astore, zO_lstore, zO_iinc, zO_iconst, zO_bipush, zO_sipush, zO_lconst0, zO_lconst1, zO_ldc, zO_ldc2_w, zO_iadd, zO_isub, zO_imul, zO_idiv, zO_irem, zO_ineg, zO_iand, zO_ior, zO_ixor, zO_ishl, zO_ishr, zO_iushr, zO_ladd, zO_lmul, zO_land, zO_lor, zO_lshl, zO_lcmp, zO_i2l, zO_l2i, zO_i2b, zO_dup0, zO_dup2, zO_dup200, zO_dup202, zO_dup220, zO_dup222, zO_ifCond_eq, zO_ifCond_ne, zO_ifCond_lt, zO_ifCond_ge, zO_ifCond_gt, zO_ifCond_le, zO_if_icmp_eq, zO_if_icmp_ne, zO_if_icmp_lt, zO_if_icmp_ge, zO_if_icmp_gt, zO_if_icmp_le, zO_getfield, zO_putfield, zO_iaload, zO_baload, zO_laload, zO_iastore, zO_bastore, zO_lastore, zO_arraylength, zO_invokevirtual, zO_lreturn, zO_areturn, zO_return_, zO_tableswitch, zO_lookupswitch, zO_is0, zO_is1, zO_is2, zO_is3, zO_is4, zO_is9, zO_is10, zO_is11, zO_is12, zO_ir1, zO_ir4, zB_c, zLd_0, zLd_s, zSt_c, zSt2_c, zU_c, zD_c, zY_c, zSw_n, zSw_c, zCall_c, zVirt_c, zP_0, zP_1, zP_2, zP_3, zP_4, zGet_n, zGet_z, zPut_n, zPut_z, zcw_n, zcw_0, zcw_1, zcw_2, List.length_cons, List.length_nil, List.take_succ_cons, List.take_zero, List.drop_succ_cons, List.drop_zero, List.reverse_cons, List.reverse_nil, List.nil_append, List.cons_append, List.append_nil, List.set_cons_zero, List.set_cons_succ, List.getD_cons_zero, List.getD_cons_succ, true_and, and_true, ne_eq, not_false_eq_true, not_true_eq_false, zif, Nat.reduceAdd, Nat.reduceLeDiff, Nat.reduceLT, Nat.reduceSub, Nat.reduceEqDiff, Nat.zero_le, Nat.lt_add_one, Nat.reduceMod, false_implies, true_implies, implies_true, forall_const, Int.reduceLE, Int.reduceLT, Int.reduceEq, Int.reduceNeg, ite10_0, ite10_1, zem, zem2, Classical.not_not, and_self, zT_0, zN_0, zT_39, zN_39, zAl_99]
    try simp (disch := omega) only [zw_e]
    try simp only [b1, c1, b2, c2, b3, c3, b4, c4, b5, c5, true_and]
    refine zuse (ho _ μ hr) (fun r u h => ?_)
    obtain ⟨⟨e8, e9⟩, h2⟩ := h
    try simp only [e8, e9, b1, c1, b2, c2, b3, c3, b4, c4, b5, c5, true_and]
    refine zuse h2 (fun r' w h3 => ?_)
    obtain ⟨rfl, hr2, w8, w9⟩ := h3
    try simp only [zcmp_eq]
    first | exact ⟨fun _ => hn w hr2 w8 w9, fun h => absurd rfl h⟩ | exact ⟨fun _ => hn w hr2 w8 w9, fun h => absurd trivial h⟩
theorem law_7 (ho : ∀ a1 : Int, zOp 57 122 [(0, a1)]) {i : Int} {μ : zM} (hr : Rel μ) (hL : μ 98 0 ≤ 3072) (i0 : 0 ≤ i) (i1 : i + 6 ≤ μ 98 0) (hn : ∀ w, Rel w → w 98 = μ 98 → w 99 = μ 99 → zR 40 193 (fun r _ => r = 1) 1417 [(2, 99), (2, 0), (2, 39), (0, i)] [] w) : zR 40 193 (fun r _ => r = 1) 411 [(2, 99), (2, 0), (2, 39), (0, i)] [] μ := by
    have b1 : 0 ≤ i + 1 := by omega
    have c1 : i + 1 < μ 98 0 := by omega
    have b2 : 0 ≤ i + 2 := by omega
    have c2 : i + 2 < μ 98 0 := by omega
    have b3 : 0 ≤ i + 3 := by omega
    have c3 : i + 3 < μ 98 0 := by omega
    have b4 : 0 ≤ i + 4 := by omega
    have c4 : i + 4 < μ 98 0 := by omega
    have b5 : 0 ≤ i + 5 := by omega
    have c5 : i + 5 < μ 98 0 := by omega
    rw [u193_411]
    simp only [k193_411, zO_nop, zO_goto, zO_iload_n0, zO_iload_n1, zO_iload_n2, zO_iload_n3, zO_iload, zO_lload_n0, zO_lload_n1, zO_lload_n2, zO_lload_n3, zO_lload, zO_aload_n0, zO_aload_n1, zO_aload_n2, zO_aload_n3, zO_aload, zO_istore_n0, zO_istore_n1, zO_istore_n2, zO_istore_n3, zO_istore, zO_astore_n0, zO_astore_n1, zO_astore_n2, zO_astore_n3, zO_astore, zO_lstore, zO_iinc, zO_iconst, zO_bipush, zO_sipush, zO_lconst0, zO_lconst1, zO_ldc, zO_ldc2_w, zO_iadd, zO_isub, zO_imul, zO_idiv, zO_irem, zO_ineg, zO_iand, zO_ior, zO_ixor, zO_ishl, zO_ishr, zO_iushr, zO_ladd, zO_lmul, zO_land, zO_lor, zO_lshl, zO_lcmp, zO_i2l, zO_l2i, zO_i2b, zO_dup0, zO_dup2, zO_dup200, zO_dup202, zO_dup220, zO_dup222, zO_ifCond_eq, zO_ifCond_ne, zO_ifCond_lt, zO_ifCond_ge, zO_ifCond_gt, zO_ifCond_le, zO_if_icmp_eq, zO_if_icmp_ne, zO_if_icmp_lt, zO_if_icmp_ge, zO_if_icmp_gt, zO_if_icmp_le, zO_getfield, zO_putfield, zO_iaload, zO_baload, zO_laload, zO_iastore, zO_bastore, zO_lastore, zO_arraylength, zO_invokevirtual, zO_lreturn, zO_areturn, zO_return_, zO_tableswitch, zO_lookupswitch, zO_is0, zO_is1, zO_is2, zO_is3, zO_is4, zO_is9, zO_is10, zO_is11, zO_is12, zO_ir1, zO_ir4, zB_c, zLd_0, zLd_s, zSt_c, zSt2_c, zU_c, zD_c, zY_c, zSw_n, zSw_c, zCall_c, zVirt_c, zP_0, zP_1, zP_2, zP_3, zP_4, zGet_n, zGet_z, zPut_n, zPut_z, zcw_n, zcw_0, zcw_1, zcw_2, List.length_cons, List.length_nil, List.take_succ_cons, List.take_zero, List.drop_succ_cons, List.drop_zero, List.reverse_cons, List.reverse_nil, List.nil_append, List.cons_append, List.append_nil, List.set_cons_zero, List.set_cons_succ, List.getD_cons_zero, List.getD_cons_succ, true_and, and_true, ne_eq, not_false_eq_true, not_true_eq_false, zif, Nat.reduceAdd, Nat.reduceLeDiff, Nat.reduceLT, Nat.reduceSub, Nat.reduceEqDiff, Nat.zero_le, Nat.lt_add_one, Nat.reduceMod, false_implies, true_implies, implies_true, forall_const, Int.reduceLE, Int.reduceLT, Int.reduceEq, Int.reduceNeg, ite10_0, ite10_1, zem, zem2, Classical.not_not, and_self, zT_0, zN_0, zT_39, zN_39, zAl_99]
    try simp (disch := omega) only [zw_e]
    try simp only [b1, c1, b2, c2, b3, c3, b4, c4, b5, c5, true_and]
    refine zuse (ho _ μ hr) (fun r u h => ?_)
    obtain ⟨⟨e8, e9⟩, h2⟩ := h
    try simp only [e8, e9, b1, c1, b2, c2, b3, c3, b4, c4, b5, c5, true_and]
    refine zuse h2 (fun r' w h3 => ?_)
    obtain ⟨rfl, hr2, w8, w9⟩ := h3
    try simp only [zcmp_eq]
    first | exact ⟨fun _ => hn w hr2 w8 w9, fun h => absurd rfl h⟩ | exact ⟨fun _ => hn w hr2 w8 w9, fun h => absurd trivial h⟩
theorem law_8 (ho : ∀ a1 a2 a3 : Int, zOp 58 125 [(0, a1), (0, a2), (0, a3)]) {i : Int} {μ : zM} (hr : Rel μ) (hL : μ 98 0 ≤ 3072) (i0 : 0 ≤ i) (i1 : i + 6 ≤ μ 98 0) (hn : ∀ w, Rel w → w 98 = μ 98 → w 99 = μ 99 → zR 40 193 (fun r _ => r = 1) 1417 [(2, 99), (2, 0), (2, 39), (0, i)] [] w) : zR 40 193 (fun r _ => r = 1) 434 [(2, 99), (2, 0), (2, 39), (0, i)] [] μ := by
    have b1 : 0 ≤ i + 1 := by omega
    have c1 : i + 1 < μ 98 0 := by omega
    have b2 : 0 ≤ i + 2 := by omega
    have c2 : i + 2 < μ 98 0 := by omega
    have b3 : 0 ≤ i + 3 := by omega
    have c3 : i + 3 < μ 98 0 := by omega
    have b4 : 0 ≤ i + 4 := by omega
    have c4 : i + 4 < μ 98 0 := by omega
    have b5 : 0 ≤ i + 5 := by omega
    have c5 : i + 5 < μ 98 0 := by omega
    rw [u193_434]
    simp only [k193_434, zO_nop, zO_goto, zO_iload_n0, zO_iload_n1, zO_iload_n2, zO_iload_n3, zO_iload, zO_lload_n0, zO_lload_n1, zO_lload_n2, zO_lload_n3, zO_lload, zO_aload_n0, zO_aload_n1, zO_aload_n2, zO_aload_n3, zO_aload, zO_istore_n0, zO_istore_n1, zO_istore_n2, zO_istore_n3, zO_istore, zO_astore_n0, zO_astore_n1, zO_astore_n2, zO_astore_n3, zO_astore, zO_lstore, zO_iinc, zO_iconst, zO_bipush, zO_sipush, zO_lconst0, zO_lconst1, zO_ldc, zO_ldc2_w, zO_iadd, zO_isub, zO_imul, zO_idiv, zO_irem, zO_ineg, zO_iand, zO_ior, zO_ixor, zO_ishl, zO_ishr, zO_iushr, zO_ladd, zO_lmul, zO_land, zO_lor, zO_lshl, zO_lcmp, zO_i2l, zO_l2i, zO_i2b, zO_dup0, zO_dup2, zO_dup200, zO_dup202, zO_dup220, zO_dup222, zO_ifCond_eq, zO_ifCond_ne, zO_ifCond_lt, zO_ifCond_ge, zO_ifCond_gt, zO_ifCond_le, zO_if_icmp_eq, zO_if_icmp_ne, zO_if_icmp_lt, zO_if_icmp_ge, zO_if_icmp_gt, zO_if_icmp_le, zO_getfield, zO_putfield, zO_iaload, zO_baload, zO_laload, zO_iastore, zO_bastore, zO_lastore, zO_arraylength, zO_invokevirtual, zO_lreturn, zO_areturn, zO_return_, zO_tableswitch, zO_lookupswitch, zO_is0, zO_is1, zO_is2, zO_is3, zO_is4, zO_is9, zO_is10, zO_is11, zO_is12, zO_ir1, zO_ir4, zB_c, zLd_0, zLd_s, zSt_c, zSt2_c, zU_c, zD_c, zY_c, zSw_n, zSw_c, zCall_c, zVirt_c, zP_0, zP_1, zP_2, zP_3, zP_4, zGet_n, zGet_z, zPut_n, zPut_z, zcw_n, zcw_0, zcw_1, zcw_2, List.length_cons, List.length_nil, List.take_succ_cons, List.take_zero, List.drop_succ_cons, List.drop_zero, List.reverse_cons, List.reverse_nil, List.nil_append, List.cons_append, List.append_nil, List.set_cons_zero, List.set_cons_succ, List.getD_cons_zero, List.getD_cons_succ, true_and, and_true, ne_eq, not_false_eq_true, not_true_eq_false, zif, Nat.reduceAdd, Nat.reduceLeDiff, Nat.reduceLT, Nat.reduceSub, Nat.reduceEqDiff, Nat.zero_le, Nat.lt_add_one, Nat.reduceMod, false_implies, true_implies, implies_true, forall_const, Int.reduceLE, Int.reduceLT, Int.reduceEq, Int.reduceNeg, ite10_0, ite10_1, zem, zem2, Classical.not_not, and_self, zT_0, zN_0, zT_39, zN_39, zAl_99]
    try simp (disch := omega) only [zw_e]
    try simp only [b1, c1, b2, c2, b3, c3, b4, c4, b5, c5, true_and]
    refine zuse (ho _ _ _ μ hr) (fun r u h => ?_)
    obtain ⟨⟨e8, e9⟩, h2⟩ := h
    try simp only [e8, e9, b1, c1, b2, c2, b3, c3, b4, c4, b5, c5, true_and]
    refine zuse h2 (fun r' w h3 => ?_)
    obtain ⟨rfl, hr2, w8, w9⟩ := h3
    try simp only [zcmp_eq]
    first | exact ⟨fun _ => hn w hr2 w8 w9, fun h => absurd rfl h⟩ | exact ⟨fun _ => hn w hr2 w8 w9, fun h => absurd trivial h⟩
theorem law_9 (ho : ∀ a1 : Int, zOp 59 137 [(0, a1)]) {i : Int} {μ : zM} (hr : Rel μ) (hL : μ 98 0 ≤ 3072) (i0 : 0 ≤ i) (i1 : i + 6 ≤ μ 98 0) (hn : ∀ w, Rel w → w 98 = μ 98 → w 99 = μ 99 → zR 40 193 (fun r _ => r = 1) 1417 [(2, 99), (2, 0), (2, 39), (0, i)] [] w) : zR 40 193 (fun r _ => r = 1) 478 [(2, 99), (2, 0), (2, 39), (0, i)] [] μ := by
    have b1 : 0 ≤ i + 1 := by omega
    have c1 : i + 1 < μ 98 0 := by omega
    have b2 : 0 ≤ i + 2 := by omega
    have c2 : i + 2 < μ 98 0 := by omega
    have b3 : 0 ≤ i + 3 := by omega
    have c3 : i + 3 < μ 98 0 := by omega
    have b4 : 0 ≤ i + 4 := by omega
    have c4 : i + 4 < μ 98 0 := by omega
    have b5 : 0 ≤ i + 5 := by omega
    have c5 : i + 5 < μ 98 0 := by omega
    rw [u193_478]
    simp only [k193_478, zO_nop, zO_goto, zO_iload_n0, zO_iload_n1, zO_iload_n2, zO_iload_n3, zO_iload, zO_lload_n0, zO_lload_n1, zO_lload_n2, zO_lload_n3, zO_lload, zO_aload_n0, zO_aload_n1, zO_aload_n2, zO_aload_n3, zO_aload, zO_istore_n0, zO_istore_n1, zO_istore_n2, zO_istore_n3, zO_istore, zO_astore_n0, zO_astore_n1, zO_astore_n2, zO_astore_n3, zO_astore, zO_lstore, zO_iinc, zO_iconst, zO_bipush, zO_sipush, zO_lconst0, zO_lconst1, zO_ldc, zO_ldc2_w, zO_iadd, zO_isub, zO_imul, zO_idiv, zO_irem, zO_ineg, zO_iand, zO_ior, zO_ixor, zO_ishl, zO_ishr, zO_iushr, zO_ladd, zO_lmul, zO_land, zO_lor, zO_lshl, zO_lcmp, zO_i2l, zO_l2i, zO_i2b, zO_dup0, zO_dup2, zO_dup200, zO_dup202, zO_dup220, zO_dup222, zO_ifCond_eq, zO_ifCond_ne, zO_ifCond_lt, zO_ifCond_ge, zO_ifCond_gt, zO_ifCond_le, zO_if_icmp_eq, zO_if_icmp_ne, zO_if_icmp_lt, zO_if_icmp_ge, zO_if_icmp_gt, zO_if_icmp_le, zO_getfield, zO_putfield, zO_iaload, zO_baload, zO_laload, zO_iastore, zO_bastore, zO_lastore, zO_arraylength, zO_invokevirtual, zO_lreturn, zO_areturn, zO_return_, zO_tableswitch, zO_lookupswitch, zO_is0, zO_is1, zO_is2, zO_is3, zO_is4, zO_is9, zO_is10, zO_is11, zO_is12, zO_ir1, zO_ir4, zB_c, zLd_0, zLd_s, zSt_c, zSt2_c, zU_c, zD_c, zY_c, zSw_n, zSw_c, zCall_c, zVirt_c, zP_0, zP_1, zP_2, zP_3, zP_4, zGet_n, zGet_z, zPut_n, zPut_z, zcw_n, zcw_0, zcw_1, zcw_2, List.length_cons, List.length_nil, List.take_succ_cons, List.take_zero, List.drop_succ_cons, List.drop_zero, List.reverse_cons, List.reverse_nil, List.nil_append, List.cons_append, List.append_nil, List.set_cons_zero, List.set_cons_succ, List.getD_cons_zero, List.getD_cons_succ, true_and, and_true, ne_eq, not_false_eq_true, not_true_eq_false, zif, Nat.reduceAdd, Nat.reduceLeDiff, Nat.reduceLT, Nat.reduceSub, Nat.reduceEqDiff, Nat.zero_le, Nat.lt_add_one, Nat.reduceMod, false_implies, true_implies, implies_true, forall_const, Int.reduceLE, Int.reduceLT, Int.reduceEq, Int.reduceNeg, ite10_0, ite10_1, zem, zem2, Classical.not_not, and_self, zT_0, zN_0, zT_39, zN_39, zAl_99]
    try simp (disch := omega) only [zw_e]
    try simp only [b1, c1, b2, c2, b3, c3, b4, c4, b5, c5, true_and]
    refine zuse (ho _ μ hr) (fun r u h => ?_)
    obtain ⟨⟨e8, e9⟩, h2⟩ := h
    try simp only [e8, e9, b1, c1, b2, c2, b3, c3, b4, c4, b5, c5, true_and]
    refine zuse h2 (fun r' w h3 => ?_)
    obtain ⟨rfl, hr2, w8, w9⟩ := h3
    try simp only [zcmp_eq]
    first | exact ⟨fun _ => hn w hr2 w8 w9, fun h => absurd rfl h⟩ | exact ⟨fun _ => hn w hr2 w8 w9, fun h => absurd trivial h⟩
theorem law_10 (ho : ∀ a1 a2 : Int, zOp 60 138 [(0, a1), (0, a2)]) {i : Int} {μ : zM} (hr : Rel μ) (hL : μ 98 0 ≤ 3072) (i0 : 0 ≤ i) (i1 : i + 6 ≤ μ 98 0) (hn : ∀ w, Rel w → w 98 = μ 98 → w 99 = μ 99 → zR 40 193 (fun r _ => r = 1) 1417 [(2, 99), (2, 0), (2, 39), (0, i)] [] w) : zR 40 193 (fun r _ => r = 1) 501 [(2, 99), (2, 0), (2, 39), (0, i)] [] μ := by
    have b1 : 0 ≤ i + 1 := by omega
    have c1 : i + 1 < μ 98 0 := by omega
    have b2 : 0 ≤ i + 2 := by omega
    have c2 : i + 2 < μ 98 0 := by omega
    have b3 : 0 ≤ i + 3 := by omega
    have c3 : i + 3 < μ 98 0 := by omega
    have b4 : 0 ≤ i + 4 := by omega
    have c4 : i + 4 < μ 98 0 := by omega
    have b5 : 0 ≤ i + 5 := by omega
    have c5 : i + 5 < μ 98 0 := by omega
    rw [u193_501]
    simp only [k193_501, zO_nop, zO_goto, zO_iload_n0, zO_iload_n1, zO_iload_n2, zO_iload_n3, zO_iload, zO_lload_n0, zO_lload_n1, zO_lload_n2, zO_lload_n3, zO_lload, zO_aload_n0, zO_aload_n1, zO_aload_n2, zO_aload_n3, zO_aload, zO_istore_n0, zO_istore_n1, zO_istore_n2, zO_istore_n3, zO_istore, zO_astore_n0, zO_astore_n1, zO_astore_n2, zO_astore_n3, zO_astore, zO_lstore, zO_iinc, zO_iconst, zO_bipush, zO_sipush, zO_lconst0, zO_lconst1, zO_ldc, zO_ldc2_w, zO_iadd, zO_isub, zO_imul, zO_idiv, zO_irem, zO_ineg, zO_iand, zO_ior, zO_ixor, zO_ishl, zO_ishr, zO_iushr, zO_ladd, zO_lmul, zO_land, zO_lor, zO_lshl, zO_lcmp, zO_i2l, zO_l2i, zO_i2b, zO_dup0, zO_dup2, zO_dup200, zO_dup202, zO_dup220, zO_dup222, zO_ifCond_eq, zO_ifCond_ne, zO_ifCond_lt, zO_ifCond_ge, zO_ifCond_gt, zO_ifCond_le, zO_if_icmp_eq, zO_if_icmp_ne, zO_if_icmp_lt, zO_if_icmp_ge, zO_if_icmp_gt, zO_if_icmp_le, zO_getfield, zO_putfield, zO_iaload, zO_baload, zO_laload, zO_iastore, zO_bastore, zO_lastore, zO_arraylength, zO_invokevirtual, zO_lreturn, zO_areturn, zO_return_, zO_tableswitch, zO_lookupswitch, zO_is0, zO_is1, zO_is2, zO_is3, zO_is4, zO_is9, zO_is10, zO_is11, zO_is12, zO_ir1, zO_ir4, zB_c, zLd_0, zLd_s, zSt_c, zSt2_c, zU_c, zD_c, zY_c, zSw_n, zSw_c, zCall_c, zVirt_c, zP_0, zP_1, zP_2, zP_3, zP_4, zGet_n, zGet_z, zPut_n, zPut_z, zcw_n, zcw_0, zcw_1, zcw_2, List.length_cons, List.length_nil, List.take_succ_cons, List.take_zero, List.drop_succ_cons, List.drop_zero, List.reverse_cons, List.reverse_nil, List.nil_append, List.cons_append, List.append_nil, List.set_cons_zero, List.set_cons_succ, List.getD_cons_zero, List.getD_cons_succ, true_and, and_true, ne_eq, not_false_eq_true, not_true_eq_false, zif, Nat.reduceAdd, Nat.reduceLeDiff, Nat.reduceLT, Nat.reduceSub, Nat.reduceEqDiff, Nat.zero_le, Nat.lt_add_one, Nat.reduceMod, false_implies, true_implies, implies_true, forall_const, Int.reduceLE, Int.reduceLT, Int.reduceEq, Int.reduceNeg, ite10_0, ite10_1, zem, zem2, Classical.not_not, and_self, zT_0, zN_0, zT_39, zN_39, zAl_99]
    try simp (disch := omega) only [zw_e]
    try simp only [b1, c1, b2, c2, b3, c3, b4, c4, b5, c5, true_and]
    refine zuse (ho _ _ μ hr) (fun r u h => ?_)
    obtain ⟨⟨e8, e9⟩, h2⟩ := h
    try simp only [e8, e9, b1, c1, b2, c2, b3, c3, b4, c4, b5, c5, true_and]
    refine zuse h2 (fun r' w h3 => ?_)
    obtain ⟨rfl, hr2, w8, w9⟩ := h3
    try simp only [zcmp_eq]
    first | exact ⟨fun _ => hn w hr2 w8 w9, fun h => absurd rfl h⟩ | exact ⟨fun _ => hn w hr2 w8 w9, fun h => absurd trivial h⟩
theorem law_11 (ho : ∀ a1 a2 a3 : Int, zOp 61 139 [(0, a1), (0, a2), (0, a3)]) {i : Int} {μ : zM} (hr : Rel μ) (hL : μ 98 0 ≤ 3072) (i0 : 0 ≤ i) (i1 : i + 6 ≤ μ 98 0) (hn : ∀ w, Rel w → w 98 = μ 98 → w 99 = μ 99 → zR 40 193 (fun r _ => r = 1) 1417 [(2, 99), (2, 0), (2, 39), (0, i)] [] w) : zR 40 193 (fun r _ => r = 1) 534 [(2, 99), (2, 0), (2, 39), (0, i)] [] μ := by
    have b1 : 0 ≤ i + 1 := by omega
    have c1 : i + 1 < μ 98 0 := by omega
    have b2 : 0 ≤ i + 2 := by omega
    have c2 : i + 2 < μ 98 0 := by omega
    have b3 : 0 ≤ i + 3 := by omega
    have c3 : i + 3 < μ 98 0 := by omega
    have b4 : 0 ≤ i + 4 := by omega
    have c4 : i + 4 < μ 98 0 := by omega
    have b5 : 0 ≤ i + 5 := by omega
    have c5 : i + 5 < μ 98 0 := by omega
    rw [u193_534]
    simp only [k193_534, zO_nop, zO_goto, zO_iload_n0, zO_iload_n1, zO_iload_n2, zO_iload_n3, zO_iload, zO_lload_n0, zO_lload_n1, zO_lload_n2, zO_lload_n3, zO_lload, zO_aload_n0, zO_aload_n1, zO_aload_n2, zO_aload_n3, zO_aload, zO_istore_n0, zO_istore_n1, zO_istore_n2, zO_istore_n3, zO_istore, zO_astore_n0, zO_astore_n1, zO_astore_n2, zO_astore_n3, zO_astore, zO_lstore, zO_iinc, zO_iconst, zO_bipush, zO_sipush, zO_lconst0, zO_lconst1, zO_ldc, zO_ldc2_w, zO_iadd, zO_isub, zO_imul, zO_idiv, zO_irem, zO_ineg, zO_iand, zO_ior, zO_ixor, zO_ishl, zO_ishr, zO_iushr, zO_ladd, zO_lmul, zO_land, zO_lor, zO_lshl, zO_lcmp, zO_i2l, zO_l2i, zO_i2b, zO_dup0, zO_dup2, zO_dup200, zO_dup202, zO_dup220, zO_dup222, zO_ifCond_eq, zO_ifCond_ne, zO_ifCond_lt, zO_ifCond_ge, zO_ifCond_gt, zO_ifCond_le, zO_if_icmp_eq, zO_if_icmp_ne, zO_if_icmp_lt, zO_if_icmp_ge, zO_if_icmp_gt, zO_if_icmp_le, zO_getfield, zO_putfield, zO_iaload, zO_baload, zO_laload, zO_iastore, zO_bastore, zO_lastore, zO_arraylength, zO_invokevirtual, zO_lreturn, zO_areturn, zO_return_, zO_tableswitch, zO_lookupswitch, zO_is0, zO_is1, zO_is2, zO_is3, zO_is4, zO_is9, zO_is10, zO_is11, zO_is12, zO_ir1, zO_ir4, zB_c, zLd_0, zLd_s, zSt_c, zSt2_c, zU_c, zD_c, zY_c, zSw_n, zSw_c, zCall_c, zVirt_c, zP_0, zP_1, zP_2, zP_3, zP_4, zGet_n, zGet_z, zPut_n, zPut_z, zcw_n, zcw_0, zcw_1, zcw_2, List.length_cons, List.length_nil, List.take_succ_cons, List.take_zero, List.drop_succ_cons, List.drop_zero, List.reverse_cons, List.reverse_nil, List.nil_append, List.cons_append, List.append_nil, List.set_cons_zero, List.set_cons_succ, List.getD_cons_zero, List.getD_cons_succ, true_and, and_true, ne_eq, not_false_eq_true, not_true_eq_false, zif, Nat.reduceAdd, Nat.reduceLeDiff, Nat.reduceLT, Nat.reduceSub, Nat.reduceEqDiff, Nat.zero_le, Nat.lt_add_one, Nat.reduceMod, false_implies, true_implies, implies_true, forall_const, Int.reduceLE, Int.reduceLT, Int.reduceEq, Int.reduceNeg, ite10_0, ite10_1, zem, zem2, Classical.not_not, and_self, zT_0, zN_0, zT_39, zN_39, zAl_99]
    try simp (disch := omega) only [zw_e]
    try simp only [b1, c1, b2, c2, b3, c3, b4, c4, b5, c5, true_and]
    refine zuse (ho _ _ _ μ hr) (fun r u h => ?_)
    obtain ⟨⟨e8, e9⟩, h2⟩ := h
    try simp only [e8, e9, b1, c1, b2, c2, b3, c3, b4, c4, b5, c5, true_and]
    refine zuse h2 (fun r' w h3 => ?_)
    obtain ⟨rfl, hr2, w8, w9⟩ := h3
    try simp only [zcmp_eq]
    first | exact ⟨fun _ => hn w hr2 w8 w9, fun h => absurd rfl h⟩ | exact ⟨fun _ => hn w hr2 w8 w9, fun h => absurd trivial h⟩
theorem law_12 (ho : ∀ a1 a2 : Int, zOp 62 140 [(0, a1), (0, a2)]) {i : Int} {μ : zM} (hr : Rel μ) (hL : μ 98 0 ≤ 3072) (i0 : 0 ≤ i) (i1 : i + 6 ≤ μ 98 0) (hn : ∀ w, Rel w → w 98 = μ 98 → w 99 = μ 99 → zR 40 193 (fun r _ => r = 1) 1417 [(2, 99), (2, 0), (2, 39), (0, i)] [] w) : zR 40 193 (fun r _ => r = 1) 577 [(2, 99), (2, 0), (2, 39), (0, i)] [] μ := by
    have b1 : 0 ≤ i + 1 := by omega
    have c1 : i + 1 < μ 98 0 := by omega
    have b2 : 0 ≤ i + 2 := by omega
    have c2 : i + 2 < μ 98 0 := by omega
    have b3 : 0 ≤ i + 3 := by omega
    have c3 : i + 3 < μ 98 0 := by omega
    have b4 : 0 ≤ i + 4 := by omega
    have c4 : i + 4 < μ 98 0 := by omega
    have b5 : 0 ≤ i + 5 := by omega
    have c5 : i + 5 < μ 98 0 := by omega
    rw [u193_577]
    simp only [k193_577, zO_nop, zO_goto, zO_iload_n0, zO_iload_n1, zO_iload_n2, zO_iload_n3, zO_iload, zO_lload_n0, zO_lload_n1, zO_lload_n2, zO_lload_n3, zO_lload, zO_aload_n0, zO_aload_n1, zO_aload_n2, zO_aload_n3, zO_aload, zO_istore_n0, zO_istore_n1, zO_istore_n2, zO_istore_n3, zO_istore, zO_astore_n0, zO_astore_n1, zO_astore_n2, zO_astore_n3, zO_astore, zO_lstore, zO_iinc, zO_iconst, zO_bipush, zO_sipush, zO_lconst0, zO_lconst1, zO_ldc, zO_ldc2_w, zO_iadd, zO_isub, zO_imul, zO_idiv, zO_irem, zO_ineg, zO_iand, zO_ior, zO_ixor, zO_ishl, zO_ishr, zO_iushr, zO_ladd, zO_lmul, zO_land, zO_lor, zO_lshl, zO_lcmp, zO_i2l, zO_l2i, zO_i2b, zO_dup0, zO_dup2, zO_dup200, zO_dup202, zO_dup220, zO_dup222, zO_ifCond_eq, zO_ifCond_ne, zO_ifCond_lt, zO_ifCond_ge, zO_ifCond_gt, zO_ifCond_le, zO_if_icmp_eq, zO_if_icmp_ne, zO_if_icmp_lt, zO_if_icmp_ge, zO_if_icmp_gt, zO_if_icmp_le, zO_getfield, zO_putfield, zO_iaload, zO_baload, zO_laload, zO_iastore, zO_bastore, zO_lastore, zO_arraylength, zO_invokevirtual, zO_lreturn, zO_areturn, zO_return_, zO_tableswitch, zO_lookupswitch, zO_is0, zO_is1, zO_is2, zO_is3, zO_is4, zO_is9, zO_is10, zO_is11, zO_is12, zO_ir1, zO_ir4, zB_c, zLd_0, zLd_s, zSt_c, zSt2_c, zU_c, zD_c, zY_c, zSw_n, zSw_c, zCall_c, zVirt_c, zP_0, zP_1, zP_2, zP_3, zP_4, zGet_n, zGet_z, zPut_n, zPut_z, zcw_n, zcw_0, zcw_1, zcw_2, List.length_cons, List.length_nil, List.take_succ_cons, List.take_zero, List.drop_succ_cons, List.drop_zero, List.reverse_cons, List.reverse_nil, List.nil_append, List.cons_append, List.append_nil, List.set_cons_zero, List.set_cons_succ, List.getD_cons_zero, List.getD_cons_succ, true_and, and_true, ne_eq, not_false_eq_true, not_true_eq_false, zif, Nat.reduceAdd, Nat.reduceLeDiff, Nat.reduceLT, Nat.reduceSub, Nat.reduceEqDiff, Nat.zero_le, Nat.lt_add_one, Nat.reduceMod, false_implies, true_implies, implies_true, forall_const, Int.reduceLE, Int.reduceLT, Int.reduceEq, Int.reduceNeg, ite10_0, ite10_1, zem, zem2, Classical.not_not, and_self, zT_0, zN_0, zT_39, zN_39, zAl_99]
    try simp (disch := omega) only [zw_e]
    try simp only [b1, c1, b2, c2, b3, c3, b4, c4, b5, c5, true_and]
    refine zuse (ho _ _ μ hr) (fun r u h => ?_)
    obtain ⟨⟨e8, e9⟩, h2⟩ := h
    try simp only [e8, e9, b1, c1, b2, c2, b3, c3, b4, c4, b5, c5, true_and]
    refine zuse h2 (fun r' w h3 => ?_)
    obtain ⟨rfl, hr2, w8, w9⟩ := h3
    try simp only [zcmp_eq]
    first | exact ⟨fun _ => hn w hr2 w8 w9, fun h => absurd rfl h⟩ | exact ⟨fun _ => hn w hr2 w8 w9, fun h => absurd trivial h⟩
theorem law_13 (ho : ∀ a1 : Int, zOp 63 144 [(0, a1)]) {i : Int} {μ : zM} (hr : Rel μ) (hL : μ 98 0 ≤ 3072) (i0 : 0 ≤ i) (i1 : i + 6 ≤ μ 98 0) (hn : ∀ w, Rel w → w 98 = μ 98 → w 99 = μ 99 → zR 40 193 (fun r _ => r = 1) 1417 [(2, 99), (2, 0), (2, 39), (0, i)] [] w) : zR 40 193 (fun r _ => r = 1) 610 [(2, 99), (2, 0), (2, 39), (0, i)] [] μ := by
    have b1 : 0 ≤ i + 1 := by omega
    have c1 : i + 1 < μ 98 0 := by omega
    have b2 : 0 ≤ i + 2 := by omega
    have c2 : i + 2 < μ 98 0 := by omega
    have b3 : 0 ≤ i + 3 := by omega
    have c3 : i + 3 < μ 98 0 := by omega
    have b4 : 0 ≤ i + 4 := by omega
    have c4 : i + 4 < μ 98 0 := by omega
    have b5 : 0 ≤ i + 5 := by omega
    have c5 : i + 5 < μ 98 0 := by omega
    rw [u193_610]
    simp only [k193_610, zO_nop, zO_goto, zO_iload_n0, zO_iload_n1, zO_iload_n2, zO_iload_n3, zO_iload, zO_lload_n0, zO_lload_n1, zO_lload_n2, zO_lload_n3, zO_lload, zO_aload_n0, zO_aload_n1, zO_aload_n2, zO_aload_n3, zO_aload, zO_istore_n0, zO_istore_n1, zO_istore_n2, zO_istore_n3, zO_istore, zO_astore_n0, zO_astore_n1, zO_astore_n2, zO_astore_n3, zO_astore, zO_lstore, zO_iinc, zO_iconst, zO_bipush, zO_sipush, zO_lconst0, zO_lconst1, zO_ldc, zO_ldc2_w, zO_iadd, zO_isub, zO_imul, zO_idiv, zO_irem, zO_ineg, zO_iand, zO_ior, zO_ixor, zO_ishl, zO_ishr, zO_iushr, zO_ladd, zO_lmul, zO_land, zO_lor, zO_lshl, zO_lcmp, zO_i2l, zO_l2i, zO_i2b, zO_dup0, zO_dup2, zO_dup200, zO_dup202, zO_dup220, zO_dup222, zO_ifCond_eq, zO_ifCond_ne, zO_ifCond_lt, zO_ifCond_ge, zO_ifCond_gt, zO_ifCond_le, zO_if_icmp_eq, zO_if_icmp_ne, zO_if_icmp_lt, zO_if_icmp_ge, zO_if_icmp_gt, zO_if_icmp_le, zO_getfield, zO_putfield, zO_iaload, zO_baload, zO_laload, zO_iastore, zO_bastore, zO_lastore, zO_arraylength, zO_invokevirtual, zO_lreturn, zO_areturn, zO_return_, zO_tableswitch, zO_lookupswitch, zO_is0, zO_is1, zO_is2, zO_is3, zO_is4, zO_is9, zO_is10, zO_is11, zO_is12, zO_ir1, zO_ir4, zB_c, zLd_0, zLd_s, zSt_c, zSt2_c, zU_c, zD_c, zY_c, zSw_n, zSw_c, zCall_c, zVirt_c, zP_0, zP_1, zP_2, zP_3, zP_4, zGet_n, zGet_z, zPut_n, zPut_z, zcw_n, zcw_0, zcw_1, zcw_2, List.length_cons, List.length_nil, List.take_succ_cons, List.take_zero, List.drop_succ_cons, List.drop_zero, List.reverse_cons, List.reverse_nil, List.nil_append, List.cons_append, List.append_nil, List.set_cons_zero, List.set_cons_succ, List.getD_cons_zero, List.getD_cons_succ, true_and, and_true, ne_eq, not_false_eq_true, not_true_eq_false, zif, Nat.reduceAdd, Nat.reduceLeDiff, Nat.reduceLT, Nat.reduceSub, Nat.reduceEqDiff, Nat.zero_le, Nat.lt_add_one, Nat.reduceMod, false_implies, true_implies, implies_true, forall_const, Int.reduceLE, Int.reduceLT, Int.reduceEq, Int.reduceNeg, ite10_0, ite10_1, zem, zem2, Classical.not_not, and_self, zT_0, zN_0, zT_39, zN_39, zAl_99]
    try simp (disch := omega) only [zw_e]
    try simp only [b1, c1, b2, c2, b3, c3, b4, c4, b5, c5, true_and]
    refine zuse (ho _ μ hr) (fun r u h => ?_)
    obtain ⟨⟨e8, e9⟩, h2⟩ := h
    try simp only [e8, e9, b1, c1, b2, c2, b3, c3, b4, c4, b5, c5, true_and]
    refine zuse h2 (fun r' w h3 => ?_)
    obtain ⟨rfl, hr2, w8, w9⟩ := h3
    try simp only [zcmp_eq]
    first | exact ⟨fun _ => hn w hr2 w8 w9, fun h => absurd rfl h⟩ | exact ⟨fun _ => hn w hr2 w8 w9, fun h => absurd trivial h⟩
theorem law_14 (ho : ∀ a1 : Int, zOp 64 145 [(0, a1)]) {i : Int} {μ : zM} (hr : Rel μ) (hL : μ 98 0 ≤ 3072) (i0 : 0 ≤ i) (i1 : i + 6 ≤ μ 98 0) (hn : ∀ w, Rel w → w 98 = μ 98 → w 99 = μ 99 → zR 40 193 (fun r _ => r = 1) 1417 [(2, 99), (2, 0), (2, 39), (0, i)] [] w) : zR 40 193 (fun r _ => r = 1) 633 [(2, 99), (2, 0), (2, 39), (0, i)] [] μ := by
    have b1 : 0 ≤ i + 1 := by omega
    have c1 : i + 1 < μ 98 0 := by omega
    have b2 : 0 ≤ i + 2 := by omega
    have c2 : i + 2 < μ 98 0 := by omega
    have b3 : 0 ≤ i + 3 := by omega
    have c3 : i + 3 < μ 98 0 := by omega
    have b4 : 0 ≤ i + 4 := by omega
    have c4 : i + 4 < μ 98 0 := by omega
    have b5 : 0 ≤ i + 5 := by omega
    have c5 : i + 5 < μ 98 0 := by omega
    rw [u193_633]
    simp only [k193_633, zO_nop, zO_goto, zO_iload_n0, zO_iload_n1, zO_iload_n2, zO_iload_n3, zO_iload, zO_lload_n0, zO_lload_n1, zO_lload_n2, zO_lload_n3, zO_lload, zO_aload_n0, zO_aload_n1, zO_aload_n2, zO_aload_n3, zO_aload, zO_istore_n0, zO_istore_n1, zO_istore_n2, zO_istore_n3, zO_istore, zO_astore_n0, zO_astore_n1, zO_astore_n2, zO_astore_n3, zO_astore, zO_lstore, zO_iinc, zO_iconst, zO_bipush, zO_sipush, zO_lconst0, zO_lconst1, zO_ldc, zO_ldc2_w, zO_iadd, zO_isub, zO_imul, zO_idiv, zO_irem, zO_ineg, zO_iand, zO_ior, zO_ixor, zO_ishl, zO_ishr, zO_iushr, zO_ladd, zO_lmul, zO_land, zO_lor, zO_lshl, zO_lcmp, zO_i2l, zO_l2i, zO_i2b, zO_dup0, zO_dup2, zO_dup200, zO_dup202, zO_dup220, zO_dup222, zO_ifCond_eq, zO_ifCond_ne, zO_ifCond_lt, zO_ifCond_ge, zO_ifCond_gt, zO_ifCond_le, zO_if_icmp_eq, zO_if_icmp_ne, zO_if_icmp_lt, zO_if_icmp_ge, zO_if_icmp_gt, zO_if_icmp_le, zO_getfield, zO_putfield, zO_iaload, zO_baload, zO_laload, zO_iastore, zO_bastore, zO_lastore, zO_arraylength, zO_invokevirtual, zO_lreturn, zO_areturn, zO_return_, zO_tableswitch, zO_lookupswitch, zO_is0, zO_is1, zO_is2, zO_is3, zO_is4, zO_is9, zO_is10, zO_is11, zO_is12, zO_ir1, zO_ir4, zB_c, zLd_0, zLd_s, zSt_c, zSt2_c, zU_c, zD_c, zY_c, zSw_n, zSw_c, zCall_c, zVirt_c, zP_0, zP_1, zP_2, zP_3, zP_4, zGet_n, zGet_z, zPut_n, zPut_z, zcw_n, zcw_0, zcw_1, zcw_2, List.length_cons, List.length_nil, List.take_succ_cons, List.take_zero, List.drop_succ_cons, List.drop_zero, List.reverse_cons, List.reverse_nil, List.nil_append, List.cons_append, List.append_nil, List.set_cons_zero, List.set_cons_succ, List.getD_cons_zero, List.getD_cons_succ, true_and, and_true, ne_eq, not_false_eq_true, not_true_eq_false, zif, Nat.reduceAdd, Nat.reduceLeDiff, Nat.reduceLT, Nat.reduceSub, Nat.reduceEqDiff, Nat.zero_le, Nat.lt_add_one, Nat.reduceMod, false_implies, true_implies, implies_true, forall_const, Int.reduceLE, Int.reduceLT, Int.reduceEq, Int.reduceNeg, ite10_0, ite10_1, zem, zem2, Classical.not_not, and_self, zT_0, zN_0, zT_39, zN_39, zAl_99]
    try simp (disch := omega) only [zw_e]
    try simp only [b1, c1, b2, c2, b3, c3, b4, c4, b5, c5, true_and]
    refine zuse (ho _ μ hr) (fun r u h => ?_)
    obtain ⟨⟨e8, e9⟩, h2⟩ := h
    try simp only [e8, e9, b1, c1, b2, c2, b3, c3, b4, c4, b5, c5, true_and]
    refine zuse h2 (fun r' w h3 => ?_)
    obtain ⟨rfl, hr2, w8, w9⟩ := h3
    try simp only [zcmp_eq]
    first | exact ⟨fun _ => hn w hr2 w8 w9, fun h => absurd rfl h⟩ | exact ⟨fun _ => hn w hr2 w8 w9, fun h => absurd trivial h⟩
theorem law_15 (ho : ∀ a1 : Int, zOp 65 146 [(0, a1)]) {i : Int} {μ : zM} (hr : Rel μ) (hL : μ 98 0 ≤ 3072) (i0 : 0 ≤ i) (i1 : i + 6 ≤ μ 98 0) (hn : ∀ w, Rel w → w 98 = μ 98 → w 99 = μ 99 → zR 40 193 (fun r _ => r = 1) 1417 [(2, 99), (2, 0), (2, 39), (0, i)] [] w) : zR 40 193 (fun r _ => r = 1) 656 [(2, 99), (2, 0), (2, 39), (0, i)] [] μ := by
    have b1 : 0 ≤ i + 1 := by omega
    have c1 : i + 1 < μ 98 0 := by omega
    have b2 : 0 ≤ i + 2 := by omega
    have c2 : i + 2 < μ 98 0 := by omega
    have b3 : 0 ≤ i + 3 := by omega
    have c3 : i + 3 < μ 98 0 := by omega
    have b4 : 0 ≤ i + 4 := by omega
    have c4 : i + 4 < μ 98 0 := by omega
    have b5 : 0 ≤ i + 5 := by omega
    have c5 : i + 5 < μ 98 0 := by omega
    rw [u193_656]
    simp only [k193_656, zO_nop, zO_goto, zO_iload_n0, zO_iload_n1, zO_iload_n2, zO_iload_n3, zO_iload, zO_lload_n0, zO_lload_n1, zO_lload_n2, zO_lload_n3, zO_lload, zO_aload_n0, zO_aload_n1, zO_aload_n2, zO_aload_n3, zO_aload, zO_istore_n0, zO_istore_n1, zO_istore_n2, zO_istore_n3, zO_istore, zO_astore_n0, zO_astore_n1, zO_astore_n2, zO_astore_n3, zO_astore, zO_lstore, zO_iinc, zO_iconst, zO_bipush, zO_sipush, zO_lconst0, zO_lconst1, zO_ldc, zO_ldc2_w, zO_iadd, zO_isub, zO_imul, zO_idiv, zO_irem, zO_ineg, zO_iand, zO_ior, zO_ixor, zO_ishl, zO_ishr, zO_iushr, zO_ladd, zO_lmul, zO_land, zO_lor, zO_lshl, zO_lcmp, zO_i2l, zO_l2i, zO_i2b, zO_dup0, zO_dup2, zO_dup200, zO_dup202, zO_dup220, zO_dup222, zO_ifCond_eq, zO_ifCond_ne, zO_ifCond_lt, zO_ifCond_ge, zO_ifCond_gt, zO_ifCond_le, zO_if_icmp_eq, zO_if_icmp_ne, zO_if_icmp_lt, zO_if_icmp_ge, zO_if_icmp_gt, zO_if_icmp_le, zO_getfield, zO_putfield, zO_iaload, zO_baload, zO_laload, zO_iastore, zO_bastore, zO_lastore, zO_arraylength, zO_invokevirtual, zO_lreturn, zO_areturn, zO_return_, zO_tableswitch, zO_lookupswitch, zO_is0, zO_is1, zO_is2, zO_is3, zO_is4, zO_is9, zO_is10, zO_is11, zO_is12, zO_ir1, zO_ir4, zB_c, zLd_0, zLd_s, zSt_c, zSt2_c, zU_c, zD_c, zY_c, zSw_n, zSw_c, zCall_c, zVirt_c, zP_0, zP_1, zP_2, zP_3, zP_4, zGet_n, zGet_z, zPut_n, zPut_z, zcw_n, zcw_0, zcw_1, zcw_2, List.length_cons, List.length_nil, List.take_succ_cons, List.take_zero, List.drop_succ_cons, List.drop_zero, List.reverse_cons, List.reverse_nil, List.nil_append, List.cons_append, List.append_nil, List.set_cons_zero, List.set_cons_succ, List.getD_cons_zero, List.getD_cons_succ, true_and, and_true, ne_eq, not_false_eq_true, not_true_eq_false, zif, Nat.reduceAdd, Nat.reduceLeDiff, Nat.reduceLT, Nat.reduceSub, Nat.reduceEqDiff, Nat.zero_le, Nat.lt_add_one, Nat.reduceMod, false_implies, true_implies, implies_true, forall_const, Int.reduceLE, Int.reduceLT, Int.reduceEq, Int.reduceNeg, ite10_0, ite10_1, zem, zem2, Classical.not_not, and_self, zT_0, zN_0, zT_39, zN_39, zAl_99]
    try simp (disch := omega) only [zw_e]
    try simp only [b1, c1, b2, c2, b3, c3, b4, c4, b5, c5, true_and]
    refine zuse (ho _ μ hr) (fun r u h => ?_)
    obtain ⟨⟨e8, e9⟩, h2⟩ := h
    try simp only [e8, e9, b1, c1, b2, c2, b3, c3, b4, c4, b5, c5, true_and]
    refine zuse h2 (fun r' w h3 => ?_)
    obtain ⟨rfl, hr2, w8, w9⟩ := h3
    try simp only [zcmp_eq]
    first | exact ⟨fun _ => hn w hr2 w8 w9, fun h => absurd rfl h⟩ | exact ⟨fun _ => hn w hr2 w8 w9, fun h => absurd trivial h⟩
theorem law_16 (ho : ∀ a1 a2 : Int, zOp 66 151 [(0, a1), (0, a2)]) {i : Int} {μ : zM} (hr : Rel μ) (hL : μ 98 0 ≤ 3072) (i0 : 0 ≤ i) (i1 : i + 6 ≤ μ 98 0) (hn : ∀ w, Rel w → w 98 = μ 98 → w 99 = μ 99 → zR 40 193 (fun r _ => r = 1) 1417 [(2, 99), (2, 0), (2, 39), (0, i)] [] w) : zR 40 193 (fun r _ => r = 1) 679 [(2, 99), (2, 0), (2, 39), (0, i)] [] μ := by
    have b1 : 0 ≤ i + 1 := by omega
    have c1 : i + 1 < μ 98 0 := by omega
    have b2 : 0 ≤ i + 2 := by omega
    have c2 : i + 2 < μ 98 0 := by omega
    have b3 : 0 ≤ i + 3 := by omega
    have c3 : i + 3 < μ 98 0 := by omega
    have b4 : 0 ≤ i + 4 := by omega
    have c4 : i + 4 < μ 98 0 := by omega
    have b5 : 0 ≤ i + 5 := by omega
    have c5 : i + 5 < μ 98 0 := by omega
    rw [u193_679]
    simp only [k193_679, zO_nop, zO_goto, zO_iload_n0, zO_iload_n1, zO_iload_n2, zO_iload_n3, zO_iload, zO_lload_n0, zO_lload_n1, zO_lload_n2, zO_lload_n3, zO_lload, zO_aload_n0, zO_aload_n1, zO_aload_n2, zO_aload_n3, zO_aload, zO_istore_n0, zO_istore_n1, zO_istore_n2, zO_istore_n3, zO_istore, zO_astore_n0, zO_astore_n1, zO_astore_n2, zO_astore_n3, zO_astore, zO_lstore, zO_iinc, zO_iconst, zO_bipush, zO_sipush, zO_lconst0, zO_lconst1, zO_ldc, zO_ldc2_w, zO_iadd, zO_isub, zO_imul, zO_idiv, zO_irem, zO_ineg, zO_iand, zO_ior, zO_ixor, zO_ishl, zO_ishr, zO_iushr, zO_ladd, zO_lmul, zO_land, zO_lor, zO_lshl, zO_lcmp, zO_i2l, zO_l2i, zO_i2b, zO_dup0, zO_dup2, zO_dup200, zO_dup202, zO_dup220, zO_dup222, zO_ifCond_eq, zO_ifCond_ne, zO_ifCond_lt, zO_ifCond_ge, zO_ifCond_gt, zO_ifCond_le, zO_if_icmp_eq, zO_if_icmp_ne, zO_if_icmp_lt, zO_if_icmp_ge, zO_if_icmp_gt, zO_if_icmp_le, zO_getfield, zO_putfield, zO_iaload, zO_baload, zO_laload, zO_iastore, zO_bastore, zO_lastore, zO_arraylength, zO_invokevirtual, zO_lreturn, zO_areturn, zO_return_, zO_tableswitch, zO_lookupswitch, zO_is0, zO_is1, zO_is2, zO_is3, zO_is4, zO_is9, zO_is10, zO_is11, zO_is12, zO_ir1, zO_ir4, zB_c, zLd_0, zLd_s, zSt_c, zSt2_c, zU_c, zD_c, zY_c, zSw_n, zSw_c, zCall_c, zVirt_c, zP_0, zP_1, zP_2, zP_3, zP_4, zGet_n, zGet_z, zPut_n, zPut_z, zcw_n, zcw_0, zcw_1, zcw_2, List.length_cons, List.length_nil, List.take_succ_cons, List.take_zero, List.drop_succ_cons, List.drop_zero, List.reverse_cons, List.reverse_nil, List.nil_append, List.cons_append, List.append_nil, List.set_cons_zero, List.set_cons_succ, List.getD_cons_zero, List.getD_cons_succ, true_and, and_true, ne_eq, not_false_eq_true, not_true_eq_false, zif, Nat.reduceAdd, Nat.reduceLeDiff, Nat.reduceLT, Nat.reduceSub, Nat.reduceEqDiff, Nat.zero_le, Nat.lt_add_one, Nat.reduceMod, false_implies, true_implies, implies_true, forall_const, Int.reduceLE, Int.reduceLT, Int.reduceEq, Int.reduceNeg, ite10_0, ite10_1, zem, zem2, Classical.not_not, and_self, zT_0, zN_0, zT_39, zN_39, zAl_99]
    try simp (disch := omega) only [zw_e]
    try simp only [b1, c1, b2, c2, b3, c3, b4, c4, b5, c5, true_and]
    refine zuse (ho _ _ μ hr) (fun r u h => ?_)
    obtain ⟨⟨e8, e9⟩, h2⟩ := h
    try simp only [e8, e9, b1, c1, b2, c2, b3, c3, b4, c4, b5, c5, true_and]
    refine zuse h2 (fun r' w h3 => ?_)
    obtain ⟨rfl, hr2, w8, w9⟩ := h3
    try simp only [zcmp_eq]
    first | exact ⟨fun _ => hn w hr2 w8 w9, fun h => absurd rfl h⟩ | exact ⟨fun _ => hn w hr2 w8 w9, fun h => absurd trivial h⟩
theorem law_17 (ho : ∀ a1 : Int, zOp 67 152 [(0, a1)]) {i : Int} {μ : zM} (hr : Rel μ) (hL : μ 98 0 ≤ 3072) (i0 : 0 ≤ i) (i1 : i + 6 ≤ μ 98 0) (hn : ∀ w, Rel w → w 98 = μ 98 → w 99 = μ 99 → zR 40 193 (fun r _ => r = 1) 1417 [(2, 99), (2, 0), (2, 39), (0, i)] [] w) : zR 40 193 (fun r _ => r = 1) 712 [(2, 99), (2, 0), (2, 39), (0, i)] [] μ := by
    have b1 : 0 ≤ i + 1 := by omega
    have c1 : i + 1 < μ 98 0 := by omega
    have b2 : 0 ≤ i + 2 := by omega
    have c2 : i + 2 < μ 98 0 := by omega
    have b3 : 0 ≤ i + 3 := by omega
    have c3 : i + 3 < μ 98 0 := by omega
    have b4 : 0 ≤ i + 4 := by omega
    have c4 : i + 4 < μ 98 0 := by omega
    have b5 : 0 ≤ i + 5 := by omega
    have c5 : i + 5 < μ 98 0 := by omega
    rw [u193_712]
    simp only [k193_712, zO_nop, zO_goto, zO_iload_n0, zO_iload_n1, zO_iload_n2, zO_iload_n3, zO_iload, zO_lload_n0, zO_lload_n1, zO_lload_n2, zO_lload_n3, zO_lload, zO_aload_n0, zO_aload_n1, zO_aload_n2, zO_aload_n3, zO_aload, zO_istore_n0, zO_istore_n1, zO_istore_n2, zO_istore_n3, zO_istore, zO_astore_n0, zO_astore_n1, zO_astore_n2, zO_astore_n3, zO_astore, zO_lstore, zO_iinc, zO_iconst, zO_bipush, zO_sipush, zO_lconst0, zO_lconst1, zO_ldc, zO_ldc2_w, zO_iadd, zO_isub, zO_imul, zO_idiv, zO_irem, zO_ineg, zO_iand, zO_ior, zO_ixor, zO_ishl, zO_ishr, zO_iushr, zO_ladd, zO_lmul, zO_land, zO_lor, zO_lshl, zO_lcmp, zO_i2l, zO_l2i, zO_i2b, zO_dup0, zO_dup2, zO_dup200, zO_dup202, zO_dup220, zO_dup222, zO_ifCond_eq, zO_ifCond_ne, zO_ifCond_lt, zO_ifCond_ge, zO_ifCond_gt, zO_ifCond_le, zO_if_icmp_eq, zO_if_icmp_ne, zO_if_icmp_lt, zO_if_icmp_ge, zO_if_icmp_gt, zO_if_icmp_le, zO_getfield, zO_putfield, zO_iaload, zO_baload, zO_laload, zO_iastore, zO_bastore, zO_lastore, zO_arraylength, zO_invokevirtual, zO_lreturn, zO_areturn, zO_return_, zO_tableswitch, zO_lookupswitch, zO_is0, zO_is1, zO_is2, zO_is3, zO_is4, zO_is9, zO_is10, zO_is11, zO_is12, zO_ir1, zO_ir4, zB_c, zLd_0, zLd_s, zSt_c, zSt2_c, zU_c, zD_c, zY_c, zSw_n, zSw_c, zCall_c, zVirt_c, zP_0, zP_1, zP_2, zP_3, zP_4, zGet_n, zGet_z, zPut_n, zPut_z, zcw_n, zcw_0, zcw_1, zcw_2, List.length_cons, List.length_nil, List.take_succ_cons, List.take_zero, List.drop_succ_cons, List.drop_zero, List.reverse_cons, List.reverse_nil, List.nil_append, List.cons_append, List.append_nil, List.set_cons_zero, List.set_cons_succ, List.getD_cons_zero, List.getD_cons_succ, true_and, and_true, ne_eq, not_false_eq_true, not_true_eq_false, zif, Nat.reduceAdd, Nat.reduceLeDiff, Nat.reduceLT, Nat.reduceSub, Nat.reduceEqDiff, Nat.zero_le, Nat.lt_add_one, Nat.reduceMod, false_implies, true_implies, implies_true, forall_const, Int.reduceLE, Int.reduceLT, Int.reduceEq, Int.reduceNeg, ite10_0, ite10_1, zem, zem2, Classical.not_not, and_self, zT_0, zN_0, zT_39, zN_39, zAl_99]
    try simp (disch := omega) only [zw_e]
    try simp only [b1, c1, b2, c2, b3, c3, b4, c4, b5, c5, true_and]
    refine zuse (ho _ μ hr) (fun r u h => ?_)
    obtain ⟨⟨e8, e9⟩, h2⟩ := h
    try simp only [e8, e9, b1, c1, b2, c2, b3, c3, b4, c4, b5, c5, true_and]
    refine zuse h2 (fun r' w h3 => ?_)
    obtain ⟨rfl, hr2, w8, w9⟩ := h3
    try simp only [zcmp_eq]
    first | exact ⟨fun _ => hn w hr2 w8 w9, fun h => absurd rfl h⟩ | exact ⟨fun _ => hn w hr2 w8 w9, fun h => absurd trivial h⟩
theorem law_18 (ho : ∀ a1 a2 a3 : Int, zOp 68 158 [(0, a1), (0, a2), (0, a3)]) {i : Int} {μ : zM} (hr : Rel μ) (hL : μ 98 0 ≤ 3072) (i0 : 0 ≤ i) (i1 : i + 6 ≤ μ 98 0) (hn : ∀ w, Rel w → w 98 = μ 98 → w 99 = μ 99 → zR 40 193 (fun r _ => r = 1) 1417 [(2, 99), (2, 0), (2, 39), (0, i)] [] w) : zR 40 193 (fun r _ => r = 1) 735 [(2, 99), (2, 0), (2, 39), (0, i)] [] μ := by
    have b1 : 0 ≤ i + 1 := by omega
    have c1 : i + 1 < μ 98 0 := by omega
    have b2 : 0 ≤ i + 2 := by omega
    have c2 : i + 2 < μ 98 0 := by omega
    have b3 : 0 ≤ i + 3 := by omega
    have c3 : i + 3 < μ 98 0 := by omega
    have b4 : 0 ≤ i + 4 := by omega
    have c4 : i + 4 < μ 98 0 := by omega
    have b5 : 0 ≤ i + 5 := by omega
    have c5 : i + 5 < μ 98 0 := by omega
    rw [u193_735]
    simp only [k193_735, zO_nop, zO_goto, zO_iload_n0, zO_iload_n1, zO_iload_n2, zO_iload_n3, zO_iload, zO_lload_n0, zO_lload_n1, zO_lload_n2, zO_lload_n3, zO_lload, zO_aload_n0, zO_aload_n1, zO_aload_n2, zO_aload_n3, zO_aload, zO_istore_n0, zO_istore_n1, zO_istore_n2, zO_istore_n3, zO_istore, zO_astore_n0, zO_astore_n1, zO_astore_n2, zO_astore_n3, zO_astore, zO_lstore, zO_iinc, zO_iconst, zO_bipush, zO_sipush, zO_lconst0, zO_lconst1, zO_ldc, zO_ldc2_w, zO_iadd, zO_isub, zO_imul, zO_idiv, zO_irem, zO_ineg, zO_iand, zO_ior, zO_ixor, zO_ishl, zO_ishr, zO_iushr, zO_ladd, zO_lmul, zO_land, zO_lor, zO_lshl, zO_lcmp, zO_i2l, zO_l2i, zO_i2b, zO_dup0, zO_dup2, zO_dup200, zO_dup202, zO_dup220, zO_dup222, zO_ifCond_eq, zO_ifCond_ne, zO_ifCond_lt, zO_ifCond_ge, zO_ifCond_gt, zO_ifCond_le, zO_if_icmp_eq, zO_if_icmp_ne, zO_if_icmp_lt, zO_if_icmp_ge, zO_if_icmp_gt, zO_if_icmp_le, zO_getfield, zO_putfield, zO_iaload, zO_baload, zO_laload, zO_iastore, zO_bastore, zO_lastore, zO_arraylength, zO_invokevirtual, zO_lreturn, zO_areturn, zO_return_, zO_tableswitch, zO_lookupswitch, zO_is0, zO_is1, zO_is2, zO_is3, zO_is4, zO_is9, zO_is10, zO_is11, zO_is12, zO_ir1, zO_ir4, zB_c, zLd_0, zLd_s, zSt_c, zSt2_c, zU_c, zD_c, zY_c, zSw_n, zSw_c, zCall_c, zVirt_c, zP_0, zP_1, zP_2, zP_3, zP_4, zGet_n, zGet_z, zPut_n, zPut_z, zcw_n, zcw_0, zcw_1, zcw_2, List.length_cons, List.length_nil, List.take_succ_cons, List.take_zero, List.drop_succ_cons, List.drop_zero, List.reverse_cons, List.reverse_nil, List.nil_append, List.cons_append, List.append_nil, List.set_cons_zero, List.set_cons_succ, List.getD_cons_zero, List.getD_cons_succ, true_and, and_true, ne_eq, not_false_eq_true, not_true_eq_false, zif, Nat.reduceAdd, Nat.reduceLeDiff, Nat.reduceLT, Nat.reduceSub, Nat.reduceEqDiff, Nat.zero_le, Nat.lt_add_one, Nat.reduceMod, false_implies, true_implies, implies_true, forall_const, Int.reduceLE, Int.reduceLT, Int.reduceEq, Int.reduceNeg, ite10_0, ite10_1, zem, zem2, Classical.not_not, and_self, zT_0, zN_0, zT_39, zN_39, zAl_99]
    try simp (disch := omega) only [zw_e]
    try simp only [b1, c1, b2, c2, b3, c3, b4, c4, b5, c5, true_and]
    refine zuse (ho _ _ _ μ hr) (fun r u h => ?_)
    obtain ⟨⟨e8, e9⟩, h2⟩ := h
    try simp only [e8, e9, b1, c1, b2, c2, b3, c3, b4, c4, b5, c5, true_and]
    refine zuse h2 (fun r' w h3 => ?_)
    obtain ⟨rfl, hr2, w8, w9⟩ := h3
    try simp only [zcmp_eq]
    first | exact ⟨fun _ => hn w hr2 w8 w9, fun h => absurd rfl h⟩ | exact ⟨fun _ => hn w hr2 w8 w9, fun h => absurd trivial h⟩
theorem law_19 (ho : ∀ a1 a2 a3 : Int, zOp 69 161 [(0, a1), (0, a2), (0, a3)]) {i : Int} {μ : zM} (hr : Rel μ) (hL : μ 98 0 ≤ 3072) (i0 : 0 ≤ i) (i1 : i + 6 ≤ μ 98 0) (hn : ∀ w, Rel w → w 98 = μ 98 → w 99 = μ 99 → zR 40 193 (fun r _ => r = 1) 1417 [(2, 99), (2, 0), (2, 39), (0, i)] [] w) : zR 40 193 (fun r _ => r = 1) 778 [(2, 99), (2, 0), (2, 39), (0, i)] [] μ := by
    have b1 : 0 ≤ i + 1 := by omega
    have c1 : i + 1 < μ 98 0 := by omega
    have b2 : 0 ≤ i + 2 := by omega
    have c2 : i + 2 < μ 98 0 := by omega
    have b3 : 0 ≤ i + 3 := by omega
    have c3 : i + 3 < μ 98 0 := by omega
    have b4 : 0 ≤ i + 4 := by omega
    have c4 : i + 4 < μ 98 0 := by omega
    have b5 : 0 ≤ i + 5 := by omega
    have c5 : i + 5 < μ 98 0 := by omega
    rw [u193_778]
    simp only [k193_778, zO_nop, zO_goto, zO_iload_n0, zO_iload_n1, zO_iload_n2, zO_iload_n3, zO_iload, zO_lload_n0, zO_lload_n1, zO_lload_n2, zO_lload_n3, zO_lload, zO_aload_n0, zO_aload_n1, zO_aload_n2, zO_aload_n3, zO_aload, zO_istore_n0, zO_istore_n1, zO_istore_n2, zO_istore_n3, zO_istore, zO_astore_n0, zO_astore_n1, zO_astore_n2, zO_astore_n3, zO_astore, zO_lstore, zO_iinc, zO_iconst, zO_bipush, zO_sipush, zO_lconst0, zO_lconst1, zO_ldc, zO_ldc2_w, zO_iadd, zO_isub, zO_imul, zO_idiv, zO_irem, zO_ineg, zO_iand, zO_ior, zO_ixor, zO_ishl, zO_ishr, zO_iushr, zO_ladd, zO_lmul, zO_land, zO_lor, zO_lshl, zO_lcmp, zO_i2l, zO_l2i, zO_i2b, zO_dup0, zO_dup2, zO_dup200, zO_dup202, zO_dup220, zO_dup222, zO_ifCond_eq, zO_ifCond_ne, zO_ifCond_lt, zO_ifCond_ge, zO_ifCond_gt, zO_ifCond_le, zO_if_icmp_eq, zO_if_icmp_ne, zO_if_icmp_lt, zO_if_icmp_ge, zO_if_icmp_gt, zO_if_icmp_le, zO_getfield, zO_putfield, zO_iaload, zO_baload, zO_laload, zO_iastore, zO_bastore, zO_lastore, zO_arraylength, zO_invokevirtual, zO_lreturn, zO_areturn, zO_return_, zO_tableswitch, zO_lookupswitch, zO_is0, zO_is1, zO_is2, zO_is3, zO_is4, zO_is9, zO_is10, zO_is11, zO_is12, zO_ir1, zO_ir4, zB_c, zLd_0, zLd_s, zSt_c, zSt2_c, zU_c, zD_c, zY_c, zSw_n, zSw_c, zCall_c, zVirt_c, zP_0, zP_1, zP_2, zP_3, zP_4, zGet_n, zGet_z, zPut_n, zPut_z, zcw_n, zcw_0, zcw_1, zcw_2, List.length_cons, List.length_nil, List.take_succ_cons, List.take_zero, List.drop_succ_cons, List.drop_zero, List.reverse_cons, List.reverse_nil, List.nil_append, List.cons_append, List.append_nil, List.set_cons_zero, List.set_cons_succ, List.getD_cons_zero, List.getD_cons_succ, true_and, and_true, ne_eq, not_false_eq_true, not_true_eq_false, zif, Nat.reduceAdd, Nat.reduceLeDiff, Nat.reduceLT, Nat.reduceSub, Nat.reduceEqDiff, Nat.zero_le, Nat.lt_add_one, Nat.reduceMod, false_implies, true_implies, implies_true, forall_const, Int.reduceLE, Int.reduceLT, Int.reduceEq, Int.reduceNeg, ite10_0, ite10_1, zem, zem2, Classical.not_not, and_self, zT_0, zN_0, zT_39, zN_39, zAl_99]
    try simp (disch := omega) only [zw_e]
    try simp only [b1, c1, b2, c2, b3, c3, b4, c4, b5, c5, true_and]
    refine zuse (ho _ _ _ μ hr) (fun r u h => ?_)
    obtain ⟨⟨e8, e9⟩, h2⟩ := h
    try simp only [e8, e9, b1, c1, b2, c2, b3, c3, b4, c4, b5, c5, true_and]
    refine zuse h2 (fun r' w h3 => ?_)
    obtain ⟨rfl, hr2, w8, w9⟩ := h3
    try simp only [zcmp_eq]
    first | exact ⟨fun _ => hn w hr2 w8 w9, fun h => absurd rfl h⟩ | exact ⟨fun _ => hn w hr2 w8 w9, fun h => absurd trivial h⟩
theorem law_20 (ho : ∀ a1 a2 : Int, zOp 70 162 [(0, a1), (0, a2)]) {i : Int} {μ : zM} (hr : Rel μ) (hL : μ 98 0 ≤ 3072) (i0 : 0 ≤ i) (i1 : i + 6 ≤ μ 98 0) (hn : ∀ w, Rel w → w 98 = μ 98 → w 99 = μ 99 → zR 40 193 (fun r _ => r = 1) 1417 [(2, 99), (2, 0), (2, 39), (0, i)] [] w) : zR 40 193 (fun r _ => r = 1) 821 [(2, 99), (2, 0), (2, 39), (0, i)] [] μ := by
    have b1 : 0 ≤ i + 1 := by omega
    have c1 : i + 1 < μ 98 0 := by omega
    have b2 : 0 ≤ i + 2 := by omega
    have c2 : i + 2 < μ 98 0 := by omega
    have b3 : 0 ≤ i + 3 := by omega
    have c3 : i + 3 < μ 98 0 := by omega
    have b4 : 0 ≤ i + 4 := by omega
    have c4 : i + 4 < μ 98 0 := by omega
    have b5 : 0 ≤ i + 5 := by omega
    have c5 : i + 5 < μ 98 0 := by omega
    rw [u193_821]
    simp only [k193_821, zO_nop, zO_goto, zO_iload_n0, zO_iload_n1, zO_iload_n2, zO_iload_n3, zO_iload, zO_lload_n0, zO_lload_n1, zO_lload_n2, zO_lload_n3, zO_lload, zO_aload_n0, zO_aload_n1, zO_aload_n2, zO_aload_n3, zO_aload, zO_istore_n0, zO_istore_n1, zO_istore_n2, zO_istore_n3, zO_istore, zO_astore_n0, zO_astore_n1, zO_astore_n2, zO_astore_n3, zO_astore, zO_lstore, zO_iinc, zO_iconst, zO_bipush, zO_sipush, zO_lconst0, zO_lconst1, zO_ldc, zO_ldc2_w, zO_iadd, zO_isub, zO_imul, zO_idiv, zO_irem, zO_ineg, zO_iand, zO_ior, zO_ixor, zO_ishl, zO_ishr, zO_iushr, zO_ladd, zO_lmul, zO_land, zO_lor, zO_lshl, zO_lcmp, zO_i2l, zO_l2i, zO_i2b, zO_dup0, zO_dup2, zO_dup200, zO_dup202, zO_dup220, zO_dup222, zO_ifCond_eq, zO_ifCond_ne, zO_ifCond_lt, zO_ifCond_ge, zO_ifCond_gt, zO_ifCond_le, zO_if_icmp_eq, zO_if_icmp_ne, zO_if_icmp_lt, zO_if_icmp_ge, zO_if_icmp_gt, zO_if_icmp_le, zO_getfield, zO_putfield, zO_iaload, zO_baload, zO_laload, zO_iastore, zO_bastore, zO_lastore, zO_arraylength, zO_invokevirtual, zO_lreturn, zO_areturn, zO_return_, zO_tableswitch, zO_lookupswitch, zO_is0, zO_is1, zO_is2, zO_is3, zO_is4, zO_is9, zO_is10, zO_is11, zO_is12, zO_ir1, zO_ir4, zB_c, zLd_0, zLd_s, zSt_c, zSt2_c, zU_c, zD_c, zY_c, zSw_n, zSw_c, zCall_c, zVirt_c, zP_0, zP_1, zP_2, zP_3, zP_4, zGet_n, zGet_z, zPut_n, zPut_z, zcw_n, zcw_0, zcw_1, zcw_2, List.length_cons, List.length_nil, List.take_succ_cons, List.take_zero, List.drop_succ_cons, List.drop_zero, List.reverse_cons, List.reverse_nil, List.nil_append, List.cons_append, List.append_nil, List.set_cons_zero, List.set_cons_succ, List.getD_cons_zero, List.getD_cons_succ, true_and, and_true, ne_eq, not_false_eq_true, not_true_eq_false, zif, Nat.reduceAdd, Nat.reduceLeDiff, Nat.reduceLT, Nat.reduceSub, Nat.reduceEqDiff, Nat.zero_le, Nat.lt_add_one, Nat.reduceMod, false_implies, true_implies, implies_true, forall_const, Int.reduceLE, Int.reduceLT, Int.reduceEq, Int.reduceNeg, ite10_0, ite10_1, zem, zem2, Classical.not_not, and_self, zT_0, zN_0, zT_39, zN_39, zAl_99]
    try simp (disch := omega) only [zw_e]
    try simp only [b1, c1, b2, c2, b3, c3, b4, c4, b5, c5, true_and]
    refine zuse (ho _ _ μ hr) (fun r u h => ?_)
    obtain ⟨⟨e8, e9⟩, h2⟩ := h
    try simp only [e8, e9, b1, c1, b2, c2, b3, c3, b4, c4, b5, c5, true_and]
    refine zuse h2 (fun r' w h3 => ?_)
    obtain ⟨rfl, hr2, w8, w9⟩ := h3
    try simp only [zcmp_eq]
    first | exact ⟨fun _ => hn w hr2 w8 w9, fun h => absurd rfl h⟩ | exact ⟨fun _ => hn w hr2 w8 w9, fun h => absurd trivial h⟩
theorem law_21 (ho : zOp 71 163 []) {i : Int} {μ : zM} (hr : Rel μ) (hL : μ 98 0 ≤ 3072) (i0 : 0 ≤ i) (i1 : i + 6 ≤ μ 98 0) (hn : ∀ w, Rel w → w 98 = μ 98 → w 99 = μ 99 → zR 40 193 (fun r _ => r = 1) 1417 [(2, 99), (2, 0), (2, 39), (0, i)] [] w) : zR 40 193 (fun r _ => r = 1) 854 [(2, 99), (2, 0), (2, 39), (0, i)] [] μ := by
    have b1 : 0 ≤ i + 1 := by omega
    have c1 : i + 1 < μ 98 0 := by omega
    have b2 : 0 ≤ i + 2 := by omega
    have c2 : i + 2 < μ 98 0 := by omega
    have b3 : 0 ≤ i + 3 := by omega
    have c3 : i + 3 < μ 98 0 := by omega
    have b4 : 0 ≤ i + 4 := by omega
    have c4 : i + 4 < μ 98 0 := by omega
    have b5 : 0 ≤ i + 5 := by omega
    have c5 : i + 5 < μ 98 0 := by omega
    rw [u193_854]
    simp only [k193_854, zO_nop, zO_goto, zO_iload_n0, zO_iload_n1, zO_iload_n2, zO_iload_n3, zO_iload, zO_lload_n0, zO_lload_n1, zO_lload_n2, zO_lload_n3, zO_lload, zO_aload_n0, zO_aload_n1, zO_aload_n2, zO_aload_n3, zO_aload, zO_istore_n0, zO_istore_n1, zO_istore_n2, zO_istore_n3, zO_istore, zO_astore_n0, zO_astore_n1, zO_astore_n2, zO_astore_n3, zO_astore, zO_lstore, zO_iinc, zO_iconst, zO_bipush, zO_sipush, zO_lconst0, zO_lconst1, zO_ldc, zO_ldc2_w, zO_iadd, zO_isub, zO_imul, zO_idiv, zO_irem, zO_ineg, zO_iand, zO_ior, zO_ixor, zO_ishl, zO_ishr, zO_iushr, zO_ladd, zO_lmul, zO_land, zO_lor, zO_lshl, zO_lcmp, zO_i2l, zO_l2i, zO_i2b, zO_dup0, zO_dup2, zO_dup200, zO_dup202, zO_dup220, zO_dup222, zO_ifCond_eq, zO_ifCond_ne, zO_ifCond_lt, zO_ifCond_ge, zO_ifCond_gt, zO_ifCond_le, zO_if_icmp_eq, zO_if_icmp_ne, zO_if_icmp_lt, zO_if_icmp_ge, zO_if_icmp_gt, zO_if_icmp_le, zO_getfield, zO_putfield, zO_iaload, zO_baload, zO_laload, zO_iastore, zO_bastore, zO_lastore, zO_arraylength, zO_invokevirtual, zO_lreturn, zO_areturn, zO_return_, zO_tableswitch, zO_lookupswitch, zO_is0, zO_is1, zO_is2, zO_is3, zO_is4, zO_is9, zO_is10, zO_is11, zO_is12, zO_ir1, zO_ir4, zB_c, zLd_0, zLd_s, zSt_c, zSt2_c, zU_c, zD_c, zY_c, zSw_n, zSw_c, zCall_c, zVirt_c, zP_0, zP_1, zP_2, zP_3, zP_4, zGet_n, zGet_z, zPut_n, zPut_z, zcw_n, zcw_0, zcw_1, zcw_2, List.length_cons, List.length_nil, List.take_succ_cons, List.take_zero, List.drop_succ_cons, List.drop_zero, List.reverse_cons, List.reverse_nil, List.nil_append, List.cons_append, List.append_nil, List.set_cons_zero, List.set_cons_succ, List.getD_cons_zero, List.getD_cons_succ, true_and, and_true, ne_eq, not_false_eq_true, not_true_eq_false, zif, Nat.reduceAdd, Nat.reduceLeDiff, Nat.reduceLT, Nat.reduceSub, Nat.reduceEqDiff, Nat.zero_le, Nat.lt_add_one, Nat.reduceMod, false_implies, true_implies, implies_true, forall_const, Int.reduceLE, Int.reduceLT, Int.reduceEq, Int.reduceNeg, ite10_0, ite10_1, zem, zem2, Classical.not_not, and_self, zT_0, zN_0, zT_39, zN_39, zAl_99]
    try simp (disch := omega) only [zw_e]
    try simp only [b1, c1, b2, c2, b3, c3, b4, c4, b5, c5, true_and]
    refine zuse (ho μ hr) (fun r u h => ?_)
    obtain ⟨⟨e8, e9⟩, h2⟩ := h
    try simp only [e8, e9, b1, c1, b2, c2, b3, c3, b4, c4, b5, c5, true_and]
    refine zuse h2 (fun r' w h3 => ?_)
    obtain ⟨rfl, hr2, w8, w9⟩ := h3
    try simp only [zcmp_eq]
    first | exact ⟨fun _ => hn w hr2 w8 w9, fun h => absurd rfl h⟩ | exact ⟨fun _ => hn w hr2 w8 w9, fun h => absurd trivial h⟩
theorem law_22 (ho : ∀ a1 a2 a3 : Int, zOp 72 164 [(0, a1), (0, a2), (0, a3)]) {i : Int} {μ : zM} (hr : Rel μ) (hL : μ 98 0 ≤ 3072) (i0 : 0 ≤ i) (i1 : i + 6 ≤ μ 98 0) (hn : ∀ w, Rel w → w 98 = μ 98 → w 99 = μ 99 → zR 40 193 (fun r _ => r = 1) 1417 [(2, 99), (2, 0), (2, 39), (0, i)] [] w) : zR 40 193 (fun r _ => r = 1) 867 [(2, 99), (2, 0), (2, 39), (0, i)] [] μ := by
    have b1 : 0 ≤ i + 1 := by omega
    have c1 : i + 1 < μ 98 0 := by omega
    have b2 : 0 ≤ i + 2 := by omega
    have c2 : i + 2 < μ 98 0 := by omega
    have b3 : 0 ≤ i + 3 := by omega
    have c3 : i + 3 < μ 98 0 := by omega
    have b4 : 0 ≤ i + 4 := by omega
    have c4 : i + 4 < μ 98 0 := by omega
    have b5 : 0 ≤ i + 5 := by omega
    have c5 : i + 5 < μ 98 0 := by omega
    rw [u193_867]
    simp only [k193_867, zO_nop, zO_goto, zO_iload_n0, zO_iload_n1, zO_iload_n2, zO_iload_n3, zO_iload, zO_lload_n0, zO_lload_n1, zO_lload_n2, zO_lload_n3, zO_lload, zO_aload_n0, zO_aload_n1, zO_aload_n2, zO_aload_n3, zO_aload, zO_istore_n0, zO_istore_n1, zO_istore_n2, zO_istore_n3, zO_istore, zO_astore_n0, zO_astore_n1, zO_astore_n2, zO_astore_n3, zO_astore, zO_lstore, zO_iinc, zO_iconst, zO_bipush, zO_sipush, zO_lconst0, zO_lconst1, zO_ldc, zO_ldc2_w, zO_iadd, zO_isub, zO_imul, zO_idiv, zO_irem, zO_ineg, zO_iand, zO_ior, zO_ixor, zO_ishl, zO_ishr, zO_iushr, zO_ladd, zO_lmul, zO_land, zO_lor, zO_lshl, zO_lcmp, zO_i2l, zO_l2i, zO_i2b, zO_dup0, zO_dup2, zO_dup200, zO_dup202, zO_dup220, zO_dup222, zO_ifCond_eq, zO_ifCond_ne, zO_ifCond_lt, zO_ifCond_ge, zO_ifCond_gt, zO_ifCond_le, zO_if_icmp_eq, zO_if_icmp_ne, zO_if_icmp_lt, zO_if_icmp_ge, zO_if_icmp_gt, zO_if_icmp_le, zO_getfield, zO_putfield, zO_iaload, zO_baload, zO_laload, zO_iastore, zO_bastore, zO_lastore, zO_arraylength, zO_invokevirtual, zO_lreturn, zO_areturn, zO_return_, zO_tableswitch, zO_lookupswitch, zO_is0, zO_is1, zO_is2, zO_is3, zO_is4, zO_is9, zO_is10, zO_is11, zO_is12, zO_ir1, zO_ir4, zB_c, zLd_0, zLd_s, zSt_c, zSt2_c, zU_c, zD_c, zY_c, zSw_n, zSw_c, zCall_c, zVirt_c, zP_0, zP_1, zP_2, zP_3, zP_4, zGet_n, zGet_z, zPut_n, zPut_z, zcw_n, zcw_0, zcw_1, zcw_2, List.length_cons, List.length_nil, List.take_succ_cons, List.take_zero, List.drop_succ_cons, List.drop_zero, List.reverse_cons, List.reverse_nil, List.nil_append, List.cons_append, List.append_nil, List.set_cons_zero, List.set_cons_succ, List.getD_cons_zero, List.getD_cons_succ, true_and, and_true, ne_eq, not_false_eq_true, not_true_eq_false, zif, Nat.reduceAdd, Nat.reduceLeDiff, Nat.reduceLT, Nat.reduceSub, Nat.reduceEqDiff, Nat.zero_le, Nat.lt_add_one, Nat.reduceMod, false_implies, true_implies, implies_true, forall_const, Int.reduceLE, Int.reduceLT, Int.reduceEq, Int.reduceNeg, ite10_0, ite10_1, zem, zem2, Classical.not_not, and_self, zT_0, zN_0, zT_39, zN_39, zAl_99]
    try simp (disch := omega) only [zw_e]
    try simp only [b1, c1, b2, c2, b3, c3, b4, c4, b5, c5, true_and]
    refine zuse (ho _ _ _ μ hr) (fun r u h => ?_)
    obtain ⟨⟨e8, e9⟩, h2⟩ := h
    try simp only [e8, e9, b1, c1, b2, c2, b3, c3, b4, c4, b5, c5, true_and]
    refine zuse h2 (fun r' w h3 => ?_)
    obtain ⟨rfl, hr2, w8, w9⟩ := h3
    try simp only [zcmp_eq]
    first | exact ⟨fun _ => hn w hr2 w8 w9, fun h => absurd rfl h⟩ | exact ⟨fun _ => hn w hr2 w8 w9, fun h => absurd trivial h⟩
theorem law_23 (ho : ∀ a1 : Int, zOp 73 168 [(0, a1)]) {i : Int} {μ : zM} (hr : Rel μ) (hL : μ 98 0 ≤ 3072) (i0 : 0 ≤ i) (i1 : i + 6 ≤ μ 98 0) (hn : ∀ w, Rel w → w 98 = μ 98 → w 99 = μ 99 → zR 40 193 (fun r _ => r = 1) 1417 [(2, 99), (2, 0), (2, 39), (0, i)] [] w) : zR 40 193 (fun r _ => r = 1) 910 [(2, 99), (2, 0), (2, 39), (0, i)] [] μ := by
    have b1 : 0 ≤ i + 1 := by omega
    have c1 : i + 1 < μ 98 0 := by omega
    have b2 : 0 ≤ i + 2 := by omega
    have c2 : i + 2 < μ 98 0 := by omega
    have b3 : 0 ≤ i + 3 := by omega
    have c3 : i + 3 < μ 98 0 := by omega
    have b4 : 0 ≤ i + 4 := by omega
    have c4 : i + 4 < μ 98 0 := by omega
    have b5 : 0 ≤ i + 5 := by omega
    have c5 : i + 5 < μ 98 0 := by omega
    rw [u193_910]
    simp only [k193_910, zO_nop, zO_goto, zO_iload_n0, zO_iload_n1, zO_iload_n2, zO_iload_n3, zO_iload, zO_lload_n0, zO_lload_n1, zO_lload_n2, zO_lload_n3, zO_lload, zO_aload_n0, zO_aload_n1, zO_aload_n2, zO_aload_n3, zO_aload, zO_istore_n0, zO_istore_n1, zO_istore_n2, zO_istore_n3, zO_istore, zO_astore_n0, zO_astore_n1, zO_astore_n2, zO_astore_n3, zO_astore, zO_lstore, zO_iinc, zO_iconst, zO_bipush, zO_sipush, zO_lconst0, zO_lconst1, zO_ldc, zO_ldc2_w, zO_iadd, zO_isub, zO_imul, zO_idiv, zO_irem, zO_ineg, zO_iand, zO_ior, zO_ixor, zO_ishl, zO_ishr, zO_iushr, zO_ladd, zO_lmul, zO_land, zO_lor, zO_lshl, zO_lcmp, zO_i2l, zO_l2i, zO_i2b, zO_dup0, zO_dup2, zO_dup200, zO_dup202, zO_dup220, zO_dup222, zO_ifCond_eq, zO_ifCond_ne, zO_ifCond_lt, zO_ifCond_ge, zO_ifCond_gt, zO_ifCond_le, zO_if_icmp_eq, zO_if_icmp_ne, zO_if_icmp_lt, zO_if_icmp_ge, zO_if_icmp_gt, zO_if_icmp_le, zO_getfield, zO_putfield, zO_iaload, zO_baload, zO_laload, zO_iastore, zO_bastore, zO_lastore, zO_arraylength, zO_invokevirtual, zO_lreturn, zO_areturn, zO_return_, zO_tableswitch, zO_lookupswitch, zO_is0, zO_is1, zO_is2, zO_is3, zO_is4, zO_is9, zO_is10, zO_is11, zO_is12, zO_ir1, zO_ir4, zB_c, zLd_0, zLd_s, zSt_c, zSt2_c, zU_c, zD_c, zY_c, zSw_n, zSw_c, zCall_c, zVirt_c, zP_0, zP_1, zP_2, zP_3, zP_4, zGet_n, zGet_z, zPut_n, zPut_z, zcw_n, zcw_0, zcw_1, zcw_2, List.length_cons, List.length_nil, List.take_succ_cons, List.take_zero, List.drop_succ_cons, List.drop_zero, List.reverse_cons, List.reverse_nil, List.nil_append, List.cons_append, List.append_nil, List.set_cons_zero, List.set_cons_succ, List.getD_cons_zero, List.getD_cons_succ, true_and, and_true, ne_eq, not_false_eq_true, not_true_eq_false, zif, Nat.reduceAdd, Nat.reduceLeDiff, Nat.reduceLT, Nat.reduceSub, Nat.reduceEqDiff, Nat.zero_le, Nat.lt_add_one, Nat.reduceMod, false_implies, true_implies, implies_true, forall_const, Int.reduceLE, Int.reduceLT, Int.reduceEq, Int.reduceNeg, ite10_0, ite10_1, zem, zem2, Classical.not_not, and_self, zT_0, zN_0, zT_39, zN_39, zAl_99]
    try simp (disch := omega) only [zw_e]
    try simp only [b1, c1, b2, c2, b3, c3, b4, c4, b5, c5, true_and]
    refine zuse (ho _ μ hr) (fun r u h => ?_)
    obtain ⟨⟨e8, e9⟩, h2⟩ := h
    try simp only [e8, e9, b1, c1, b2, c2, b3, c3, b4, c4, b5, c5, true_and]
    refine zuse h2 (fun r' w h3 => ?_)
    obtain ⟨rfl, hr2, w8, w9⟩ := h3
    try simp only [zcmp_eq]
    first | exact ⟨fun _ => hn w hr2 w8 w9, fun h => absurd rfl h⟩ | exact ⟨fun _ => hn w hr2 w8 w9, fun h => absurd trivial h⟩
theorem law_24 (ho : ∀ a1 a2 : Int, zOp 74 171 [(0, a1), (0, a2)]) {i : Int} {μ : zM} (hr : Rel μ) (hL : μ 98 0 ≤ 3072) (i0 : 0 ≤ i) (i1 : i + 6 ≤ μ 98 0) (hn : ∀ w, Rel w → w 98 = μ 98 → w 99 = μ 99 → zR 40 193 (fun r _ => r = 1) 1417 [(2, 99), (2, 0), (2, 39), (0, i)] [] w) : zR 40 193 (fun r _ => r = 1) 933 [(2, 99), (2, 0), (2, 39), (0, i)] [] μ := by
    have b1 : 0 ≤ i + 1 := by omega
    have c1 : i + 1 < μ 98 0 := by omega
    have b2 : 0 ≤ i + 2 := by omega
    have c2 : i + 2 < μ 98 0 := by omega
    have b3 : 0 ≤ i + 3 := by omega
    have c3 : i + 3 < μ 98 0 := by omega
    have b4 : 0 ≤ i + 4 := by omega
    have c4 : i + 4 < μ 98 0 := by omega
    have b5 : 0 ≤ i + 5 := by omega
    have c5 : i + 5 < μ 98 0 := by omega
    rw [u193_933]
    simp only [k193_933, zO_nop, zO_goto, zO_iload_n0, zO_iload_n1, zO_iload_n2, zO_iload_n3, zO_iload, zO_lload_n0, zO_lload_n1, zO_lload_n2, zO_lload_n3, zO_lload, zO_aload_n0, zO_aload_n1, zO_aload_n2, zO_aload_n3, zO_aload, zO_istore_n0, zO_istore_n1, zO_istore_n2, zO_istore_n3, zO_istore, zO_astore_n0, zO_astore_n1, zO_astore_n2, zO_astore_n3, zO_astore, zO_lstore, zO_iinc, zO_iconst, zO_bipush, zO_sipush, zO_lconst0, zO_lconst1, zO_ldc, zO_ldc2_w, zO_iadd, zO_isub, zO_imul, zO_idiv, zO_irem, zO_ineg, zO_iand, zO_ior, zO_ixor, zO_ishl, zO_ishr, zO_iushr, zO_ladd, zO_lmul, zO_land, zO_lor, zO_lshl, zO_lcmp, zO_i2l, zO_l2i, zO_i2b, zO_dup0, zO_dup2, zO_dup200, zO_dup202, zO_dup220, zO_dup222, zO_ifCond_eq, zO_ifCond_ne, zO_ifCond_lt, zO_ifCond_ge, zO_ifCond_gt, zO_ifCond_le, zO_if_icmp_eq, zO_if_icmp_ne, zO_if_icmp_lt, zO_if_icmp_ge, zO_if_icmp_gt, zO_if_icmp_le, zO_getfield, zO_putfield, zO_iaload, zO_baload, zO_laload, zO_iastore, zO_bastore, zO_lastore, zO_arraylength, zO_invokevirtual, zO_lreturn, zO_areturn, zO_return_, zO_tableswitch, zO_lookupswitch, zO_is0, zO_is1, zO_is2, zO_is3, zO_is4, zO_is9, zO_is10, zO_is11, zO_is12, zO_ir1, zO_ir4, zB_c, zLd_0, zLd_s, zSt_c, zSt2_c, zU_c, zD_c, zY_c, zSw_n, zSw_c, zCall_c, zVirt_c, zP_0, zP_1, zP_2, zP_3, zP_4, zGet_n, zGet_z, zPut_n, zPut_z, zcw_n, zcw_0, zcw_1, zcw_2, List.length_cons, List.length_nil, List.take_succ_cons, List.take_zero, List.drop_succ_cons, List.drop_zero, List.reverse_cons, List.reverse_nil, List.nil_append, List.cons_append, List.append_nil, List.set_cons_zero, List.set_cons_succ, List.getD_cons_zero, List.getD_cons_succ, true_and, and_true, ne_eq, not_false_eq_true, not_true_eq_false, zif, Nat.reduceAdd, Nat.reduceLeDiff, Nat.reduceLT, Nat.reduceSub, Nat.reduceEqDiff, Nat.zero_le, Nat.lt_add_one, Nat.reduceMod, false_implies, true_implies, implies_true, forall_const, Int.reduceLE, Int.reduceLT, Int.reduceEq, Int.reduceNeg, ite10_0, ite10_1, zem, zem2, Classical.not_not, and_self, zT_0, zN_0, zT_39, zN_39, zAl_99]
    try simp (disch := omega) only [zw_e]
    try simp only [b1, c1, b2, c2, b3, c3, b4, c4, b5, c5, true_and]
    refine zuse (ho _ _ μ hr) (fun r u h => ?_)
    obtain ⟨⟨e8, e9⟩, h2⟩ := h
    try simp only [e8, e9, b1, c1, b2, c2, b3, c3, b4, c4, b5, c5, true_and]
    refine zuse h2 (fun r' w h3 => ?_)
    obtain ⟨rfl, hr2, w8, w9⟩ := h3
    try simp only [zcmp_eq]
    first | exact ⟨fun _ => hn w hr2 w8 w9, fun h => absurd rfl h⟩ | exact ⟨fun _ => hn w hr2 w8 w9, fun h => absurd trivial h⟩
theorem law_25 (ho : ∀ a1 a2 a3 : Int, zOp 75 172 [(0, a1), (0, a2), (0, a3)]) {i : Int} {μ : zM} (hr : Rel μ) (hL : μ 98 0 ≤ 3072) (i0 : 0 ≤ i) (i1 : i + 6 ≤ μ 98 0) (hn : ∀ w, Rel w → w 98 = μ 98 → w 99 = μ 99 → zR 40 193 (fun r _ => r = 1) 1417 [(2, 99), (2, 0), (2, 39), (0, i)] [] w) : zR 40 193 (fun r _ => r = 1) 966 [(2, 99), (2, 0), (2, 39), (0, i)] [] μ := by
    have b1 : 0 ≤ i + 1 := by omega
    have c1 : i + 1 < μ 98 0 := by omega
    have b2 : 0 ≤ i + 2 := by omega
    have c2 : i + 2 < μ 98 0 := by omega
    have b3 : 0 ≤ i + 3 := by omega
    have c3 : i + 3 < μ 98 0 := by omega
    have b4 : 0 ≤ i + 4 := by omega
    have c4 : i + 4 < μ 98 0 := by omega
    have b5 : 0 ≤ i + 5 := by omega
    have c5 : i + 5 < μ 98 0 := by omega
    rw [u193_966]
    simp only [k193_966, zO_nop, zO_goto, zO_iload_n0, zO_iload_n1, zO_iload_n2, zO_iload_n3, zO_iload, zO_lload_n0, zO_lload_n1, zO_lload_n2, zO_lload_n3, zO_lload, zO_aload_n0, zO_aload_n1, zO_aload_n2, zO_aload_n3, zO_aload, zO_istore_n0, zO_istore_n1, zO_istore_n2, zO_istore_n3, zO_istore, zO_astore_n0, zO_astore_n1, zO_astore_n2, zO_astore_n3, zO_astore, zO_lstore, zO_iinc, zO_iconst, zO_bipush, zO_sipush, zO_lconst0, zO_lconst1, zO_ldc, zO_ldc2_w, zO_iadd, zO_isub, zO_imul, zO_idiv, zO_irem, zO_ineg, zO_iand, zO_ior, zO_ixor, zO_ishl, zO_ishr, zO_iushr, zO_ladd, zO_lmul, zO_land, zO_lor, zO_lshl, zO_lcmp, zO_i2l, zO_l2i, zO_i2b, zO_dup0, zO_dup2, zO_dup200, zO_dup202, zO_dup220, zO_dup222, zO_ifCond_eq, zO_ifCond_ne, zO_ifCond_lt, zO_ifCond_ge, zO_ifCond_gt, zO_ifCond_le, zO_if_icmp_eq, zO_if_icmp_ne, zO_if_icmp_lt, zO_if_icmp_ge, zO_if_icmp_gt, zO_if_icmp_le, zO_getfield, zO_putfield, zO_iaload, zO_baload, zO_laload, zO_iastore, zO_bastore, zO_lastore, zO_arraylength, zO_invokevirtual, zO_lreturn, zO_areturn, zO_return_, zO_tableswitch, zO_lookupswitch, zO_is0, zO_is1, zO_is2, zO_is3, zO_is4, zO_is9, zO_is10, zO_is11, zO_is12, zO_ir1, zO_ir4, zB_c, zLd_0, zLd_s, zSt_c, zSt2_c, zU_c, zD_c, zY_c, zSw_n, zSw_c, zCall_c, zVirt_c, zP_0, zP_1, zP_2, zP_3, zP_4, zGet_n, zGet_z, zPut_n, zPut_z, zcw_n, zcw_0, zcw_1, zcw_2, List.length_cons, List.length_nil, List.take_succ_cons, List.take_zero, List.drop_succ_cons, List.drop_zero, List.reverse_cons, List.reverse_nil, List.nil_append, List.cons_append, List.append_nil, List.set_cons_zero, List.set_cons_succ, List.getD_cons_zero, List.getD_cons_succ, true_and, and_true, ne_eq, not_false_eq_true, not_true_eq_false, zif, Nat.reduceAdd, Nat.reduceLeDiff, Nat.reduceLT, Nat.reduceSub, Nat.reduceEqDiff, Nat.zero_le, Nat.lt_add_one, Nat.reduceMod, false_implies, true_implies, implies_true, forall_const, Int.reduceLE, Int.reduceLT, Int.reduceEq, Int.reduceNeg, ite10_0, ite10_1, zem, zem2, Classical.not_not, and_self, zT_0, zN_0, zT_39, zN_39, zAl_99]
    try simp (disch := omega) only [zw_e]
    try simp only [b1, c1, b2, c2, b3, c3, b4, c4, b5, c5, true_and]
    refine zuse (ho _ _ _ μ hr) (fun r u h => ?_)
    obtain ⟨⟨e8, e9⟩, h2⟩ := h
    try simp only [e8, e9, b1, c1, b2, c2, b3, c3, b4, c4, b5, c5, true_and]
    refine zuse h2 (fun r' w h3 => ?_)
    obtain ⟨rfl, hr2, w8, w9⟩ := h3
    try simp only [zcmp_eq]
    first | exact ⟨fun _ => hn w hr2 w8 w9, fun h => absurd rfl h⟩ | exact ⟨fun _ => hn w hr2 w8 w9, fun h => absurd trivial h⟩
theorem law_26 (ho : ∀ a1 a2 a3 a4 a5 : Int, zOp 76 174 [(0, a1), (0, a2), (0, a3), (0, a4), (0, a5)]) {i : Int} {μ : zM} (hr : Rel μ) (hL : μ 98 0 ≤ 3072) (i0 : 0 ≤ i) (i1 : i + 6 ≤ μ 98 0) (hn : ∀ w, Rel w → w 98 = μ 98 → w 99 = μ 99 → zR 40 193 (fun r _ => r = 1) 1417 [(2, 99), (2, 0), (2, 39), (0, i)] [] w) : zR 40 193 (fun r _ => r = 1) 1009 [(2, 99), (2, 0), (2, 39), (0, i)] [] μ := by
    have b1 : 0 ≤ i + 1 := by omega
    have c1 : i + 1 < μ 98 0 := by omega
    have b2 : 0 ≤ i + 2 := by omega
    have c2 : i + 2 < μ 98 0 := by omega
    have b3 : 0 ≤ i + 3 := by omega
    have c3 : i + 3 < μ 98 0 := by omega
    have b4 : 0 ≤ i + 4 := by omega
    have c4 : i + 4 < μ 98 0 := by omega
    have b5 : 0 ≤ i + 5 := by omega
    have c5 : i + 5 < μ 98 0 := by omega
    rw [u193_1009]
    simp only [k193_1009, zO_nop, zO_goto, zO_iload_n0, zO_iload_n1, zO_iload_n2, zO_iload_n3, zO_iload, zO_lload_n0, zO_lload_n1, zO_lload_n2, zO_lload_n3, zO_lload, zO_aload_n0, zO_aload_n1, zO_aload_n2, zO_aload_n3, zO_aload, zO_istore_n0, zO_istore_n1, zO_istore_n2, zO_istore_n3, zO_istore, zO_astore_n0, zO_astore_n1, zO_astore_n2, zO_astore_n3, zO_astore, zO_lstore, zO_iinc, zO_iconst, zO_bipush, zO_sipush, zO_lconst0, zO_lconst1, zO_ldc, zO_ldc2_w, zO_iadd, zO_isub, zO_imul, zO_idiv, zO_irem, zO_ineg, zO_iand, zO_ior, zO_ixor, zO_ishl, zO_ishr, zO_iushr, zO_ladd, zO_lmul, zO_land, zO_lor, zO_lshl, zO_lcmp, zO_i2l, zO_l2i, zO_i2b, zO_dup0, zO_dup2, zO_dup200, zO_dup202, zO_dup220, zO_dup222, zO_ifCond_eq, zO_ifCond_ne, zO_ifCond_lt, zO_ifCond_ge, zO_ifCond_gt, zO_ifCond_le, zO_if_icmp_eq, zO_if_icmp_ne, zO_if_icmp_lt, zO_if_icmp_ge, zO_if_icmp_gt, zO_if_icmp_le, zO_getfield, zO_putfield, zO_iaload, zO_baload, zO_laload, zO_iastore, zO_bastore, zO_lastore, zO_arraylength, zO_invokevirtual, zO_lreturn, zO_areturn, zO_return_, zO_tableswitch, zO_lookupswitch, zO_is0, zO_is1, zO_is2, zO_is3, zO_is4, zO_is9, zO_is10, zO_is11, zO_is12, zO_ir1, zO_ir4, zB_c, zLd_0, zLd_s, zSt_c, zSt2_c, zU_c, zD_c, zY_c, zSw_n, zSw_c, zCall_c, zVirt_c, zP_0, zP_1, zP_2, zP_3, zP_4, zGet_n, zGet_z, zPut_n, zPut_z, zcw_n, zcw_0, zcw_1, zcw_2, List.length_cons, List.length_nil, List.take_succ_cons, List.take_zero, List.drop_succ_cons, List.drop_zero, List.reverse_cons, List.reverse_nil, List.nil_append, List.cons_append, List.append_nil, List.set_cons_zero, List.set_cons_succ, List.getD_cons_zero, List.getD_cons_succ, true_and, and_true, ne_eq, not_false_eq_true, not_true_eq_false, zif, Nat.reduceAdd, Nat.reduceLeDiff, Nat.reduceLT, Nat.reduceSub, Nat.reduceEqDiff, Nat.zero_le, Nat.lt_add_one, Nat.reduceMod, false_implies, true_implies, implies_true, forall_const, Int.reduceLE, Int.reduceLT, Int.reduceEq, Int.reduceNeg, ite10_0, ite10_1, zem, zem2, Classical.not_not, and_self, zT_0, zN_0, zT_39, zN_39, zAl_99]
    try simp (disch := omega) only [zw_e]
    try simp only [b1, c1, b2, c2, b3, c3, b4, c4, b5, c5, true_and]
    refine zuse (ho _ _ _ _ _ μ hr) (fun r u h => ?_)
    obtain ⟨⟨e8, e9⟩, h2⟩ := h
    try simp only [e8, e9, b1, c1, b2, c2, b3, c3, b4, c4, b5, c5, true_and]
    refine zuse h2 (fun r' w h3 => ?_)
    obtain ⟨rfl, hr2, w8, w9⟩ := h3
    try simp only [zcmp_eq]
    first | exact ⟨fun _ => hn w hr2 w8 w9, fun h => absurd rfl h⟩ | exact ⟨fun _ => hn w hr2 w8 w9, fun h => absurd trivial h⟩
theorem law_27 (ho : ∀ a1 a2 : Int, zOp 77 175 [(0, a1), (0, a2)]) {i : Int} {μ : zM} (hr : Rel μ) (hL : μ 98 0 ≤ 3072) (i0 : 0 ≤ i) (i1 : i + 6 ≤ μ 98 0) (hn : ∀ w, Rel w → w 98 = μ 98 → w 99 = μ 99 → zR 40 193 (fun r _ => r = 1) 1417 [(2, 99), (2, 0), (2, 39), (0, i)] [] w) : zR 40 193 (fun r _ => r = 1) 1073 [(2, 99), (2, 0), (2, 39), (0, i)] [] μ := by
    have b1 : 0 ≤ i + 1 := by omega
    have c1 : i + 1 < μ 98 0 := by omega
    have b2 : 0 ≤ i + 2 := by omega
    have c2 : i + 2 < μ 98 0 := by omega
    have b3 : 0 ≤ i + 3 := by omega
    have c3 : i + 3 < μ 98 0 := by omega
    have b4 : 0 ≤ i + 4 := by omega
    have c4 : i + 4 < μ 98 0 := by omega
    have b5 : 0 ≤ i + 5 := by omega
    have c5 : i + 5 < μ 98 0 := by omega
    rw [u193_1073]
    simp only [k193_1073, zO_nop, zO_goto, zO_iload_n0, zO_iload_n1, zO_iload_n2, zO_iload_n3, zO_iload, zO_lload_n0, zO_lload_n1, zO_lload_n2, zO_lload_n3, zO_lload, zO_aload_n0, zO_aload_n1, zO_aload_n2, zO_aload_n3, zO_aload, zO_istore_n0, zO_istore_n1, zO_istore_n2, zO_istore_n3, zO_istore, zO_astore_n0, zO_astore_n1, zO_astore_n2, zO_astore_n3, zO_astore, zO_lstore, zO_iinc, zO_iconst, zO_bipush, zO_sipush, zO_lconst0, zO_lconst1, zO_ldc, zO_ldc2_w, zO_iadd, zO_isub, zO_imul, zO_idiv, zO_irem, zO_ineg, zO_iand, zO_ior, zO_ixor, zO_ishl, zO_ishr, zO_iushr, zO_ladd, zO_lmul, zO_land, zO_lor, zO_lshl, zO_lcmp, zO_i2l, zO_l2i, zO_i2b, zO_dup0, zO_dup2, zO_dup200, zO_dup202, zO_dup220, zO_dup222, zO_ifCond_eq, zO_ifCond_ne, zO_ifCond_lt, zO_ifCond_ge, zO_ifCond_gt, zO_ifCond_le, zO_if_icmp_eq, zO_if_icmp_ne, zO_if_icmp_lt, zO_if_icmp_ge, zO_if_icmp_gt, zO_if_icmp_le, zO_getfield, zO_putfield, zO_iaload, zO_baload, zO_laload, zO_iastore, zO_bastore, zO_lastore, zO_arraylength, zO_invokevirtual, zO_lreturn, zO_areturn, zO_return_, zO_tableswitch, zO_lookupswitch, zO_is0, zO_is1, zO_is2, zO_is3, zO_is4, zO_is9, zO_is10, zO_is11, zO_is12, zO_ir1, zO_ir4, zB_c, zLd_0, zLd_s, zSt_c, zSt2_c, zU_c, zD_c, zY_c, zSw_n, zSw_c, zCall_c, zVirt_c, zP_0, zP_1, zP_2, zP_3, zP_4, zGet_n, zGet_z, zPut_n, zPut_z, zcw_n, zcw_0, zcw_1, zcw_2, List.length_cons, List.length_nil, List.take_succ_cons, List.take_zero, List.drop_succ_cons, List.drop_zero, List.reverse_cons, List.reverse_nil, List.nil_append, List.cons_append, List.append_nil, List.set_cons_zero, List.set_cons_succ, List.getD_cons_zero, List.getD_cons_succ, true_and, and_true, ne_eq, not_false_eq_true, not_true_eq_false, zif, Nat.reduceAdd, Nat.reduceLeDiff, Nat.reduceLT, Nat.reduceSub, Nat.reduceEqDiff, Nat.zero_le, Nat.lt_add_one, Nat.reduceMod, false_implies, true_implies, implies_true, forall_const, Int.reduceLE, Int.reduceLT, Int.reduceEq, Int.reduceNeg, ite10_0, ite10_1, zem, zem2, Classical.not_not, and_self, zT_0, zN_0, zT_39, zN_39, zAl_99]
    try simp (disch := omega) only [zw_e]
    try simp only [b1, c1, b2, c2, b3, c3, b4, c4, b5, c5, true_and]
    refine zuse (ho _ _ μ hr) (fun r u h => ?_)
    obtain ⟨⟨e8, e9⟩, h2⟩ := h
    try simp only [e8, e9, b1, c1, b2, c2, b3, c3, b4, c4, b5, c5, true_and]
    refine zuse h2 (fun r' w h3 => ?_)
    obtain ⟨rfl, hr2, w8, w9⟩ := h3
    try simp only [zcmp_eq]
    first | exact ⟨fun _ => hn w hr2 w8 w9, fun h => absurd rfl h⟩ | exact ⟨fun _ => hn w hr2 w8 w9, fun h => absurd trivial h⟩
theorem law_28 (ho : ∀ a1 a2 : Int, zOp 78 177 [(0, a1), (0, a2)]) {i : Int} {μ : zM} (hr : Rel μ) (hL : μ 98 0 ≤ 3072) (i0 : 0 ≤ i) (i1 : i + 6 ≤ μ 98 0) (hn : ∀ w, Rel w → w 98 = μ 98 → w 99 = μ 99 → zR 40 193 (fun r _ => r = 1) 1417 [(2, 99), (2, 0), (2, 39), (0, i)] [] w) : zR 40 193 (fun r _ => r = 1) 1106 [(2, 99), (2, 0), (2, 39), (0, i)] [] μ := by
    have b1 : 0 ≤ i + 1 := by omega
    have c1 : i + 1 < μ 98 0 := by omega
    have b2 : 0 ≤ i + 2 := by omega
    have c2 : i + 2 < μ 98 0 := by omega
    have b3 : 0 ≤ i + 3 := by omega
    have c3 : i + 3 < μ 98 0 := by omega
    have b4 : 0 ≤ i + 4 := by omega
    have c4 : i + 4 < μ 98 0 := by omega
    have b5 : 0 ≤ i + 5 := by omega
    have c5 : i + 5 < μ 98 0 := by omega
    rw [u193_1106]
    simp only [k193_1106, zO_nop, zO_goto, zO_iload_n0, zO_iload_n1, zO_iload_n2, zO_iload_n3, zO_iload, zO_lload_n0, zO_lload_n1, zO_lload_n2, zO_lload_n3, zO_lload, zO_aload_n0, zO_aload_n1, zO_aload_n2, zO_aload_n3, zO_aload, zO_istore_n0, zO_istore_n1, zO_istore_n2, zO_istore_n3, zO_istore, zO_astore_n0, zO_astore_n1, zO_astore_n2, zO_astore_n3, zO_astore, zO_lstore, zO_iinc, zO_iconst, zO_bipush, zO_sipush, zO_lconst0, zO_lconst1, zO_ldc, zO_ldc2_w, zO_iadd, zO_isub, zO_imul, zO_idiv, zO_irem, zO_ineg, zO_iand, zO_ior, zO_ixor, zO_ishl, zO_ishr, zO_iushr, zO_ladd, zO_lmul, zO_land, zO_lor, zO_lshl, zO_lcmp, zO_i2l, zO_l2i, zO_i2b, zO_dup0, zO_dup2, zO_dup200, zO_dup202, zO_dup220, zO_dup222, zO_ifCond_eq, zO_ifCond_ne, zO_ifCond_lt, zO_ifCond_ge, zO_ifCond_gt, zO_ifCond_le, zO_if_icmp_eq, zO_if_icmp_ne, zO_if_icmp_lt, zO_if_icmp_ge, zO_if_icmp_gt, zO_if_icmp_le, zO_getfield, zO_putfield, zO_iaload, zO_baload, zO_laload, zO_iastore, zO_bastore, zO_lastore, zO_arraylength, zO_invokevirtual, zO_lreturn, zO_areturn, zO_return_, zO_tableswitch, zO_lookupswitch, zO_is0, zO_is1, zO_is2, zO_is3, zO_is4, zO_is9, zO_is10, zO_is11, zO_is12, zO_ir1, zO_ir4, zB_c, zLd_0, zLd_s, zSt_c, zSt2_c, zU_c, zD_c, zY_c, zSw_n, zSw_c, zCall_c, zVirt_c, zP_0, zP_1, zP_2, zP_3, zP_4, zGet_n, zGet_z, zPut_n, zPut_z, zcw_n, zcw_0, zcw_1, zcw_2, List.length_cons, List.length_nil, List.take_succ_cons, List.take_zero, List.drop_succ_cons, List.drop_zero, List.reverse_cons, List.reverse_nil, List.nil_append, List.cons_append, List.append_nil, List.set_cons_zero, List.set_cons_succ, List.getD_cons_zero, List.getD_cons_succ, true_and, and_true, ne_eq, not_false_eq_true, not_true_eq_false, zif, Nat.reduceAdd, Nat.reduceLeDiff, Nat.reduceLT, Nat.reduceSub, Nat.reduceEqDiff, Nat.zero_le, Nat.lt_add_one, Nat.reduceMod, false_implies, true_implies, implies_true, forall_const, Int.reduceLE, Int.reduceLT, Int.reduceEq, Int.reduceNeg, ite10_0, ite10_1, zem, zem2, Classical.not_not, and_self, zT_0, zN_0, zT_39, zN_39, zAl_99]
    try simp (disch := omega) only [zw_e]
    try simp only [b1, c1, b2, c2, b3, c3, b4, c4, b5, c5, true_and]
    refine zuse (ho _ _ μ hr) (fun r u h => ?_)
    obtain ⟨⟨e8, e9⟩, h2⟩ := h
    try simp only [e8, e9, b1, c1, b2, c2, b3, c3, b4, c4, b5, c5, true_and]
    refine zuse h2 (fun r' w h3 => ?_)
    obtain ⟨rfl, hr2, w8, w9⟩ := h3
    try simp only [zcmp_eq]
    first | exact ⟨fun _ => hn w hr2 w8 w9, fun h => absurd rfl h⟩ | exact ⟨fun _ => hn w hr2 w8 w9, fun h => absurd trivial h⟩
theorem law_29 (ho : ∀ a1 : Int, zOp 79 180 [(0, a1)]) {i : Int} {μ : zM} (hr : Rel μ) (hL : μ 98 0 ≤ 3072) (i0 : 0 ≤ i) (i1 : i + 6 ≤ μ 98 0) (hn : ∀ w, Rel w → w 98 = μ 98 → w 99 = μ 99 → zR 40 193 (fun r _ => r = 1) 1417 [(2, 99), (2, 0), (2, 39), (0, i)] [] w) : zR 40 193 (fun r _ => r = 1) 1139 [(2, 99), (2, 0), (2, 39), (0, i)] [] μ := by
    have b1 : 0 ≤ i + 1 := by omega
    have c1 : i + 1 < μ 98 0 := by omega
    have b2 : 0 ≤ i + 2 := by omega
    have c2 : i + 2 < μ 98 0 := by omega
    have b3 : 0 ≤ i + 3 := by omega
    have c3 : i + 3 < μ 98 0 := by omega
    have b4 : 0 ≤ i + 4 := by omega
    have c4 : i + 4 < μ 98 0 := by omega
    have b5 : 0 ≤ i + 5 := by omega
    have c5 : i + 5 < μ 98 0 := by omega
    rw [u193_1139]
    simp only [k193_1139, zO_nop, zO_goto, zO_iload_n0, zO_iload_n1, zO_iload_n2, zO_iload_n3, zO_iload, zO_lload_n0, zO_lload_n1, zO_lload_n2, zO_lload_n3, zO_lload, zO_aload_n0, zO_aload_n1, zO_aload_n2, zO_aload_n3, zO_aload, zO_istore_n0, zO_istore_n1, zO_istore_n2, zO_istore_n3, zO_istore, zO_astore_n0, zO_astore_n1, zO_astore_n2, zO_astore_n3, zO_astore, zO_lstore, zO_iinc, zO_iconst, zO_bipush, zO_sipush, zO_lconst0, zO_lconst1, zO_ldc, zO_ldc2_w, zO_iadd, zO_isub, zO_imul, zO_idiv, zO_irem, zO_ineg, zO_iand, zO_ior, zO_ixor, zO_ishl, zO_ishr, zO_iushr, zO_ladd, zO_lmul, zO_land, zO_lor, zO_lshl, zO_lcmp, zO_i2l, zO_l2i, zO_i2b, zO_dup0, zO_dup2, zO_dup200, zO_dup202, zO_dup220, zO_dup222, zO_ifCond_eq, zO_ifCond_ne, zO_ifCond_lt, zO_ifCond_ge, zO_ifCond_gt, zO_ifCond_le, zO_if_icmp_eq, zO_if_icmp_ne, zO_if_icmp_lt, zO_if_icmp_ge, zO_if_icmp_gt, zO_if_icmp_le, zO_getfield, zO_putfield, zO_iaload, zO_baload, zO_laload, zO_iastore, zO_bastore, zO_lastore, zO_arraylength, zO_invokevirtual, zO_lreturn, zO_areturn, zO_return_, zO_tableswitch, zO_lookupswitch, zO_is0, zO_is1, zO_is2, zO_is3, zO_is4, zO_is9, zO_is10, zO_is11, zO_is12, zO_ir1, zO_ir4, zB_c, zLd_0, zLd_s, zSt_c, zSt2_c, zU_c, zD_c, zY_c, zSw_n, zSw_c, zCall_c, zVirt_c, zP_0, zP_1, zP_2, zP_3, zP_4, zGet_n, zGet_z, zPut_n, zPut_z, zcw_n, zcw_0, zcw_1, zcw_2, List.length_cons, List.length_nil, List.take_succ_cons, List.take_zero, List.drop_succ_cons, List.drop_zero, List.reverse_cons, List.reverse_nil, List.nil_append, List.cons_append, List.append_nil, List.set_cons_zero, List.set_cons_succ, List.getD_cons_zero, List.getD_cons_succ, true_and, and_true, ne_eq, not_false_eq_true, not_true_eq_false, zif, Nat.reduceAdd, Nat.reduceLeDiff, Nat.reduceLT, Nat.reduceSub, Nat.reduceEqDiff, Nat.zero_le, Nat.lt_add_one, Nat.reduceMod, false_implies, true_implies, implies_true, forall_const, Int.reduceLE, Int.reduceLT, Int.reduceEq, Int.reduceNeg, ite10_0, ite10_1, zem, zem2, Classical.not_not, and_self, zT_0, zN_0, zT_39, zN_39, zAl_99]
    try simp (disch := omega) only [zw_e]
    try simp only [b1, c1, b2, c2, b3, c3, b4, c4, b5, c5, true_and]
    refine zuse (ho _ μ hr) (fun r u h => ?_)
    obtain ⟨⟨e8, e9⟩, h2⟩ := h
    try simp only [e8, e9, b1, c1, b2, c2, b3, c3, b4, c4, b5, c5, true_and]
    refine zuse h2 (fun r' w h3 => ?_)
    obtain ⟨rfl, hr2, w8, w9⟩ := h3
    try simp only [zcmp_eq]
    first | exact ⟨fun _ => hn w hr2 w8 w9, fun h => absurd rfl h⟩ | exact ⟨fun _ => hn w hr2 w8 w9, fun h => absurd trivial h⟩
theorem law_30 (ho : ∀ a1 : Int, zOp 80 181 [(0, a1)]) {i : Int} {μ : zM} (hr : Rel μ) (hL : μ 98 0 ≤ 3072) (i0 : 0 ≤ i) (i1 : i + 6 ≤ μ 98 0) (hn : ∀ w, Rel w → w 98 = μ 98 → w 99 = μ 99 → zR 40 193 (fun r _ => r = 1) 1417 [(2, 99), (2, 0), (2, 39), (0, i)] [] w) : zR 40 193 (fun r _ => r = 1) 1162 [(2, 99), (2, 0), (2, 39), (0, i)] [] μ := by
    have b1 : 0 ≤ i + 1 := by omega
    have c1 : i + 1 < μ 98 0 := by omega
    have b2 : 0 ≤ i + 2 := by omega
    have c2 : i + 2 < μ 98 0 := by omega
    have b3 : 0 ≤ i + 3 := by omega
    have c3 : i + 3 < μ 98 0 := by omega
    have b4 : 0 ≤ i + 4 := by omega
    have c4 : i + 4 < μ 98 0 := by omega
    have b5 : 0 ≤ i + 5 := by omega
    have c5 : i + 5 < μ 98 0 := by omega
    rw [u193_1162]
    simp only [k193_1162, zO_nop, zO_goto, zO_iload_n0, zO_iload_n1, zO_iload_n2, zO_iload_n3, zO_iload, zO_lload_n0, zO_lload_n1, zO_lload_n2, zO_lload_n3, zO_lload, zO_aload_n0, zO_aload_n1, zO_aload_n2, zO_aload_n3, zO_aload, zO_istore_n0, zO_istore_n1, zO_istore_n2, zO_istore_n3, zO_istore, zO_astore_n0, zO_astore_n1, zO_astore_n2, zO_astore_n3, zO_astore, zO_lstore, zO_iinc, zO_iconst, zO_bipush, zO_sipush, zO_lconst0, zO_lconst1, zO_ldc, zO_ldc2_w, zO_iadd, zO_isub, zO_imul, zO_idiv, zO_irem, zO_ineg, zO_iand, zO_ior, zO_ixor, zO_ishl, zO_ishr, zO_iushr, zO_ladd, zO_lmul, zO_land, zO_lor, zO_lshl, zO_lcmp, zO_i2l, zO_l2i, zO_i2b, zO_dup0, zO_dup2, zO_dup200, zO_dup202, zO_dup220, zO_dup222, zO_ifCond_eq, zO_ifCond_ne, zO_ifCond_lt, zO_ifCond_ge, zO_ifCond_gt, zO_ifCond_le, zO_if_icmp_eq, zO_if_icmp_ne, zO_if_icmp_lt, zO_if_icmp_ge, zO_if_icmp_gt, zO_if_icmp_le, zO_getfield, zO_putfield, zO_iaload, zO_baload, zO_laload, zO_iastore, zO_bastore, zO_lastore, zO_arraylength, zO_invokevirtual, zO_lreturn, zO_areturn, zO_return_, zO_tableswitch, zO_lookupswitch, zO_is0, zO_is1, zO_is2, zO_is3, zO_is4, zO_is9, zO_is10, zO_is11, zO_is12, zO_ir1, zO_ir4, zB_c, zLd_0, zLd_s, zSt_c, zSt2_c, zU_c, zD_c, zY_c, zSw_n, zSw_c, zCall_c, zVirt_c, zP_0, zP_1, zP_2, zP_3, zP_4, zGet_n, zGet_z, zPut_n, zPut_z, zcw_n, zcw_0, zcw_1, zcw_2, List.length_cons, List.length_nil, List.take_succ_cons, List.take_zero, List.drop_succ_cons, List.drop_zero, List.reverse_cons, List.reverse_nil, List.nil_append, List.cons_append, List.append_nil, List.set_cons_zero, List.set_cons_succ, List.getD_cons_zero, List.getD_cons_succ, true_and, and_true, ne_eq, not_false_eq_true, not_true_eq_false, zif, Nat.reduceAdd, Nat.reduceLeDiff, Nat.reduceLT, Nat.reduceSub, Nat.reduceEqDiff, Nat.zero_le, Nat.lt_add_one, Nat.reduceMod, false_implies, true_implies, implies_true, forall_const, Int.reduceLE, Int.reduceLT, Int.reduceEq, Int.reduceNeg, ite10_0, ite10_1, zem, zem2, Classical.not_not, and_self, zT_0, zN_0, zT_39, zN_39, zAl_99]
    try simp (disch := omega) only [zw_e]
    try simp only [b1, c1, b2, c2, b3, c3, b4, c4, b5, c5, true_and]
    refine zuse (ho _ μ hr) (fun r u h => ?_)
    obtain ⟨⟨e8, e9⟩, h2⟩ := h
    try simp only [e8, e9, b1, c1, b2, c2, b3, c3, b4, c4, b5, c5, true_and]
    refine zuse h2 (fun r' w h3 => ?_)
    obtain ⟨rfl, hr2, w8, w9⟩ := h3
    try simp only [zcmp_eq]
    first | exact ⟨fun _ => hn w hr2 w8 w9, fun h => absurd rfl h⟩ | exact ⟨fun _ => hn w hr2 w8 w9, fun h => absurd trivial h⟩
theorem law_31 (ho : ∀ a1 a2 a3 : Int, zOp 81 183 [(0, a1), (0, a2), (0, a3)]) {i : Int} {μ : zM} (hr : Rel μ) (hL : μ 98 0 ≤ 3072) (i0 : 0 ≤ i) (i1 : i + 6 ≤ μ 98 0) (hn : ∀ w, Rel w → w 98 = μ 98 → w 99 = μ 99 → zR 40 193 (fun r _ => r = 1) 1417 [(2, 99), (2, 0), (2, 39), (0, i)] [] w) : zR 40 193 (fun r _ => r = 1) 1185 [(2, 99), (2, 0), (2, 39), (0, i)] [] μ := by
    have b1 : 0 ≤ i + 1 := by omega
    have c1 : i + 1 < μ 98 0 := by omega
    have b2 : 0 ≤ i + 2 := by omega
    have c2 : i + 2 < μ 98 0 := by omega
    have b3 : 0 ≤ i + 3 := by omega
    have c3 : i + 3 < μ 98 0 := by omega
    have b4 : 0 ≤ i + 4 := by omega
    have c4 : i + 4 < μ 98 0 := by omega
    have b5 : 0 ≤ i + 5 := by omega
    have c5 : i + 5 < μ 98 0 := by omega
    rw [u193_1185]
    simp only [k193_1185, zO_nop, zO_goto, zO_iload_n0, zO_iload_n1, zO_iload_n2, zO_iload_n3, zO_iload, zO_lload_n0, zO_lload_n1, zO_lload_n2, zO_lload_n3, zO_lload, zO_aload_n0, zO_aload_n1, zO_aload_n2, zO_aload_n3, zO_aload, zO_istore_n0, zO_istore_n1, zO_istore_n2, zO_istore_n3, zO_istore, zO_astore_n0, zO_astore_n1, zO_astore_n2, zO_astore_n3, zO_astore, zO_lstore, zO_iinc, zO_iconst, zO_bipush, zO_sipush, zO_lconst0, zO_lconst1, zO_ldc, zO_ldc2_w, zO_iadd, zO_isub, zO_imul, zO_idiv, zO_irem, zO_ineg, zO_iand, zO_ior, zO_ixor, zO_ishl, zO_ishr, zO_iushr, zO_ladd, zO_lmul, zO_land, zO_lor, zO_lshl, zO_lcmp, zO_i2l, zO_l2i, zO_i2b, zO_dup0, zO_dup2, zO_dup200, zO_dup202, zO_dup220, zO_dup222, zO_ifCond_eq, zO_ifCond_ne, zO_ifCond_lt, zO_ifCond_ge, zO_ifCond_gt, zO_ifCond_le, zO_if_icmp_eq, zO_if_icmp_ne, zO_if_icmp_lt, zO_if_icmp_ge, zO_if_icmp_gt, zO_if_icmp_le, zO_getfield, zO_putfield, zO_iaload, zO_baload, zO_laload, zO_iastore, zO_bastore, zO_lastore, zO_arraylength, zO_invokevirtual, zO_lreturn, zO_areturn, zO_return_, zO_tableswitch, zO_lookupswitch, zO_is0, zO_is1, zO_is2, zO_is3, zO_is4, zO_is9, zO_is10, zO_is11, zO_is12, zO_ir1, zO_ir4, zB_c, zLd_0, zLd_s, zSt_c, zSt2_c, zU_c, zD_c, zY_c, zSw_n, zSw_c, zCall_c, zVirt_c, zP_0, zP_1, zP_2, zP_3, zP_4, zGet_n, zGet_z, zPut_n, zPut_z, zcw_n, zcw_0, zcw_1, zcw_2, List.length_cons, List.length_nil, List.take_succ_cons, List.take_zero, List.drop_succ_cons, List.drop_zero, List.reverse_cons, List.reverse_nil, List.nil_append, List.cons_append, List.append_nil, List.set_cons_zero, List.set_cons_succ, List.getD_cons_zero, List.getD_cons_succ, true_and, and_true, ne_eq, not_false_eq_true, not_true_eq_false, zif, Nat.reduceAdd, Nat.reduceLeDiff, Nat.reduceLT, Nat.reduceSub, Nat.reduceEqDiff, Nat.zero_le, Nat.lt_add_one, Nat.reduceMod, false_implies, true_implies, implies_true, forall_const, Int.reduceLE, Int.reduceLT, Int.reduceEq, Int.reduceNeg, ite10_0, ite10_1, zem, zem2, Classical.not_not, and_self, zT_0, zN_0, zT_39, zN_39, zAl_99]
    try simp (disch := omega) only [zw_e]
    try simp only [b1, c1, b2, c2, b3, c3, b4, c4, b5, c5, true_and]
    refine zuse (ho _ _ _ μ hr) (fun r u h => ?_)
    obtain ⟨⟨e8, e9⟩, h2⟩ := h
    try simp only [e8, e9, b1, c1, b2, c2, b3, c3, b4, c4, b5, c5, true_and]
    refine zuse h2 (fun r' w h3 => ?_)
    obtain ⟨rfl, hr2, w8, w9⟩ := h3
    try simp only [zcmp_eq]
    first | exact ⟨fun _ => hn w hr2 w8 w9, fun h => absurd rfl h⟩ | exact ⟨fun _ => hn w hr2 w8 w9, fun h => absurd trivial h⟩
theorem law_32 (ho : ∀ a1 a2 : Int, zOp 82 184 [(0, a1), (0, a2)]) {i : Int} {μ : zM} (hr : Rel μ) (hL : μ 98 0 ≤ 3072) (i0 : 0 ≤ i) (i1 : i + 6 ≤ μ 98 0) (hn : ∀ w, Rel w → w 98 = μ 98 → w 99 = μ 99 → zR 40 193 (fun r _ => r = 1) 1417 [(2, 99), (2, 0), (2, 39), (0, i)] [] w) : zR 40 193 (fun r _ => r = 1) 1228 [(2, 99), (2, 0), (2, 39), (0, i)] [] μ := by
    have b1 : 0 ≤ i + 1 := by omega
    have c1 : i + 1 < μ 98 0 := by omega
    have b2 : 0 ≤ i + 2 := by omega
    have c2 : i + 2 < μ 98 0 := by omega
    have b3 : 0 ≤ i + 3 := by omega
    have c3 : i + 3 < μ 98 0 := by omega
    have b4 : 0 ≤ i + 4 := by omega
    have c4 : i + 4 < μ 98 0 := by omega
    have b5 : 0 ≤ i + 5 := by omega
    have c5 : i + 5 < μ 98 0 := by omega
    rw [u193_1228]
    simp only [k193_1228, zO_nop, zO_goto, zO_iload_n0, zO_iload_n1, zO_iload_n2, zO_iload_n3, zO_iload, zO_lload_n0, zO_lload_n1, zO_lload_n2, zO_lload_n3, zO_lload, zO_aload_n0, zO_aload_n1, zO_aload_n2, zO_aload_n3, zO_aload, zO_istore_n0, zO_istore_n1, zO_istore_n2, zO_istore_n3, zO_istore, zO_astore_n0, zO_astore_n1, zO_astore_n2, zO_astore_n3, zO_astore, zO_lstore, zO_iinc, zO_iconst, zO_bipush, zO_sipush, zO_lconst0, zO_lconst1, zO_ldc, zO_ldc2_w, zO_iadd, zO_isub, zO_imul, zO_idiv, zO_irem, zO_ineg, zO_iand, zO_ior, zO_ixor, zO_ishl, zO_ishr, zO_iushr, zO_ladd, zO_lmul, zO_land, zO_lor, zO_lshl, zO_lcmp, zO_i2l, zO_l2i, zO_i2b, zO_dup0, zO_dup2, zO_dup200, zO_dup202, zO_dup220, zO_dup222, zO_ifCond_eq, zO_ifCond_ne, zO_ifCond_lt, zO_ifCond_ge, zO_ifCond_gt, zO_ifCond_le, zO_if_icmp_eq, zO_if_icmp_ne, zO_if_icmp_lt, zO_if_icmp_ge, zO_if_icmp_gt, zO_if_icmp_le, zO_getfield, zO_putfield, zO_iaload, zO_baload, zO_laload, zO_iastore, zO_bastore, zO_lastore, zO_arraylength, zO_invokevirtual, zO_lreturn, zO_areturn, zO_return_, zO_tableswitch, zO_lookupswitch, zO_is0, zO_is1, zO_is2, zO_is3, zO_is4, zO_is9, zO_is10, zO_is11, zO_is12, zO_ir1, zO_ir4, zB_c, zLd_0, zLd_s, zSt_c, zSt2_c, zU_c, zD_c, zY_c, zSw_n, zSw_c, zCall_c, zVirt_c, zP_0, zP_1, zP_2, zP_3, zP_4, zGet_n, zGet_z, zPut_n, zPut_z, zcw_n, zcw_0, zcw_1, zcw_2, List.length_cons, List.length_nil, List.take_succ_cons, List.take_zero, List.drop_succ_cons, List.drop_zero, List.reverse_cons, List.reverse_nil, List.nil_append, List.cons_append, List.append_nil, List.set_cons_zero, List.set_cons_succ, List.getD_cons_zero, List.getD_cons_succ, true_and, and_true, ne_eq, not_false_eq_true, not_true_eq_false, zif, Nat.reduceAdd, Nat.reduceLeDiff, Nat.reduceLT, Nat.reduceSub, Nat.reduceEqDiff, Nat.zero_le, Nat.lt_add_one, Nat.reduceMod, false_implies, true_implies, implies_true, forall_const, Int.reduceLE, Int.reduceLT, Int.reduceEq, Int.reduceNeg, ite10_0, ite10_1, zem, zem2, Classical.not_not, and_self, zT_0, zN_0, zT_39, zN_39, zAl_99]
    try simp (disch := omega) only [zw_e]
    try simp only [b1, c1, b2, c2, b3, c3, b4, c4, b5, c5, true_and]
    refine zuse (ho _ _ μ hr) (fun r u h => ?_)
    obtain ⟨⟨e8, e9⟩, h2⟩ := h
    try simp only [e8, e9, b1, c1, b2, c2, b3, c3, b4, c4, b5, c5, true_and]
    refine zuse h2 (fun r' w h3 => ?_)
    obtain ⟨rfl, hr2, w8, w9⟩ := h3
    try simp only [zcmp_eq]
    first | exact ⟨fun _ => hn w hr2 w8 w9, fun h => absurd rfl h⟩ | exact ⟨fun _ => hn w hr2 w8 w9, fun h => absurd trivial h⟩
theorem law_33 (ho : ∀ a1 a2 a3 : Int, zOp 83 185 [(0, a1), (0, a2), (1, a3)]) {i : Int} {μ : zM} (hr : Rel μ) (hL : μ 98 0 ≤ 3072) (i0 : 0 ≤ i) (i1 : i + 6 ≤ μ 98 0) (hn : ∀ w, Rel w → w 98 = μ 98 → w 99 = μ 99 → zR 40 193 (fun r _ => r = 1) 1417 [(2, 99), (2, 0), (2, 39), (0, i)] [] w) : zR 40 193 (fun r _ => r = 1) 1261 [(2, 99), (2, 0), (2, 39), (0, i)] [] μ := by
    have b1 : 0 ≤ i + 1 := by omega
    have c1 : i + 1 < μ 98 0 := by omega
    have b2 : 0 ≤ i + 2 := by omega
    have c2 : i + 2 < μ 98 0 := by omega
    have b3 : 0 ≤ i + 3 := by omega
    have c3 : i + 3 < μ 98 0 := by omega
    have b4 : 0 ≤ i + 4 := by omega
    have c4 : i + 4 < μ 98 0 := by omega
    have b5 : 0 ≤ i + 5 := by omega
    have c5 : i + 5 < μ 98 0 := by omega
    rw [u193_1261]
    simp only [k193_1261, zO_nop, zO_goto, zO_iload_n0, zO_iload_n1, zO_iload_n2, zO_iload_n3, zO_iload, zO_lload_n0, zO_lload_n1, zO_lload_n2, zO_lload_n3, zO_lload, zO_aload_n0, zO_aload_n1, zO_aload_n2, zO_aload_n3, zO_aload, zO_istore_n0, zO_istore_n1, zO_istore_n2, zO_istore_n3, zO_istore, zO_astore_n0, zO_astore_n1, zO_astore_n2, zO_astore_n3, zO_astore, zO_lstore, zO_iinc, zO_iconst, zO_bipush, zO_sipush, zO_lconst0, zO_lconst1, zO_ldc, zO_ldc2_w, zO_iadd, zO_isub, zO_imul, zO_idiv, zO_irem, zO_ineg, zO_iand, zO_ior, zO_ixor, zO_ishl, zO_ishr, zO_iushr, zO_ladd, zO_lmul, zO_land, zO_lor, zO_lshl, zO_lcmp, zO_i2l, zO_l2i, zO_i2b, zO_dup0, zO_dup2, zO_dup200, zO_dup202, zO_dup220, zO_dup222, zO_ifCond_eq, zO_ifCond_ne, zO_ifCond_lt, zO_ifCond_ge, zO_ifCond_gt, zO_ifCond_le, zO_if_icmp_eq, zO_if_icmp_ne, zO_if_icmp_lt, zO_if_icmp_ge, zO_if_icmp_gt, zO_if_icmp_le, zO_getfield, zO_putfield, zO_iaload, zO_baload, zO_laload, zO_iastore, zO_bastore, zO_lastore, zO_arraylength, zO_invokevirtual, zO_lreturn, zO_areturn, zO_return_, zO_tableswitch, zO_lookupswitch, zO_is0, zO_is1, zO_is2, zO_is3, zO_is4, zO_is9, zO_is10, zO_is11, zO_is12, zO_ir1, zO_ir4, zB_c, zLd_0, zLd_s, zSt_c, zSt2_c, zU_c, zD_c, zY_c, zSw_n, zSw_c, zCall_c, zVirt_c, zP_0, zP_1, zP_2, zP_3, zP_4, zGet_n, zGet_z, zPut_n, zPut_z, zcw_n, zcw_0, zcw_1, zcw_2, List.length_cons, List.length_nil, List.take_succ_cons, List.take_zero, List.drop_succ_cons, List.drop_zero, List.reverse_cons, List.reverse_nil, List.nil_append, List.cons_append, List.append_nil, List.set_cons_zero, List.set_cons_succ, List.getD_cons_zero, List.getD_cons_succ, true_and, and_true, ne_eq, not_false_eq_true, not_true_eq_false, zif, Nat.reduceAdd, Nat.reduceLeDiff, Nat.reduceLT, Nat.reduceSub, Nat.reduceEqDiff, Nat.zero_le, Nat.lt_add_one, Nat.reduceMod, false_implies, true_implies, implies_true, forall_const, Int.reduceLE, Int.reduceLT, Int.reduceEq, Int.reduceNeg, ite10_0, ite10_1, zem, zem2, Classical.not_not, and_self, zT_0, zN_0, zT_39, zN_39, zAl_99]
    try simp (disch := omega) only [zw_e]
    try simp only [b1, c1, b2, c2, b3, c3, b4, c4, b5, c5, true_and]
    refine zuse (ho _ _ _ μ hr) (fun r u h => ?_)
    obtain ⟨⟨e8, e9⟩, h2⟩ := h
    try simp only [e8, e9, b1, c1, b2, c2, b3, c3, b4, c4, b5, c5, true_and]
    refine zuse h2 (fun r' w h3 => ?_)
    obtain ⟨rfl, hr2, w8, w9⟩ := h3
    try simp only [zcmp_eq]
    first | exact ⟨fun _ => hn w hr2 w8 w9, fun h => absurd rfl h⟩ | exact ⟨fun _ => hn w hr2 w8 w9, fun h => absurd trivial h⟩
theorem law_34 (ho : ∀ a1 a2 : Int, zOp 84 186 [(0, a1), (0, a2)]) {i : Int} {μ : zM} (hr : Rel μ) (hL : μ 98 0 ≤ 3072) (i0 : 0 ≤ i) (i1 : i + 6 ≤ μ 98 0) (hn : ∀ w, Rel w → w 98 = μ 98 → w 99 = μ 99 → zR 40 193 (fun r _ => r = 1) 1417 [(2, 99), (2, 0), (2, 39), (0, i)] [] w) : zR 40 193 (fun r _ => r = 1) 1334 [(2, 99), (2, 0), (2, 39), (0, i)] [] μ := by
    have b1 : 0 ≤ i + 1 := by omega
    have c1 : i + 1 < μ 98 0 := by omega
    have b2 : 0 ≤ i + 2 := by omega
    have c2 : i + 2 < μ 98 0 := by omega
    have b3 : 0 ≤ i + 3 := by omega
    have c3 : i + 3 < μ 98 0 := by omega
    have b4 : 0 ≤ i + 4 := by omega
    have c4 : i + 4 < μ 98 0 := by omega
    have b5 : 0 ≤ i + 5 := by omega
    have c5 : i + 5 < μ 98 0 := by omega
    rw [u193_1334]
    simp only [k193_1334, zO_nop, zO_goto, zO_iload_n0, zO_iload_n1, zO_iload_n2, zO_iload_n3, zO_iload, zO_lload_n0, zO_lload_n1, zO_lload_n2, zO_lload_n3, zO_lload, zO_aload_n0, zO_aload_n1, zO_aload_n2, zO_aload_n3, zO_aload, zO_istore_n0, zO_istore_n1, zO_istore_n2, zO_istore_n3, zO_istore, zO_astore_n0, zO_astore_n1, zO_astore_n2, zO_astore_n3, zO_astore, zO_lstore, zO_iinc, zO_iconst, zO_bipush, zO_sipush, zO_lconst0, zO_lconst1, zO_ldc, zO_ldc2_w, zO_iadd, zO_isub, zO_imul, zO_idiv, zO_irem, zO_ineg, zO_iand, zO_ior, zO_ixor, zO_ishl, zO_ishr, zO_iushr, zO_ladd, zO_lmul, zO_land, zO_lor, zO_lshl, zO_lcmp, zO_i2l, zO_l2i, zO_i2b, zO_dup0, zO_dup2, zO_dup200, zO_dup202, zO_dup220, zO_dup222, zO_ifCond_eq, zO_ifCond_ne, zO_ifCond_lt, zO_ifCond_ge, zO_ifCond_gt, zO_ifCond_le, zO_if_icmp_eq, zO_if_icmp_ne, zO_if_icmp_lt, zO_if_icmp_ge, zO_if_icmp_gt, zO_if_icmp_le, zO_getfield, zO_putfield, zO_iaload, zO_baload, zO_laload, zO_iastore, zO_bastore, zO_lastore, zO_arraylength, zO_invokevirtual, zO_lreturn, zO_areturn, zO_return_, zO_tableswitch, zO_lookupswitch, zO_is0, zO_is1, zO_is2, zO_is3, zO_is4, zO_is9, zO_is10, zO_is11, zO_is12, zO_ir1, zO_ir4, zB_c, zLd_0, zLd_s, zSt_c, zSt2_c, zU_c, zD_c, zY_c, zSw_n, zSw_c, zCall_c, zVirt_c, zP_0, zP_1, zP_2, zP_3, zP_4, zGet_n, zGet_z, zPut_n, zPut_z, zcw_n, zcw_0, zcw_1, zcw_2, List.length_cons, List.length_nil, List.take_succ_cons, List.take_zero, List.drop_succ_cons, List.drop_zero, List.reverse_cons, List.reverse_nil, List.nil_append, List.cons_append, List.append_nil, List.set_cons_zero, List.set_cons_succ, List.getD_cons_zero, List.getD_cons_succ, true_and, and_true, ne_eq, not_false_eq_true, not_true_eq_false, zif, Nat.reduceAdd, Nat.reduceLeDiff, Nat.reduceLT, Nat.reduceSub, Nat.reduceEqDiff, Nat.zero_le, Nat.lt_add_one, Nat.reduceMod, false_implies, true_implies, implies_true, forall_const, Int.reduceLE, Int.reduceLT, Int.reduceEq, Int.reduceNeg, ite10_0, ite10_1, zem, zem2, Classical.not_not, and_self, zT_0, zN_0, zT_39, zN_39, zAl_99]
    try simp (disch := omega) only [zw_e]
    try simp only [b1, c1, b2, c2, b3, c3, b4, c4, b5, c5, true_and]
    refine zuse (ho _ _ μ hr) (fun r u h => ?_)
    obtain ⟨⟨e8, e9⟩, h2⟩ := h
    try simp only [e8, e9, b1, c1, b2, c2, b3, c3, b4, c4, b5, c5, true_and]
    refine zuse h2 (fun r' w h3 => ?_)
    obtain ⟨rfl, hr2, w8, w9⟩ := h3
    try simp only [zcmp_eq]
    first | exact ⟨fun _ => hn w hr2 w8 w9, fun h => absurd rfl h⟩ | exact ⟨fun _ => hn w hr2 w8 w9, fun h => absurd trivial h⟩
theorem law_35 (ho : zOp 85 187 []) {i : Int} {μ : zM} (hr : Rel μ) (hL : μ 98 0 ≤ 3072) (i0 : 0 ≤ i) (i1 : i + 6 ≤ μ 98 0) (hn : ∀ w, Rel w → w 98 = μ 98 → w 99 = μ 99 → zR 40 193 (fun r _ => r = 1) 1417 [(2, 99), (2, 0), (2, 39), (0, i)] [] w) : zR 40 193 (fun r _ => r = 1) 1368 [(2, 99), (2, 0), (2, 39), (0, i)] [] μ := by
    have b1 : 0 ≤ i + 1 := by omega
    have c1 : i + 1 < μ 98 0 := by omega
    have b2 : 0 ≤ i + 2 := by omega
    have c2 : i + 2 < μ 98 0 := by omega
    have b3 : 0 ≤ i + 3 := by omega
    have c3 : i + 3 < μ 98 0 := by omega
    have b4 : 0 ≤ i + 4 := by omega
    have c4 : i + 4 < μ 98 0 := by omega
    have b5 : 0 ≤ i + 5 := by omega
    have c5 : i + 5 < μ 98 0 := by omega
    rw [u193_1368]
    simp only [k193_1368, zO_nop, zO_goto, zO_iload_n0, zO_iload_n1, zO_iload_n2, zO_iload_n3, zO_iload, zO_lload_n0, zO_lload_n1, zO_lload_n2, zO_lload_n3, zO_lload, zO_aload_n0, zO_aload_n1, zO_aload_n2, zO_aload_n3, zO_aload, zO_istore_n0, zO_istore_n1, zO_istore_n2, zO_istore_n3, zO_istore, zO_astore_n0, zO_astore_n1, zO_astore_n2, zO_astore_n3, zO_astore, zO_lstore, zO_iinc, zO_iconst, zO_bipush, zO_sipush, zO_lconst0, zO_lconst1, zO_ldc, zO_ldc2_w, zO_iadd, zO_isub, zO_imul, zO_idiv, zO_irem, zO_ineg, zO_iand, zO_ior, zO_ixor, zO_ishl, zO_ishr, zO_iushr, zO_ladd, zO_lmul, zO_land, zO_lor, zO_lshl, zO_lcmp, zO_i2l, zO_l2i, zO_i2b, zO_dup0, zO_dup2, zO_dup200, zO_dup202, zO_dup220, zO_dup222, zO_ifCond_eq, zO_ifCond_ne, zO_ifCond_lt, zO_ifCond_ge, zO_ifCond_gt, zO_ifCond_le, zO_if_icmp_eq, zO_if_icmp_ne, zO_if_icmp_lt, zO_if_icmp_ge, zO_if_icmp_gt, zO_if_icmp_le, zO_getfield, zO_putfield, zO_iaload, zO_baload, zO_laload, zO_iastore, zO_bastore, zO_lastore, zO_arraylength, zO_invokevirtual, zO_lreturn, zO_areturn, zO_return_, zO_tableswitch, zO_lookupswitch, zO_is0, zO_is1, zO_is2, zO_is3, zO_is4, zO_is9, zO_is10, zO_is11, zO_is12, zO_ir1, zO_ir4, zB_c, zLd_0, zLd_s, zSt_c, zSt2_c, zU_c, zD_c, zY_c, zSw_n, zSw_c, zCall_c, zVirt_c, zP_0, zP_1, zP_2, zP_3, zP_4, zGet_n, zGet_z, zPut_n, zPut_z, zcw_n, zcw_0, zcw_1, zcw_2, List.length_cons, List.length_nil, List.take_succ_cons, List.take_zero, List.drop_succ_cons, List.drop_zero, List.reverse_cons, List.reverse_nil, List.nil_append, List.cons_append, List.append_nil, List.set_cons_zero, List.set_cons_succ, List.getD_cons_zero, List.getD_cons_succ, true_and, and_true, ne_eq, not_false_eq_true, not_true_eq_false, zif, Nat.reduceAdd, Nat.reduceLeDiff, Nat.reduceLT, Nat.reduceSub, Nat.reduceEqDiff, Nat.zero_le, Nat.lt_add_one, Nat.reduceMod, false_implies, true_implies, implies_true, forall_const, Int.reduceLE, Int.reduceLT, Int.reduceEq, Int.reduceNeg, ite10_0, ite10_1, zem, zem2, Classical.not_not, and_self, zT_0, zN_0, zT_39, zN_39, zAl_99]
    try simp (disch := omega) only [zw_e]
    try simp only [b1, c1, b2, c2, b3, c3, b4, c4, b5, c5, true_and]
    refine zuse (ho μ hr) (fun r u h => ?_)
    obtain ⟨⟨e8, e9⟩, h2⟩ := h
    try simp only [e8, e9, b1, c1, b2, c2, b3, c3, b4, c4, b5, c5, true_and]
    refine zuse h2 (fun r' w h3 => ?_)
    obtain ⟨rfl, hr2, w8, w9⟩ := h3
    try simp only [zcmp_eq]
    first | exact ⟨fun _ => hn w hr2 w8 w9, fun h => absurd rfl h⟩ | exact ⟨fun _ => hn w hr2 w8 w9, fun h => absurd trivial h⟩
theorem law_36 (ho : zOp 86 188 []) {i : Int} {μ : zM} (hr : Rel μ) (hL : μ 98 0 ≤ 3072) (i0 : 0 ≤ i) (i1 : i + 6 ≤ μ 98 0) (hn : ∀ w, Rel w → w 98 = μ 98 → w 99 = μ 99 → zR 40 193 (fun r _ => r = 1) 1417 [(2, 99), (2, 0), (2, 39), (0, i)] [] w) : zR 40 193 (fun r _ => r = 1) 1381 [(2, 99), (2, 0), (2, 39), (0, i)] [] μ := by
    have b1 : 0 ≤ i + 1 := by omega
    have c1 : i + 1 < μ 98 0 := by omega
    have b2 : 0 ≤ i + 2 := by omega
    have c2 : i + 2 < μ 98 0 := by omega
    have b3 : 0 ≤ i + 3 := by omega
    have c3 : i + 3 < μ 98 0 := by omega
    have b4 : 0 ≤ i + 4 := by omega
    have c4 : i + 4 < μ 98 0 := by omega
    have b5 : 0 ≤ i + 5 := by omega
    have c5 : i + 5 < μ 98 0 := by omega
    rw [u193_1381]
    simp only [k193_1381, zO_nop, zO_goto, zO_iload_n0, zO_iload_n1, zO_iload_n2, zO_iload_n3, zO_iload, zO_lload_n0, zO_lload_n1, zO_lload_n2, zO_lload_n3, zO_lload, zO_aload_n0, zO_aload_n1, zO_aload_n2, zO_aload_n3, zO_aload, zO_istore_n0, zO_istore_n1, zO_istore_n2, zO_istore_n3, zO_istore, zO_astore_n0, zO_astore_n1, zO_astore_n2, zO_astore_n3, zO_astore, zO_lstore, zO_iinc, zO_iconst, zO_bipush, zO_sipush, zO_lconst0, zO_lconst1, zO_ldc, zO_ldc2_w, zO_iadd, zO_isub, zO_imul, zO_idiv, zO_irem, zO_ineg, zO_iand, zO_ior, zO_ixor, zO_ishl, zO_ishr, zO_iushr, zO_ladd, zO_lmul, zO_land, zO_lor, zO_lshl, zO_lcmp, zO_i2l, zO_l2i, zO_i2b, zO_dup0, zO_dup2, zO_dup200, zO_dup202, zO_dup220, zO_dup222, zO_ifCond_eq, zO_ifCond_ne, zO_ifCond_lt, zO_ifCond_ge, zO_ifCond_gt, zO_ifCond_le, zO_if_icmp_eq, zO_if_icmp_ne, zO_if_icmp_lt, zO_if_icmp_ge, zO_if_icmp_gt, zO_if_icmp_le, zO_getfield, zO_putfield, zO_iaload, zO_baload, zO_laload, zO_iastore, zO_bastore, zO_lastore, zO_arraylength, zO_invokevirtual, zO_lreturn, zO_areturn, zO_return_, zO_tableswitch, zO_lookupswitch, zO_is0, zO_is1, zO_is2, zO_is3, zO_is4, zO_is9, zO_is10, zO_is11, zO_is12, zO_ir1, zO_ir4, zB_c, zLd_0, zLd_s, zSt_c, zSt2_c, zU_c, zD_c, zY_c, zSw_n, zSw_c, zCall_c, zVirt_c, zP_0, zP_1, zP_2, zP_3, zP_4, zGet_n, zGet_z, zPut_n, zPut_z, zcw_n, zcw_0, zcw_1, zcw_2, List.length_cons, List.length_nil, List.take_succ_cons, List.take_zero, List.drop_succ_cons, List.drop_zero, List.reverse_cons, List.reverse_nil, List.nil_append, List.cons_append, List.append_nil, List.set_cons_zero, List.set_cons_succ, List.getD_cons_zero, List.getD_cons_succ, true_and, and_true, ne_eq, not_false_eq_true, not_true_eq_false, zif, Nat.reduceAdd, Nat.reduceLeDiff, Nat.reduceLT, Nat.reduceSub, Nat.reduceEqDiff, Nat.zero_le, Nat.lt_add_one, Nat.reduceMod, false_implies, true_implies, implies_true, forall_const, Int.reduceLE, Int.reduceLT, Int.reduceEq, Int.reduceNeg, ite10_0, ite10_1, zem, zem2, Classical.not_not, and_self, zT_0, zN_0, zT_39, zN_39, zAl_99]
    try simp (disch := omega) only [zw_e]
    try simp only [b1, c1, b2, c2, b3, c3, b4, c4, b5, c5, true_and]
    refine zuse (ho μ hr) (fun r u h => ?_)
    obtain ⟨⟨e8, e9⟩, h2⟩ := h
    try simp only [e8, e9, b1, c1, b2, c2, b3, c3, b4, c4, b5, c5, true_and]
    refine zuse h2 (fun r' w h3 => ?_)
    obtain ⟨rfl, hr2, w8, w9⟩ := h3
    try simp only [zcmp_eq]
    first | exact ⟨fun _ => hn w hr2 w8 w9, fun h => absurd rfl h⟩ | exact ⟨fun _ => hn w hr2 w8 w9, fun h => absurd trivial h⟩
theorem law_37 (ho : ∀ a1 : Int, zOp 87 190 [(0, a1)]) {i : Int} {μ : zM} (hr : Rel μ) (hL : μ 98 0 ≤ 3072) (i0 : 0 ≤ i) (i1 : i + 6 ≤ μ 98 0) (hn : ∀ w, Rel w → w 98 = μ 98 → w 99 = μ 99 → zR 40 193 (fun r _ => r = 1) 1417 [(2, 99), (2, 0), (2, 39), (0, i)] [] w) : zR 40 193 (fun r _ => r = 1) 1394 [(2, 99), (2, 0), (2, 39), (0, i)] [] μ := by
    have b1 : 0 ≤ i + 1 := by omega
    have c1 : i + 1 < μ 98 0 := by omega
    have b2 : 0 ≤ i + 2 := by omega
    have c2 : i + 2 < μ 98 0 := by omega
    have b3 : 0 ≤ i + 3 := by omega
    have c3 : i + 3 < μ 98 0 := by omega
    have b4 : 0 ≤ i + 4 := by omega
    have c4 : i + 4 < μ 98 0 := by omega
    have b5 : 0 ≤ i + 5 := by omega
    have c5 : i + 5 < μ 98 0 := by omega
    rw [u193_1394]
    simp only [k193_1394, zO_nop, zO_goto, zO_iload_n0, zO_iload_n1, zO_iload_n2, zO_iload_n3, zO_iload, zO_lload_n0, zO_lload_n1, zO_lload_n2, zO_lload_n3, zO_lload, zO_aload_n0, zO_aload_n1, zO_aload_n2, zO_aload_n3, zO_aload, zO_istore_n0, zO_istore_n1, zO_istore_n2, zO_istore_n3, zO_istore, zO_astore_n0, zO_astore_n1, zO_astore_n2, zO_astore_n3, zO_astore, zO_lstore, zO_iinc, zO_iconst, zO_bipush, zO_sipush, zO_lconst0, zO_lconst1, zO_ldc, zO_ldc2_w, zO_iadd, zO_isub, zO_imul, zO_idiv, zO_irem, zO_ineg, zO_iand, zO_ior, zO_ixor, zO_ishl, zO_ishr, zO_iushr, zO_ladd, zO_lmul, zO_land, zO_lor, zO_lshl, zO_lcmp, zO_i2l, zO_l2i, zO_i2b, zO_dup0, zO_dup2, zO_dup200, zO_dup202, zO_dup220, zO_dup222, zO_ifCond_eq, zO_ifCond_ne, zO_ifCond_lt, zO_ifCond_ge, zO_ifCond_gt, zO_ifCond_le, zO_if_icmp_eq, zO_if_icmp_ne, zO_if_icmp_lt, zO_if_icmp_ge, zO_if_icmp_gt, zO_if_icmp_le, zO_getfield, zO_putfield, zO_iaload, zO_baload, zO_laload, zO_iastore, zO_bastore, zO_lastore, zO_arraylength, zO_invokevirtual, zO_lreturn, zO_areturn, zO_return_, zO_tableswitch, zO_lookupswitch, zO_is0, zO_is1, zO_is2, zO_is3, zO_is4, zO_is9, zO_is10, zO_is11, zO_is12, zO_ir1, zO_ir4, zB_c, zLd_0, zLd_s, zSt_c, zSt2_c, zU_c, zD_c, zY_c, zSw_n, zSw_c, zCall_c, zVirt_c, zP_0, zP_1, zP_2, zP_3, zP_4, zGet_n, zGet_z, zPut_n, zPut_z, zcw_n, zcw_0, zcw_1, zcw_2, List.length_cons, List.length_nil, List.take_succ_cons, List.take_zero, List.drop_succ_cons, List.drop_zero, List.reverse_cons, List.reverse_nil, List.nil_append, List.cons_append, List.append_nil, List.set_cons_zero, List.set_cons_succ, List.getD_cons_zero, List.getD_cons_succ, true_and, and_true, ne_eq, not_false_eq_true, not_true_eq_false, zif, Nat.reduceAdd, Nat.reduceLeDiff, Nat.reduceLT, Nat.reduceSub, Nat.reduceEqDiff, Nat.zero_le, Nat.lt_add_one, Nat.reduceMod, false_implies, true_implies, implies_true, forall_const, Int.reduceLE, Int.reduceLT, Int.reduceEq, Int.reduceNeg, ite10_0, ite10_1, zem, zem2, Classical.not_not, and_self, zT_0, zN_0, zT_39, zN_39, zAl_99]
    try simp (disch := omega) only [zw_e]
    try simp only [b1, c1, b2, c2, b3, c3, b4, c4, b5, c5, true_and]
    refine zuse (ho _ μ hr) (fun r u h => ?_)
    obtain ⟨⟨e8, e9⟩, h2⟩ := h
    try simp only [e8, e9, b1, c1, b2, c2, b3, c3, b4, c4, b5, c5, true_and]
    refine zuse h2 (fun r' w h3 => ?_)
    obtain ⟨rfl, hr2, w8, w9⟩ := h3
    try simp only [zcmp_eq]
    first | exact ⟨fun _ => hn w hr2 w8 w9, fun h => absurd rfl h⟩ | exact ⟨fun _ => hn w hr2 w8 w9, fun h => absurd trivial h⟩
theorem law_run (H : lawOps) : ∀ (f : Nat) (i : Int) (μ : zM), Rel μ → μ 98 0 ≤ 3072 → 0 ≤ μ 98 0 → 0 ≤ i → μ 98 0 - i < f → zR 40 193 (fun r _ => r = 1) 18 [(2, 99), (2, 0), (2, 39), (0, i)] [] μ := by
  obtain ⟨o0, o1, o2, o3, o4, o5, o6, o7, o8, o9, o10, o11, o12, o13, o14, o15, o16, o17, o18, o19, o20, o21, o22, o23, o24, o25, o26, o27, o28, o29, o30, o31, o32, o33, o34, o35, o36, o37⟩ := H
  intro f
  induction f with
  | zero =>
    intro i μ hr hL hL0 i0 hf
    rw [u193_18]
    simp only [k193_18, u193_1423, k193_1423, zO_nop, zO_goto, zO_iload_n0, zO_iload_n1, zO_iload_n2, zO_iload_n3, zO_iload, zO_lload_n0, zO_lload_n1, zO_lload_n2, zO_lload_n3, zO_lload, zO_aload_n0, zO_aload_n1, zO_aload_n2, zO_aload_n3, zO_aload, zO_istore_n0, zO_istore_n1, zO_istore_n2, zO_istore_n3, zO_istore, zO_astore_n0, zO_astore_n1, zO_astore_n2, zO_astore_n3, zO_astore, zO_lstore, zO_iinc, zO_iconst, zO_bipush, zO_sipush, zO_lconst0, zO_lconst1, zO_ldc, zO_ldc2_w, zO_iadd, zO_isub, zO_imul, zO_idiv, zO_irem, zO_ineg, zO_iand, zO_ior, zO_ixor, zO_ishl, zO_ishr, zO_iushr, zO_ladd, zO_lmul, zO_land, zO_lor, zO_lshl, zO_lcmp, zO_i2l, zO_l2i, zO_i2b, zO_dup0, zO_dup2, zO_dup200, zO_dup202, zO_dup220, zO_dup222, zO_ifCond_eq, zO_ifCond_ne, zO_ifCond_lt, zO_ifCond_ge, zO_ifCond_gt, zO_ifCond_le, zO_if_icmp_eq, zO_if_icmp_ne, zO_if_icmp_lt, zO_if_icmp_ge, zO_if_icmp_gt, zO_if_icmp_le, zO_getfield, zO_putfield, zO_iaload, zO_baload, zO_laload, zO_iastore, zO_bastore, zO_lastore, zO_arraylength, zO_invokevirtual, zO_lreturn, zO_areturn, zO_return_, zO_tableswitch, zO_lookupswitch, zO_is0, zO_is1, zO_is2, zO_is3, zO_is4, zO_is9, zO_is10, zO_is11, zO_is12, zO_ir1, zO_ir4, zB_c, zLd_0, zLd_s, zSt_c, zSt2_c, zU_c, zD_c, zY_c, zSw_n, zSw_c, zCall_c, zVirt_c, zP_0, zP_1, zP_2, zP_3, zP_4, zGet_n, zGet_z, zPut_n, zPut_z, zcw_n, zcw_0, zcw_1, zcw_2, List.length_cons, List.length_nil, List.take_succ_cons, List.take_zero, List.drop_succ_cons, List.drop_zero, List.reverse_cons, List.reverse_nil, List.nil_append, List.cons_append, List.append_nil, List.set_cons_zero, List.set_cons_succ, List.getD_cons_zero, List.getD_cons_succ, true_and, and_true, ne_eq, not_false_eq_true, not_true_eq_false, zif, Nat.reduceAdd, Nat.reduceLeDiff, Nat.reduceLT, Nat.reduceSub, Nat.reduceEqDiff, Nat.zero_le, Nat.lt_add_one, Nat.reduceMod, false_implies, true_implies, implies_true, forall_const, Int.reduceLE, Int.reduceLT, Int.reduceEq, Int.reduceNeg, ite10_0, ite10_1, zem, zem2, Classical.not_not, and_self, zT_99]
    simp (disch := omega) only [zw_e]
    exact ⟨fun _ => by decide, fun h => absurd h (by omega)⟩
  | succ f ih =>
    intro i μ hr hL hL0 i0 hf
    have hn : ∀ w, Rel w → w 98 = μ 98 → w 99 = μ 99 → i + 6 ≤ μ 98 0 → zR 40 193 (fun r _ => r = 1) 1417 [(2, 99), (2, 0), (2, 39), (0, i)] [] w := by
      intro w hw w8 w9 h6
      rw [u193_1417]
      simp only [k193_1417, zO_nop, zO_goto, zO_iload_n0, zO_iload_n1, zO_iload_n2, zO_iload_n3, zO_iload, zO_lload_n0, zO_lload_n1, zO_lload_n2, zO_lload_n3, zO_lload, zO_aload_n0, zO_aload_n1, zO_aload_n2, zO_aload_n3, zO_aload, zO_istore_n0, zO_istore_n1, zO_istore_n2, zO_istore_n3, zO_istore, zO_astore_n0, zO_astore_n1, zO_astore_n2, zO_astore_n3, zO_astore, zO_lstore, zO_iinc, zO_iconst, zO_bipush, zO_sipush, zO_lconst0, zO_lconst1, zO_ldc, zO_ldc2_w, zO_iadd, zO_isub, zO_imul, zO_idiv, zO_irem, zO_ineg, zO_iand, zO_ior, zO_ixor, zO_ishl, zO_ishr, zO_iushr, zO_ladd, zO_lmul, zO_land, zO_lor, zO_lshl, zO_lcmp, zO_i2l, zO_l2i, zO_i2b, zO_dup0, zO_dup2, zO_dup200, zO_dup202, zO_dup220, zO_dup222, zO_ifCond_eq, zO_ifCond_ne, zO_ifCond_lt, zO_ifCond_ge, zO_ifCond_gt, zO_ifCond_le, zO_if_icmp_eq, zO_if_icmp_ne, zO_if_icmp_lt, zO_if_icmp_ge, zO_if_icmp_gt, zO_if_icmp_le, zO_getfield, zO_putfield, zO_iaload, zO_baload, zO_laload, zO_iastore, zO_bastore, zO_lastore, zO_arraylength, zO_invokevirtual, zO_lreturn, zO_areturn, zO_return_, zO_tableswitch, zO_lookupswitch, zO_is0, zO_is1, zO_is2, zO_is3, zO_is4, zO_is9, zO_is10, zO_is11, zO_is12, zO_ir1, zO_ir4, zB_c, zLd_0, zLd_s, zSt_c, zSt2_c, zU_c, zD_c, zY_c, zSw_n, zSw_c, zCall_c, zVirt_c, zP_0, zP_1, zP_2, zP_3, zP_4, zGet_n, zGet_z, zPut_n, zPut_z, zcw_n, zcw_0, zcw_1, zcw_2, List.length_cons, List.length_nil, List.take_succ_cons, List.take_zero, List.drop_succ_cons, List.drop_zero, List.reverse_cons, List.reverse_nil, List.nil_append, List.cons_append, List.append_nil, List.set_cons_zero, List.set_cons_succ, List.getD_cons_zero, List.getD_cons_succ, true_and, and_true, ne_eq, not_false_eq_true, not_true_eq_false, zif, Nat.reduceAdd, Nat.reduceLeDiff, Nat.reduceLT, Nat.reduceSub, Nat.reduceEqDiff, Nat.zero_le, Nat.lt_add_one, Nat.reduceMod, false_implies, true_implies, implies_true, forall_const, Int.reduceLE, Int.reduceLT, Int.reduceEq, Int.reduceNeg, ite10_0, ite10_1, zem, zem2, Classical.not_not, and_self]
      rw [zw_e (by omega) (by omega)]
      exact ih (i + 6) w hw (by rw [w8]; exact hL) (by rw [w8]; exact hL0) (by omega) (by rw [w8]; omega)
    rw [u193_18]
    simp only [k193_18, u193_1423, k193_1423, zO_nop, zO_goto, zO_iload_n0, zO_iload_n1, zO_iload_n2, zO_iload_n3, zO_iload, zO_lload_n0, zO_lload_n1, zO_lload_n2, zO_lload_n3, zO_lload, zO_aload_n0, zO_aload_n1, zO_aload_n2, zO_aload_n3, zO_aload, zO_istore_n0, zO_istore_n1, zO_istore_n2, zO_istore_n3, zO_istore, zO_astore_n0, zO_astore_n1, zO_astore_n2, zO_astore_n3, zO_astore, zO_lstore, zO_iinc, zO_iconst, zO_bipush, zO_sipush, zO_lconst0, zO_lconst1, zO_ldc, zO_ldc2_w, zO_iadd, zO_isub, zO_imul, zO_idiv, zO_irem, zO_ineg, zO_iand, zO_ior, zO_ixor, zO_ishl, zO_ishr, zO_iushr, zO_ladd, zO_lmul, zO_land, zO_lor, zO_lshl, zO_lcmp, zO_i2l, zO_l2i, zO_i2b, zO_dup0, zO_dup2, zO_dup200, zO_dup202, zO_dup220, zO_dup222, zO_ifCond_eq, zO_ifCond_ne, zO_ifCond_lt, zO_ifCond_ge, zO_ifCond_gt, zO_ifCond_le, zO_if_icmp_eq, zO_if_icmp_ne, zO_if_icmp_lt, zO_if_icmp_ge, zO_if_icmp_gt, zO_if_icmp_le, zO_getfield, zO_putfield, zO_iaload, zO_baload, zO_laload, zO_iastore, zO_bastore, zO_lastore, zO_arraylength, zO_invokevirtual, zO_lreturn, zO_areturn, zO_return_, zO_tableswitch, zO_lookupswitch, zO_is0, zO_is1, zO_is2, zO_is3, zO_is4, zO_is9, zO_is10, zO_is11, zO_is12, zO_ir1, zO_ir4, zB_c, zLd_0, zLd_s, zSt_c, zSt2_c, zU_c, zD_c, zY_c, zSw_n, zSw_c, zCall_c, zVirt_c, zP_0, zP_1, zP_2, zP_3, zP_4, zGet_n, zGet_z, zPut_n, zPut_z, zcw_n, zcw_0, zcw_1, zcw_2, List.length_cons, List.length_nil, List.take_succ_cons, List.take_zero, List.drop_succ_cons, List.drop_zero, List.reverse_cons, List.reverse_nil, List.nil_append, List.cons_append, List.append_nil, List.set_cons_zero, List.set_cons_succ, List.getD_cons_zero, List.getD_cons_succ, true_and, and_true, ne_eq, not_false_eq_true, not_true_eq_false, zif, Nat.reduceAdd, Nat.reduceLeDiff, Nat.reduceLT, Nat.reduceSub, Nat.reduceEqDiff, Nat.zero_le, Nat.lt_add_one, Nat.reduceMod, false_implies, true_implies, implies_true, forall_const, Int.reduceLE, Int.reduceLT, Int.reduceEq, Int.reduceNeg, ite10_0, ite10_1, zem, zem2, Classical.not_not, and_self, zT_99, zAl_99]
    simp (disch := omega) only [zw_e]
    refine ⟨fun _ => by decide, fun h => ?_⟩
    have h6 : i + 6 ≤ μ 98 0 := by omega
    have h99 := hn μ hr rfl rfl h6
    have hn2 : ∀ w, Rel w → w 98 = μ 98 → w 99 = μ 99 → zR 40 193 (fun r _ => r = 1) 1417 [(2, 99), (2, 0), (2, 39), (0, i)] [] w := fun w a b c => hn w a b c h6
    have hc0 := law_0 o0 hr hL i0 h6 hn2
    have hc1 := law_1 o1 hr hL i0 h6 hn2
    have hc2 := law_2 o2 hr hL i0 h6 hn2
    have hc3 := law_3 o3 hr hL i0 h6 hn2
    have hc4 := law_4 o4 hr hL i0 h6 hn2
    have hc5 := law_5 o5 hr hL i0 h6 hn2
    have hc6 := law_6 o6 hr hL i0 h6 hn2
    have hc7 := law_7 o7 hr hL i0 h6 hn2
    have hc8 := law_8 o8 hr hL i0 h6 hn2
    have hc9 := law_9 o9 hr hL i0 h6 hn2
    have hc10 := law_10 o10 hr hL i0 h6 hn2
    have hc11 := law_11 o11 hr hL i0 h6 hn2
    have hc12 := law_12 o12 hr hL i0 h6 hn2
    have hc13 := law_13 o13 hr hL i0 h6 hn2
    have hc14 := law_14 o14 hr hL i0 h6 hn2
    have hc15 := law_15 o15 hr hL i0 h6 hn2
    have hc16 := law_16 o16 hr hL i0 h6 hn2
    have hc17 := law_17 o17 hr hL i0 h6 hn2
    have hc18 := law_18 o18 hr hL i0 h6 hn2
    have hc19 := law_19 o19 hr hL i0 h6 hn2
    have hc20 := law_20 o20 hr hL i0 h6 hn2
    have hc21 := law_21 o21 hr hL i0 h6 hn2
    have hc22 := law_22 o22 hr hL i0 h6 hn2
    have hc23 := law_23 o23 hr hL i0 h6 hn2
    have hc24 := law_24 o24 hr hL i0 h6 hn2
    have hc25 := law_25 o25 hr hL i0 h6 hn2
    have hc26 := law_26 o26 hr hL i0 h6 hn2
    have hc27 := law_27 o27 hr hL i0 h6 hn2
    have hc28 := law_28 o28 hr hL i0 h6 hn2
    have hc29 := law_29 o29 hr hL i0 h6 hn2
    have hc30 := law_30 o30 hr hL i0 h6 hn2
    have hc31 := law_31 o31 hr hL i0 h6 hn2
    have hc32 := law_32 o32 hr hL i0 h6 hn2
    have hc33 := law_33 o33 hr hL i0 h6 hn2
    have hc34 := law_34 o34 hr hL i0 h6 hn2
    have hc35 := law_35 o35 hr hL i0 h6 hn2
    have hc36 := law_36 o36 hr hL i0 h6 hn2
    have hc37 := law_37 o37 hr hL i0 h6 hn2
    refine ⟨i0, by omega, ?_⟩
    simp only [hc0, hc1, hc2, hc3, hc4, hc5, hc6, hc7, hc8, hc9, hc10, hc11, hc12, hc13, hc14, hc15, hc16, hc17, hc18, hc19, hc20, hc21, hc22, hc23, hc24, hc25, hc26, hc27, hc28, hc29, hc30, hc31, hc32, hc33, hc34, hc35, hc36, hc37, h99, implies_true, and_self]
