/-! the relation, part by part -/
theorem rH1_fr {S : List (Int × Int)} {μ w : zM} (f : zfr S μ w) (hS : ∀ x ∈ [1, 2, 3, 4, 5, 6, 7, 40], x ∉ S.map Prod.fst) (h : rH 1 40 μ) : rH 1 40 w := by
  have c1 : w 1 = μ 1 := zfr_c f (hS _ (by decide))
  have c2 : w 2 = μ 2 := zfr_c f (hS _ (by decide))
  have c3 : w 3 = μ 3 := zfr_c f (hS _ (by decide))
  have c4 : w 4 = μ 4 := zfr_c f (hS _ (by decide))
  have c5 : w 5 = μ 5 := zfr_c f (hS _ (by decide))
  have c6 : w 6 = μ 6 := zfr_c f (hS _ (by decide))
  have c7 : w 7 = μ 7 := zfr_c f (hS _ (by decide))
  have c40 : w 40 = μ 40 := zfr_c f (hS _ (by decide))
  simp only [rH, rA, Int.reduceAdd, c1, c2, c3, c4, c5, c6, c7, c40] at h ⊢
  exact h
theorem rI_fr {S : List (Int × Int)} {μ w : zM} (f : zfr S μ w) (hS : ∀ x ∈ [8, 9, 10, 11, 12, 13, 14, 41], x ∉ S.map Prod.fst) (h1 : zfq S 0 2 = false) (h2 : zfq S 39 2 = false) (h : rI μ) : rI w := by
  have c8 : w 8 = μ 8 := zfr_c f (hS _ (by decide))
  have c9 : w 9 = μ 9 := zfr_c f (hS _ (by decide))
  have c10 : w 10 = μ 10 := zfr_c f (hS _ (by decide))
  have c11 : w 11 = μ 11 := zfr_c f (hS _ (by decide))
  have c12 : w 12 = μ 12 := zfr_c f (hS _ (by decide))
  have c13 : w 13 = μ 13 := zfr_c f (hS _ (by decide))
  have c14 : w 14 = μ 14 := zfr_c f (hS _ (by decide))
  have c41 : w 41 = μ 41 := zfr_c f (hS _ (by decide))
  have i1 : w 0 2 = μ 0 2 := f _ _ h1
  have i2 : w 39 2 = μ 39 2 := f _ _ h2
  simp only [rI, rH, rA, Int.reduceAdd, c8, c9, c10, c11, c12, c13, c14, c41, i1, i2] at h ⊢
  exact h
theorem rT_fr {S : List (Int × Int)} {μ w : zM} (f : zfr S μ w) (hS : ∀ x ∈ [30, 44], x ∉ S.map Prod.fst) (h1 : zfq S 29 1 = false) (h2 : zfq S 39 6 = false) (h : rT μ) : rT w := by
  have c1 : w 30 = μ 30 := zfr_c f (hS _ (by decide))
  have c2 : w 44 = μ 44 := zfr_c f (hS _ (by decide))
  have i1 : w 29 1 = μ 29 1 := f _ _ h1
  have i2 : w 39 6 = μ 39 6 := f _ _ h2
  simp only [rT, c1, c2, i1, i2] at h ⊢
  exact h
theorem rP_fr {S : List (Int × Int)} {μ w : zM} (f : zfr S μ w) (hS : ∀ x ∈ [33, 55], x ∉ S.map Prod.fst) (h1 : zfq S 0 11 = false) (h2 : zfq S 39 22 = false) (h : rP μ) : rP w := by
  have c1 : w 33 = μ 33 := zfr_c f (hS _ (by decide))
  have c2 : w 55 = μ 55 := zfr_c f (hS _ (by decide))
  have i1 : w 0 11 = μ 0 11 := f _ _ h1
  have i2 : w 39 22 = μ 39 22 := f _ _ h2
  simp only [rP, c1, c2, i1, i2] at h ⊢
  exact h
theorem rLs_fr {S : List (Int × Int)} {μ w : zM} (f : zfr S μ w) (hS : ∀ x ∈ [34, 35, 56, 57], x ∉ S.map Prod.fst) (h : rLs μ) : rLs w := by
  have c1 : w 34 = μ 34 := zfr_c f (hS _ (by decide))
  have c2 : w 35 = μ 35 := zfr_c f (hS _ (by decide))
  have c3 : w 56 = μ 56 := zfr_c f (hS _ (by decide))
  have c4 : w 57 = μ 57 := zfr_c f (hS _ (by decide))
  simp only [rLs, c1, c2, c3, c4] at h ⊢
  exact h
theorem rC_fr {S : List (Int × Int)} {μ w : zM} (f : zfr S μ w) (hS : ∀ x ∈ [1, 2, 15, 16, 19, 20], x ∉ S.map Prod.fst) (h1 : zfq S 0 7 = false) (h2 : zfq S 0 8 = false) (h : Rel μ) : rC w := by
  have c1 : w 1 = μ 1 := zfr_c f (hS _ (by decide))
  exact rC_kp h (f _ _ h1) (f _ _ h2) (zfr_c f (hS _ (by decide))) (zfr_c f (hS _ (by decide))) (zfr_c f (hS _ (by decide))) (zfr_c f (hS _ (by decide))) (by rw [c1]) (by rw [c1]) (by rw [c1]) (zfr_c f (hS _ (by decide)))
theorem Rel_T {μ w : zM} (h : Rel μ) (f : zfr ((29, 1) :: (30, -1) :: (39, 6) :: (44, -1) :: zTm) μ w) (hT : rT w) : Rel w := ⟨rH1_fr f (by decide) h.1, rI_fr f (by decide) (by decide) (by decide) h.2.1, hT, rP_fr f (by decide) (by decide) (by decide) h.2.2.2.1, rLs_fr f (by decide) h.2.2.2.2.1, rC_fr f (by decide) (by decide) (by decide) h⟩
theorem Rel_P {μ w : zM} (h : Rel μ) (f : zfr ((0, 11) :: (33, -1) :: (39, 22) :: (55, -1) :: zTm) μ w) (hP : rP w) : Rel w := ⟨rH1_fr f (by decide) h.1, rI_fr f (by decide) (by decide) (by decide) h.2.1, rT_fr f (by decide) (by decide) (by decide) h.2.2.1, hP, rLs_fr f (by decide) h.2.2.2.2.1, rC_fr f (by decide) (by decide) (by decide) h⟩
theorem Rel_L {μ w : zM} (h : Rel μ) (f : zfr ((34, -1) :: (35, -1) :: (56, -1) :: (57, -1) :: zTm) μ w) (hL : rLs w) : Rel w := ⟨rH1_fr f (by decide) h.1, rI_fr f (by decide) (by decide) (by decide) h.2.1, rT_fr f (by decide) (by decide) (by decide) h.2.2.1, rP_fr f (by decide) (by decide) (by decide) h.2.2.2.1, hL, rC_fr f (by decide) (by decide) (by decide) h⟩
theorem Rel_I {μ w : zM} (h : Rel μ) (f : zfr ((0, 2) :: (8, -1) :: (9, -1) :: (10, -1) :: (11, -1) :: (12, -1) :: (13, -1) :: (14, -1) :: (39, 2) :: (41, -1) :: zTm) μ w) (hI : rI w) : Rel w := ⟨rH1_fr f (by decide) h.1, hI, rT_fr f (by decide) (by decide) (by decide) h.2.2.1, rP_fr f (by decide) (by decide) (by decide) h.2.2.2.1, rLs_fr f (by decide) h.2.2.2.2.1, rC_fr f (by decide) (by decide) (by decide) h⟩
theorem zb_e {a : Int} (h0 : -128 ≤ a) (h1 : a ≤ 127) : zb a = a := by unfold zb; omega
theorem L_atb {d : Nat} {i j k : Int} {μ : zM} {P : Int → zM → Prop} (hi : 0 ≤ i ∧ i ≤ 4) (hj : 0 ≤ j ∧ j ≤ 4) (hk : 0 ≤ k ∧ k ≤ 4) : zC (d + 1) 111 [(0, i), (0, j), (0, k)] μ P ↔ P (3 + (25 * i + 5 * j + k)) μ := by
  rw [L_at]
  simp (disch := omega) only [zw_e]
  rw [show 3 + 25 * i + 5 * j + k = 3 + (25 * i + 5 * j + k) by omega]
theorem L_ofE {d : Nat} {e k : Int} {μ : zM} {P : Int → zM → Prop} (he : 0 ≤ e ∧ e ≤ 3) (hk : 0 ≤ k ∧ k ≤ 4) : zC (d + 1) 136 [(0, e), (0, k)] μ P ↔ P (128 + (5 * e + k)) μ := by
  rw [L_ofElement]
  simp (disch := omega) only [zw_e]
  rw [show 128 + 5 * e + k = 128 + (5 * e + k) by omega]
theorem Rel_t2 {μ : zM} {p v : Int} (hr : Rel μ) (hp : 0 ≤ p ∧ p < 125) (hv : 0 ≤ v ∧ v ≤ 9) : Rel (zu (zu (zu (zu μ 2 p v) 0 7 0) 0 8 0) 40 (3 + p) v) := by
  obtain ⟨q0, q1, q2, q3, q4, q5, q6, q7, q8, q9⟩ := rH_1.mp hr.1
  refine Rel_h hr (zfr_w (zfr_u (zfr_u (zfr_w zfr_rf (by decide)) (by decide)) (by decide)) (by decide)) ?_ ?_ (rH_1.mpr ⟨?_, ?_, ?_, ?_, ?_, ?_, ?_, ?_, ?_, ?_⟩)
  · simp only [zu_d]; grind
  · simp only [zu_d]; grind
  · simp only [zu_d]; grind
  · simp only [zu_d]; grind
  · simp only [zu_d]; grind
  · refine rA_p q3 (i := p) hv (fun j h0 h1 => ?_) (fun j h0 h1 => ?_)
    · simp only [zu_d]; grind
    · simp only [zu_d]; grind
  · exact (rA_u (rA_u (rA_u (rA_u q4 (by decide) (by omega)) (by decide) (by omega)) (by decide) (by omega)) (by decide) (by omega))
  · exact (rA_u (rA_u (rA_u (rA_u q5 (by decide) (by omega)) (by decide) (by omega)) (by decide) (by omega)) (by decide) (by omega))
  · exact (rA_u (rA_u (rA_u (rA_u q6 (by decide) (by omega)) (by decide) (by omega)) (by decide) (by omega)) (by decide) (by omega))
  · simp only [zu_d]; grind
  · exact (rA_u (rA_u (rA_u (rA_u q8 (by decide) (by omega)) (by decide) (by omega)) (by decide) (by omega)) (by decide) (by omega))
  · exact (rA_u (rA_u (rA_u (rA_u q9 (by decide) (by omega)) (by decide) (by omega)) (by decide) (by omega)) (by decide) (by omega))
theorem Rel_t3 {μ : zM} {p v : Int} (hr : Rel μ) (hp : 0 ≤ p ∧ p < 20) (hv : 0 ≤ v ∧ v ≤ 999) : Rel (zu (zu μ 3 p v) 40 (128 + p) v) := by
  obtain ⟨q0, q1, q2, q3, q4, q5, q6, q7, q8, q9⟩ := rH_1.mp hr.1
  refine Rel_k hr (zfr_w (zfr_w zfr_rf (by decide)) (by decide)) (rH_1.mpr ⟨?_, ?_, ?_, ?_, ?_, ?_, ?_, ?_, ?_, ?_⟩)
  · simp only [zu_d]; grind
  · simp only [zu_d]; grind
  · simp only [zu_d]; grind
  · exact (rA_u (rA_u q3 (by decide) (by omega)) (by decide) (by omega))
  · refine rA_p q4 (i := p) hv (fun j h0 h1 => ?_) (fun j h0 h1 => ?_)
    · simp only [zu_d]; grind
    · simp only [zu_d]; grind
  · exact (rA_u (rA_u q5 (by decide) (by omega)) (by decide) (by omega))
  · exact (rA_u (rA_u q6 (by decide) (by omega)) (by decide) (by omega))
  · simp only [zu_d]; grind
  · exact (rA_u (rA_u q8 (by decide) (by omega)) (by decide) (by omega))
  · exact (rA_u (rA_u q9 (by decide) (by omega)) (by decide) (by omega))
theorem Rel_t4 {μ : zM} {p v : Int} (hr : Rel μ) (hp : 0 ≤ p ∧ p < 25) (hv : 0 ≤ v ∧ v ≤ 30) : Rel (zu (zu μ 4 p v) 40 (148 + p) v) := by
  obtain ⟨q0, q1, q2, q3, q4, q5, q6, q7, q8, q9⟩ := rH_1.mp hr.1
  refine Rel_k hr (zfr_w (zfr_w zfr_rf (by decide)) (by decide)) (rH_1.mpr ⟨?_, ?_, ?_, ?_, ?_, ?_, ?_, ?_, ?_, ?_⟩)
  · simp only [zu_d]; grind
  · simp only [zu_d]; grind
  · simp only [zu_d]; grind
  · exact (rA_u (rA_u q3 (by decide) (by omega)) (by decide) (by omega))
  · exact (rA_u (rA_u q4 (by decide) (by omega)) (by decide) (by omega))
  · refine rA_p q5 (i := p) hv (fun j h0 h1 => ?_) (fun j h0 h1 => ?_)
    · simp only [zu_d]; grind
    · simp only [zu_d]; grind
  · exact (rA_u (rA_u q6 (by decide) (by omega)) (by decide) (by omega))
  · simp only [zu_d]; grind
  · exact (rA_u (rA_u q8 (by decide) (by omega)) (by decide) (by omega))
  · exact (rA_u (rA_u q9 (by decide) (by omega)) (by decide) (by omega))
theorem Rel_t5 {μ : zM} {p v : Int} (hr : Rel μ) (hp : 0 ≤ p ∧ p < 5) (hv : 0 ≤ v ∧ v ≤ 30) : Rel (zu (zu μ 5 p v) 40 (173 + p) v) := by
  obtain ⟨q0, q1, q2, q3, q4, q5, q6, q7, q8, q9⟩ := rH_1.mp hr.1
  refine Rel_k hr (zfr_w (zfr_w zfr_rf (by decide)) (by decide)) (rH_1.mpr ⟨?_, ?_, ?_, ?_, ?_, ?_, ?_, ?_, ?_, ?_⟩)
  · simp only [zu_d]; grind
  · simp only [zu_d]; grind
  · simp only [zu_d]; grind
  · exact (rA_u (rA_u q3 (by decide) (by omega)) (by decide) (by omega))
  · exact (rA_u (rA_u q4 (by decide) (by omega)) (by decide) (by omega))
  · exact (rA_u (rA_u q5 (by decide) (by omega)) (by decide) (by omega))
  · refine rA_p q6 (i := p) hv (fun j h0 h1 => ?_) (fun j h0 h1 => ?_)
    · simp only [zu_d]; grind
    · simp only [zu_d]; grind
  · simp only [zu_d]; grind
  · exact (rA_u (rA_u q8 (by decide) (by omega)) (by decide) (by omega))
  · exact (rA_u (rA_u q9 (by decide) (by omega)) (by decide) (by omega))
