/-! what a choice asks: its number, its laws -/
def glw (N : Int → Int → Int → Int) (n s o nb : Int) (χ : Int → Int) : Prop := (31 : Int) ∣ nb * χ o - zs (fun k => N s o k * χ k) n
theorem zs_cut {f : Int → Int} {n : Int} (hn : 1 ≤ n ∧ n ≤ 5) : zs (fun k => if k < n then f k else 0) 5 = zs f n := by
  obtain h | h | h | h | h : n = 1 ∨ n = 2 ∨ n = 3 ∨ n = 4 ∨ n = 5 := by omega
  all_goals
    subst h
    simp only [show ∀ g : Int → Int, zs g 5 = ((((0 + g 0) + g 1) + g 2) + g 3) + g 4 from fun _ => rfl, show ∀ g : Int → Int, zs g 4 = (((0 + g 0) + g 1) + g 2) + g 3 from fun _ => rfl, show ∀ g : Int → Int, zs g 3 = ((0 + g 0) + g 1) + g 2 from fun _ => rfl, show ∀ g : Int → Int, zs g 2 = (0 + g 0) + g 1 from fun _ => rfl, show ∀ g : Int → Int, zs g 1 = 0 + g 0 from fun _ => rfl]
    simp
theorem ev_law {N : Int → Int → Int → Int} {n s o nb : Int} {e χ : Int → Int} (hn : 1 ≤ n ∧ n ≤ 5) (ho : zrg n o) (h : ∀ k, zrg 5 k → e k = ((if k < n then (31 - N s o k) % 31 else 0) + (if k = o then nb else 0)) % 31) : (31 : Int) ∣ evq e χ ↔ glw N n s o nb χ := by
  have h1 := ev_cg (f := fun k => e k * χ k) (g := fun k => nb * ((if k = o then 1 else 0) * χ k) + (-1) * (if k < n then N s o k * χ k else 0)) 5 fun k hk => by
    obtain ⟨q, hq⟩ : (31 : Int) ∣ e k - ((if k = o then nb else 0) - (if k < n then N s o k else 0)) := by
      rw [h k hk]
      split <;> split <;> omega
    refine ⟨q * χ k, ?_⟩
    show e k * χ k - (nb * ((if k = o then 1 else 0) * χ k) + (-1) * (if k < n then N s o k * χ k else 0)) = 31 * (q * χ k)
    rw [← Int.mul_assoc 31, ← hq, Int.sub_mul, Int.sub_mul]
    split <;> split <;> simp <;> omega
  rw [zsu_lin, show ((5 : Nat) : Int) = 5 by rfl, (zs_delta (g := χ) (n := 5) (j := o) ⟨ho.1, by have := ho.2; omega⟩).1, zs_cut hn] at h1
  unfold evq glw
  omega
theorem ev_num {s nb : Int} {e χ : Int → Int} (hs : 1 ≤ s ∧ s < 5) (h0 : χ 0 = 1) (h : ∀ k, zrg 5 k → e k = if k = s then 1 else if k = 0 then (31 - nb) % 31 else 0) : (31 : Int) ∣ evq e χ ↔ (31 : Int) ∣ χ s - nb := by
  have h1 := ev_cg (f := fun k => e k * χ k) (g := fun k => 1 * ((if k = s then 1 else 0) * χ k) + (- nb) * ((if k = 0 then 1 else 0) * χ k)) 5 fun k hk => by
    show (31 : Int) ∣ e k * χ k - (1 * ((if k = s then 1 else 0) * χ k) + (- nb) * ((if k = 0 then 1 else 0) * χ k))
    rw [h k hk]
    by_cases a : k = s
    · rw [if_pos a, if_pos a, if_neg (by omega)]; simp
    · rw [if_neg a, if_neg a]
      by_cases b : k = 0
      · rw [if_pos b, if_pos b, b, h0]; omega
      · rw [if_neg b, if_neg b]; simp
  rw [zsu_lin, show ((5 : Nat) : Int) = 5 by rfl, (zs_delta (g := χ) (n := 5) (j := s) ⟨by omega, by omega⟩).1, (zs_delta (g := χ) (n := 5) (j := 0) ⟨by omega, by omega⟩).1, h0] at h1
  unfold evq
  omega
def goP (N : Int → Int → Int → Int) (n s nb : Int) (kn : Int → Int) (o : Int) (χ : Int → Int) : Prop := kS kn χ ∧ (31 : Int) ∣ χ s - nb ∧ ∀ o', 1 ≤ o' → o' < o → glw N n s o' nb χ
