/-! two lists of all characters are one -/
theorem chLt_ir {n : Int} {x y : Int → Int} (h : chLt n x y) (e : ∀ k, zrg n k → x k = y k) : False := by
  obtain ⟨k, hk, l, _⟩ := h
  have := e k hk
  omega
theorem chLt_cg {n : Int} {x y x' y' : Int → Int} (h : chLt n x y) (e : ∀ k, zrg n k → x' k = x k) (e' : ∀ k, zrg n k → y' k = y k) : chLt n x' y' := by
  obtain ⟨k, hk, l, g⟩ := h
  have k1 := hk.1
  have k2 := hk.2
  exact ⟨k, hk, by rw [e k hk, e' k hk]; exact l, fun j a b => by rw [e j ⟨a, by omega⟩, e' j ⟨a, by omega⟩]; exact g j a b⟩
theorem chLt_tr {n : Int} {x y z : Int → Int} (h : chLt n x y) (h' : chLt n y z) : chLt n x z := by
  obtain ⟨k, hk, l, g⟩ := h
  obtain ⟨m, hm, l', g'⟩ := h'
  have k1 := hk.1
  have m1 := hm.1
  by_cases q : k < m
  · exact ⟨k, hk, by rw [← g' k k1 q]; exact l, fun j a b => by rw [g j a b, g' j a (by omega)]⟩
  · by_cases q2 : m < k
    · exact ⟨m, hm, by rw [g m m1 q2]; exact l', fun j a b => by rw [g j a (by omega), g' j a b]⟩
    · have : k = m := by omega
      subst this
      exact ⟨k, hk, by omega, fun j a b => by rw [g j a b, g' j a b]⟩
theorem chL_sub {N : Int → Int → Int → Int} {n a b : Int} {X Y : Int → Int → Int} (hX : chL N n a X) (hY : chL N n b Y) : ∀ (m : Nat) (r : Int), 0 ≤ r → r < m → r < a → r < b ∧ ∀ k, zrg n k → X r k = Y r k := by
  obtain ⟨a0, b0, c0, d0⟩ := hX
  obtain ⟨a1, b1, c1, d1⟩ := hY
  intro m
  induction m with
  | zero => intro r x y; omega
  | succ m ih =>
    intro r x y z
    by_cases q : r < m
    · exact ih r x q z
    · obtain ⟨t, ht, et⟩ := d1 (X r) (b0 r ⟨x, z⟩)
      have t1 := ht.1
      have t2 := ht.2
      have tr : r ≤ t := by
        refine Classical.byContradiction fun w => ?_
        have i1 := (ih t t1 (by omega) (by omega)).2
        exact chLt_ir (c0 t r t1 (by omega) z) fun k hk => by rw [i1 k hk, et k hk]
      obtain ⟨t', ht', et'⟩ := d0 (Y r) (b1 r ⟨x, by omega⟩)
      have t1' := ht'.1
      have t2' := ht'.2
      have tr' : r ≤ t' := by
        refine Classical.byContradiction fun w => ?_
        have i1 := (ih t' t1' (by omega) (by omega)).2
        exact chLt_ir (c1 t' r t1' (by omega) (by omega)) fun k hk => by rw [← i1 k hk, et' k hk]
      refine ⟨by omega, ?_⟩
      by_cases w : t = r
      · rw [← w]; rw [w] at et ⊢; exact et
      · exfalso
        have l1 := c1 r t x (by omega) t2
        by_cases w' : t' = r
        · rw [w'] at et'
          exact chLt_ir l1 fun k hk => by rw [et' k hk, et k hk]
        · have l2 := c0 r t' x (by omega) t2'
          exact chLt_ir (chLt_tr l1 (chLt_cg l2 (fun k hk => (et k hk).symm) et')) fun _ _ => rfl
theorem chL_eq {N : Int → Int → Int → Int} {n a b : Int} {X Y : Int → Int → Int} (hX : chL N n a X) (hY : chL N n b Y) : a = b ∧ ∀ r k, zrg a r → zrg n k → X r k = Y r k := by
  have s1 := chL_sub hX hY (a.toNat + 1)
  have s2 := chL_sub hY hX (b.toNat + 1)
  have a0 := hX.1
  have b0 := hY.1
  refine ⟨?_, fun r k hr hk => (s1 r hr.1 (by have := hr.1; have := hr.2; omega) hr.2).2 k hk⟩
  by_cases q : a < b
  · have := (s2 a a0 (by omega) q).1; omega
  · by_cases q2 : b < a
    · have := (s1 b b0 (by omega) q2).1; omega
    · omega
theorem chL_cg {N : Int → Int → Int → Int} {n a : Int} {X Y : Int → Int → Int} (hn : 1 ≤ n) (hX : chL N n a X) (e : ∀ r k, zrg a r → zrg n k → Y r k = X r k) : chL N n a Y := by
  obtain ⟨a0, b0, c0, d0⟩ := hX
  refine ⟨a0, fun r hr => chOK_cg hn (fun k hk => e r k hr hk) (b0 r hr), fun r s x y z => chLt_cg (c0 r s x y z) (fun k hk => e r k ⟨x, by omega⟩ hk) fun k hk => e s k ⟨by omega, z⟩ hk, fun χ h => ?_⟩
  obtain ⟨r, hr, g⟩ := d0 χ h
  exact ⟨r, hr, fun k hk => by rw [e r k hr hk]; exact g k hk⟩
theorem chW_L {N : Int → Int → Int → Int} {n f : Int} {P : (Int → Int) → Prop} {X : Int → Int → Int} (h : chW N n P 0 f X) (hP : ∀ χ, chOK N n χ → P χ) : chL N n f X := by
  obtain ⟨a, b, c, d⟩ := h
  refine ⟨a, fun r hr => (b r hr.1 hr.2).1, c, fun χ hx => ?_⟩
  obtain ⟨r, u, v, w⟩ := d χ hx (hP χ hx)
  exact ⟨r, ⟨u, v⟩, w⟩
