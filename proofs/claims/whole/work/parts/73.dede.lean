/-! CHARACTERS do not depend on one another: never more than SORTS of them -/
theorem p31f : ∀ x y : Fin 31, ((x.val : Int) * (y.val : Int)) % 31 = 0 → (x.val : Int) = 0 ∨ (y.val : Int) = 0 := by decide +kernel
theorem p31 {a b : Int} (h : (31 : Int) ∣ a * b) : (31 : Int) ∣ a ∨ (31 : Int) ∣ b := by
  obtain ⟨x, hx⟩ := f31 (x := a % 31) (by omega)
  obtain ⟨y, hy⟩ := f31 (x := b % 31) (by omega)
  have q : (a % 31) * (b % 31) % 31 = 0 := by rw [← Int.mul_emod]; exact Int.emod_eq_zero_of_dvd h
  rw [hx, hy] at q
  rcases p31f x y q with e | e
  · exact Or.inl (Int.dvd_of_emod_eq_zero (by rw [hx]; exact e))
  · exact Or.inr (Int.dvd_of_emod_eq_zero (by rw [hy]; exact e))
theorem zsu_d {f : Int → Int} : ∀ m : Nat, (∀ i, zrg m i → (31 : Int) ∣ f i) → (31 : Int) ∣ zs f m := by
  intro m
  induction m with
  | zero => intro _; exact ⟨0, rfl⟩
  | succ m ih =>
    intro h
    rw [show ((m + 1 : Nat) : Int) = (m : Int) + 1 by omega, zs_s f (by omega)]
    exact Int.dvd_add (ih fun i hi => h i ⟨hi.1, by have := hi.2; omega⟩) (h m ⟨by omega, by omega⟩)
theorem zsu_lin {f g : Int → Int} (a b : Int) : ∀ m : Nat, zs (fun i => a * f i + b * g i) m = a * zs f m + b * zs g m := by
  intro m
  induction m with
  | zero => show (0 : Int) = a * 0 + b * 0; omega
  | succ m ih =>
    rw [show ((m + 1 : Nat) : Int) = (m : Int) + 1 by omega, zs_s _ (by omega), zs_s f (by omega), zs_s g (by omega), ih]
    simp only [Int.mul_add]
    omega
theorem zsu_c {f : Int → Int} (a : Int) (m : Nat) : zs (fun i => a * f i) m = a * zs f m := by
  have := zsu_lin (f := f) (g := f) a 0 m
  simp only [Int.zero_mul, Int.add_zero] at this
  exact this
theorem zsu_sw {f : Int → Int → Int} (n : Nat) : ∀ m : Nat, zs (fun i => zs (fun j => f i j) n) m = zs (fun j => zs (fun i => f i j) m) n := by
  intro m
  induction m with
  | zero =>
    have : ∀ n : Nat, zs (fun _ => (0 : Int)) n = 0 := by
      intro n
      have := zsu_c (f := fun _ => (0 : Int)) 0 n
      simpa using this
    show (0 : Int) = zs (fun j => 0) n
    exact (this n).symm
  | succ m ih =>
    rw [show ((m + 1 : Nat) : Int) = (m : Int) + 1 by omega, zs_s _ (by omega), ih]
    have := zsu_lin (f := fun j => zs (fun i => f i j) m) (g := fun j => f m j) 1 1 n
    simp only [Int.one_mul] at this
    rw [← this]
    congr 1
theorem ded {N : Int → Int → Int → Int} {n : Nat} (hn : 1 ≤ n) {X : Int → Int → Int} : ∀ m : Nat, (∀ r, zrg m r → chOK N n (X r)) → (∀ r s : Int, 0 ≤ r → r < s → s < m → ∃ i, zrg n i ∧ ¬ (31 : Int) ∣ X r i - X s i) → ∀ c : Int → Int, (∀ k, zrg n k → (31 : Int) ∣ zs (fun r => c r * X r k) m) → ∀ r, zrg m r → (31 : Int) ∣ c r := by
  intro m
  induction m with
  | zero => intro _ _ c _ r hr; have := hr.1; have := hr.2; omega
  | succ m ih =>
    intro hX hd c h r hr
    have key : ∀ r, zrg m r → (31 : Int) ∣ c r := by
      intro r hr
      obtain ⟨i, hi, hne⟩ := hd r m hr.1 hr.2 (by omega)
      have := ih (fun r hr => hX r ⟨hr.1, by have := hr.2; omega⟩) (fun r s a b e => hd r s a b (by omega)) (fun r => c r * (X r i - X m i)) ?_ r hr
      · rcases p31 this with q | q
        · exact q
        · exact absurd q hne
      · intro j hj
        -- sum over all r of c r * X r i * X r j is a combination of the sums
        have e1 : (31 : Int) ∣ zs (fun r => c r * (X r i * X r j)) ((m + 1 : Nat) : Int) := by
          have a1 : (31 : Int) ∣ zs (fun r => c r * (X r i * X r j) + (-1) * (c r * zs (fun k => N i j k * X r k) n)) ((m + 1 : Nat) : Int) := by
            refine zsu_d (m + 1) fun r hr => ?_
            have := (hX r hr).2.2 i j hi hj
            obtain ⟨q, hq⟩ : (31 : Int) ∣ X r i * X r j - zs (fun k => N i j k * X r k) n := by omega
            refine ⟨c r * q, ?_⟩
            have : c r * (X r i * X r j - zs (fun k => N i j k * X r k) n) = c r * (31 * q) := by rw [hq]
            rw [Int.mul_sub] at this
            rw [show 31 * (c r * q) = c r * (31 * q) by simp [Int.mul_left_comm]]
            omega
          have a2 : (31 : Int) ∣ zs (fun r => c r * zs (fun k => N i j k * X r k) n) ((m + 1 : Nat) : Int) := by
            have b1 : (fun r => c r * zs (fun k => N i j k * X r k) n) = fun r => zs (fun k => c r * (N i j k * X r k)) n := by
              funext r; exact (zsu_c (f := fun k => N i j k * X r k) (c r) n).symm
            rw [b1, zsu_sw n (m + 1)]
            refine zsu_d n fun k hk => ?_
            have b2 : (fun r => c r * (N i j k * X r k)) = fun r => N i j k * (c r * X r k) := by
              funext r; simp [Int.mul_left_comm]
            rw [b2, zsu_c]
            exact Int.dvd_trans (h k hk) ⟨N i j k, Int.mul_comm _ _⟩
          have a3 := zsu_lin (f := fun r => c r * (X r i * X r j)) (g := fun r => c r * zs (fun k => N i j k * X r k) n) 1 (-1) (m + 1)
          simp only [Int.one_mul] at a3
          rw [a3] at a1
          omega
        have e2 := h j hj
        have e3 := zsu_lin (f := fun r => c r * (X r i * X r j)) (g := fun r => c r * X r j) 1 (- X m i) (m + 1)
        have e4 : (31 : Int) ∣ zs (fun r => 1 * (c r * (X r i * X r j)) + (- X m i) * (c r * X r j)) ((m + 1 : Nat) : Int) := by
          rw [e3]
          exact Int.dvd_add (Int.dvd_trans e1 ⟨1, by omega⟩) (Int.dvd_trans e2 ⟨- X m i, Int.mul_comm _ _⟩)
        have e5 : (fun r => 1 * (c r * (X r i * X r j)) + (- X m i) * (c r * X r j)) = fun r => c r * (X r i - X m i) * X r j := by
          funext r
          simp only [Int.mul_sub, Int.sub_mul, Int.one_mul, Int.neg_mul]
          rw [show X m i * (c r * X r j) = c r * X m i * X r j by rw [← Int.mul_assoc, Int.mul_comm (X m i)], ← Int.mul_assoc]
          omega
        rw [e5, show ((m + 1 : Nat) : Int) = (m : Int) + 1 by omega, zs_s _ (by omega), Int.sub_self, Int.mul_zero, Int.zero_mul, Int.add_zero] at e4
        exact e4
    by_cases q : r = m
    · rw [q]
      have e := h 0 ⟨by omega, by omega⟩
      rw [show ((m + 1 : Nat) : Int) = (m : Int) + 1 by omega, zs_s _ (by omega), (hX m ⟨by omega, by omega⟩).1, Int.mul_one] at e
      have e2 : (31 : Int) ∣ zs (fun r => c r * X r 0) m := zsu_d m fun r hr => Int.dvd_trans (key r hr) ⟨X r 0, rfl⟩
      omega
    · exact key r ⟨hr.1, by have := hr.2; omega⟩
theorem zsu_skip {f : Int → Int} {p : Int} (h0 : 0 ≤ p) : ∀ m : Nat, p ≤ m → zs f ((m : Int) + 1) = f p + zs (fun r => f (if r < p then r else r + 1)) m := by
  intro m
  induction m with
  | zero =>
    intro h
    have : p = 0 := by omega
    subst this
    rw [zs_s f (by omega)]
    show (0 : Int) + _ = _ + (0 : Int)
    simp
  | succ m ih =>
    intro h
    rw [zs_s f (by omega)]
    by_cases q : p ≤ m
    · rw [show ((m + 1 : Nat) : Int) = (m : Int) + 1 by omega, ih q, zs_s (fun r => f (if r < p then r else r + 1)) (by omega), if_neg (by omega)]
      omega
    · have e : p = ((m + 1 : Nat) : Int) := by omega
      rw [← e, zs_congr (n := p) (f := fun r => f (if r < p then r else r + 1)) (g := f) (fun i a b => by rw [if_pos b]) p h0 (by omega)]
      omega
theorem dep : ∀ (n : Nat) (V : Int → Int → Int), ∃ c : Int → Int, (∃ r, zrg ((n : Int) + 1) r ∧ ¬ (31 : Int) ∣ c r) ∧ ∀ k, zrg n k → (31 : Int) ∣ zs (fun r => c r * V r k) ((n : Int) + 1) := by
  intro n
  induction n with
  | zero => intro V; exact ⟨fun _ => 1, ⟨0, ⟨by omega, by omega⟩, by show ¬ (31 : Int) ∣ 1; omega⟩, fun k hk => by have := hk.1; have := hk.2; omega⟩
  | succ n ih =>
    intro V
    by_cases hp : ∃ p, zrg ((n : Int) + 2) p ∧ ¬ (31 : Int) ∣ V p n
    · obtain ⟨p, hp, hv⟩ := hp
      obtain ⟨c, ⟨r, hr, hc⟩, h⟩ := ih (fun r k => V p n * V (if r < p then r else r + 1) k - V (if r < p then r else r + 1) n * V p k)
      refine ⟨fun r => if r = p then - zs (fun r => c r * V (if r < p then r else r + 1) n) ((n : Int) + 1) else c (if r < p then r else r - 1) * V p n, ⟨if r < p then r else r + 1, ?_, ?_⟩, ?_⟩
      · have := hr.1; have := hr.2
        split <;> exact ⟨by omega, by omega⟩
      · have e : ¬ (if r < p then r else r + 1) = p := by split <;> omega
        have e2 : (if (if r < p then r else r + 1) < p then (if r < p then r else r + 1) else (if r < p then r else r + 1) - 1) = r := by
          by_cases q : r < p
          · simp only [if_pos q]
          · simp only [if_neg q]; rw [if_neg (by omega)]; omega
        show ¬ (31 : Int) ∣ (if (if r < p then r else r + 1) = p then _ else _)
        rw [if_neg e, e2]
        intro q
        rcases p31 q with q | q
        · exact hc q
        · exact hv q
      · intro k hk
        have s := zsu_skip (f := fun r => (if r = p then - zs (fun r => c r * V (if r < p then r else r + 1) n) ((n : Int) + 1) else c (if r < p then r else r - 1) * V p n) * V r k) hp.1 (n + 1) (by have := hp.2; omega)
        rw [s]
        have e : (fun r => (fun r => (if r = p then - zs (fun r => c r * V (if r < p then r else r + 1) n) ((n : Int) + 1) else c (if r < p then r else r - 1) * V p n) * V r k) (if r < p then r else r + 1)) = fun r => c r * V p n * V (if r < p then r else r + 1) k := by
          funext r
          have e : ¬ (if r < p then r else r + 1) = p := by split <;> omega
          have e2 : (if (if r < p then r else r + 1) < p then (if r < p then r else r + 1) else (if r < p then r else r + 1) - 1) = r := by
            by_cases q : r < p
            · simp only [if_pos q]
            · simp only [if_neg q]; rw [if_neg (by omega)]; omega
          show (if (if r < p then r else r + 1) = p then _ else _) * _ = _
          rw [if_neg e, e2]
        rw [e]
        show (31 : Int) ∣ (if p = p then _ else _) * V p k + _
        rw [if_pos rfl]
        have t := zsu_lin (f := fun r => c r * V p n * V (if r < p then r else r + 1) k) (g := fun r => c r * V (if r < p then r else r + 1) n) 1 (- V p k) (n + 1)
        have t2 : (fun r => 1 * (c r * V p n * V (if r < p then r else r + 1) k) + (- V p k) * (c r * V (if r < p then r else r + 1) n)) = fun r => c r * (V p n * V (if r < p then r else r + 1) k - V (if r < p then r else r + 1) n * V p k) := by
          funext r
          rw [Int.mul_sub, Int.one_mul, Int.mul_assoc, Int.neg_mul, show V p k * (c r * V (if r < p then r else r + 1) n) = c r * (V (if r < p then r else r + 1) n * V p k) by rw [Int.mul_comm, Int.mul_assoc]]
          omega
        rw [t2] at t
        have g : (31 : Int) ∣ zs (fun r => c r * (V p n * V (if r < p then r else r + 1) k - V (if r < p then r else r + 1) n * V p k)) ((n : Int) + 1) := by
          by_cases q : k = n
          · refine zsu_d (n + 1) fun r _ => ?_
            rw [q, Int.mul_comm (V p n), Int.sub_self, Int.mul_zero]
            exact ⟨0, rfl⟩
          · exact h k ⟨hk.1, by have := hk.2; omega⟩
        rw [show (n : Int) + 1 = ((n + 1 : Nat) : Int) by omega, t] at g
        rw [show (n : Int) + 1 = ((n + 1 : Nat) : Int) by omega, Int.neg_mul]
        rw [Int.one_mul, Int.neg_mul, Int.mul_comm (V p k)] at g
        rw [Int.add_comm]
        exact g
    · obtain ⟨c, ⟨r, hr, hc⟩, h⟩ := ih V
      refine ⟨fun r => if r = (n : Int) + 1 then 0 else c r, ⟨r, ⟨hr.1, by have := hr.2; omega⟩, ?_⟩, ?_⟩
      · show ¬ (31 : Int) ∣ (if r = (n : Int) + 1 then 0 else c r)
        rw [if_neg (by have := hr.2; omega)]; exact hc
      · intro k hk
        by_cases q : k = n
        · rw [show ((n + 1 : Nat) : Int) + 1 = ((n + 2 : Nat) : Int) by omega]
          refine zsu_d (n + 2) fun r hr => ?_
          by_cases w : (31 : Int) ∣ V r n
          · rw [q]; exact Int.dvd_trans w ⟨_, Int.mul_comm _ _⟩
          · exact absurd ⟨r, ⟨hr.1, by have := hr.2; omega⟩, w⟩ hp
        · rw [zs_s _ (by omega), show ((n + 1 : Nat) : Int) = (n : Int) + 1 by omega]
          show (31 : Int) ∣ _ + (if (n : Int) + 1 = (n : Int) + 1 then 0 else _) * _
          rw [if_pos rfl, Int.zero_mul, Int.add_zero]
          rw [zs_congr (n := (n : Int) + 1) (g := fun r => c r * V r k) (fun i a b => by show (if i = (n : Int) + 1 then 0 else c i) * V i k = c i * V i k; rw [if_neg (by omega)]) _ (by omega) (by omega)]
          exact h k ⟨hk.1, by have := hk.2; omega⟩
theorem ch_max {N : Int → Int → Int → Int} {n cnt : Int} {X : Int → Int → Int} (hn : 1 ≤ n) (hX : ∀ r, zrg cnt r → chOK N n (X r)) (hs : ∀ r s, 0 ≤ r → r < s → s < cnt → chLt n (X r) (X s)) : cnt ≤ n := by
  refine Classical.byContradiction fun hc => ?_
  obtain ⟨n, rfl⟩ : ∃ m : Nat, n = (m : Int) := ⟨n.toNat, by omega⟩
  obtain ⟨c, ⟨r, hr, h1⟩, h2⟩ := dep n X
  refine h1 (ded (by omega) (n + 1) (fun r hr => hX r ⟨hr.1, by have := hr.2; omega⟩) (fun r s a b e => ?_) c h2 r hr)
  obtain ⟨k, hk, hl, _⟩ := hs r s a b (by omega)
  refine ⟨k, hk, fun q => ?_⟩
  have b1 := (hX r ⟨a, by omega⟩).2.1 k hk
  have b2 := (hX s ⟨by omega, by omega⟩).2.1 k hk
  omega
