/-! sets as bits -/
def tb (x k : Int) : Prop := zand (zshr x k) 1 = 1
theorem bt_or : ∀ a b : Fin 32, ∀ k : Fin 5, (0 ≤ zor (a.val : Int) (b.val : Int) ∧ zor (a.val : Int) (b.val : Int) < 32) ∧ (zand (zshr (zor (a.val : Int) (b.val : Int)) (k.val : Int)) 1 = 1 ↔ zand (zshr (a.val : Int) (k.val : Int)) 1 = 1 ∨ zand (zshr (b.val : Int) (k.val : Int)) 1 = 1) := by decide +kernel
theorem bt_shl : ∀ a b : Fin 5, (0 ≤ zshl 1 (a.val : Int) ∧ zshl 1 (a.val : Int) < 32) ∧ (zand (zshr (zshl 1 (a.val : Int)) (b.val : Int)) 1 = 1 ↔ b = a) ∧ zshl 0 (a.val : Int) = 0 := by decide +kernel
theorem bt_ext : ∀ a b : Fin 32, (∀ k : Fin 5, (zand (zshr (a.val : Int) (k.val : Int)) 1 = 1 ↔ zand (zshr (b.val : Int) (k.val : Int)) 1 = 1)) → a = b := by decide +kernel
theorem bt_and : ∀ a : Fin 32, ∀ i j : Fin 5, (zand (zand (zshr (a.val : Int) (i.val : Int)) (zshr (a.val : Int) (j.val : Int))) 1 = 1 ↔ zand (zshr (a.val : Int) (i.val : Int)) 1 = 1 ∧ zand (zshr (a.val : Int) (j.val : Int)) 1 = 1) := by decide +kernel
theorem bt_one : ∀ a : Fin 32, (zand (a.val : Int) 1 = 1 ↔ zand (zshr (a.val : Int) 0) 1 = 1) ∧ ∀ k : Fin 5, zand (zshr (a.val : Int) (k.val : Int)) 1 = 0 ∨ zand (zshr (a.val : Int) (k.val : Int)) 1 = 1 := by decide +kernel
theorem bt_sub : ∀ a b : Fin 32, (zand (a.val : Int) (zxor (b.val : Int) (-1)) = 0 ↔ ∀ k : Fin 5, zand (zshr (a.val : Int) (k.val : Int)) 1 = 1 → zand (zshr (b.val : Int) (k.val : Int)) 1 = 1) := by decide +kernel
def pcn (x : Int) : Int := x % 2 + x / 2 % 2 + x / 4 % 2 + x / 8 % 2 + x / 16 % 2
theorem bt_pc : ∀ a b : Fin 32, (∀ k : Fin 5, zand (zshr (a.val : Int) (k.val : Int)) 1 = 1 → zand (zshr (b.val : Int) (k.val : Int)) 1 = 1) → a = b ∨ pcn (a.val : Int) < pcn (b.val : Int) := by decide +kernel
theorem bt_cut : ∀ a : Fin 32, ∀ n k : Fin 5, (a.val : Int) < zshl 1 (n.val : Int) → n ≤ k → ¬ zand (zshr (a.val : Int) (k.val : Int)) 1 = 1 := by decide +kernel
theorem f32 {x : Int} (h : 0 ≤ x ∧ x < 32) : ∃ a : Fin 32, x = (a.val : Int) := ⟨⟨x.toNat, by omega⟩, by show x = ((x.toNat : Nat) : Int); omega⟩
theorem f5 {x : Int} (h : 0 ≤ x ∧ x < 5) : ∃ a : Fin 5, x = (a.val : Int) := ⟨⟨x.toNat, by omega⟩, by show x = ((x.toNat : Nat) : Int); omega⟩
theorem tb_or {x y k : Int} (hx : 0 ≤ x ∧ x < 32) (hy : 0 ≤ y ∧ y < 32) (hk : 0 ≤ k ∧ k < 5) : tb (zor x y) k ↔ tb x k ∨ tb y k := by
  obtain ⟨a, rfl⟩ := f32 hx
  obtain ⟨b, rfl⟩ := f32 hy
  obtain ⟨c, rfl⟩ := f5 hk
  exact (bt_or a b c).2
theorem zor_b {x y : Int} (hx : 0 ≤ x ∧ x < 32) (hy : 0 ≤ y ∧ y < 32) : 0 ≤ zor x y ∧ zor x y < 32 := by
  obtain ⟨a, rfl⟩ := f32 hx
  obtain ⟨b, rfl⟩ := f32 hy
  exact (bt_or a b 0).1
theorem tb_shl {j k : Int} (hj : 0 ≤ j ∧ j < 5) (hk : 0 ≤ k ∧ k < 5) : tb (zshl 1 k) j ↔ j = k := by
  obtain ⟨a, rfl⟩ := f5 hj
  obtain ⟨b, rfl⟩ := f5 hk
  refine (bt_shl b a).2.1.trans ⟨fun e => by rw [e], fun e => Fin.ext (by omega)⟩
theorem zshl_b {k : Int} (hk : 0 ≤ k ∧ k < 5) : (0 ≤ zshl 1 k ∧ zshl 1 k < 32) ∧ zshl 0 k = 0 := by
  obtain ⟨b, rfl⟩ := f5 hk
  exact ⟨(bt_shl b 0).1, (bt_shl b 0).2.2⟩
theorem tb_ext {x y : Int} (hx : 0 ≤ x ∧ x < 32) (hy : 0 ≤ y ∧ y < 32) (h : ∀ k, 0 ≤ k ∧ k < 5 → (tb x k ↔ tb y k)) : x = y := by
  obtain ⟨a, rfl⟩ := f32 hx
  obtain ⟨b, rfl⟩ := f32 hy
  rw [bt_ext a b (fun k => h (k.val : Int) ⟨by omega, by omega⟩)]
theorem tb_and {x i j : Int} (hx : 0 ≤ x ∧ x < 32) (hi : 0 ≤ i ∧ i < 5) (hj : 0 ≤ j ∧ j < 5) : zand (zand (zshr x i) (zshr x j)) 1 = 1 ↔ tb x i ∧ tb x j := by
  obtain ⟨a, rfl⟩ := f32 hx
  obtain ⟨b, rfl⟩ := f5 hi
  obtain ⟨c, rfl⟩ := f5 hj
  exact bt_and a b c
theorem tb_one {x : Int} (hx : 0 ≤ x ∧ x < 32) : zand x 1 = 1 ↔ tb x 0 := by
  obtain ⟨a, rfl⟩ := f32 hx
  exact (bt_one a).1
theorem tb_01 {x k : Int} (hx : 0 ≤ x ∧ x < 32) (hk : 0 ≤ k ∧ k < 5) : zand (zshr x k) 1 = 0 ∨ zand (zshr x k) 1 = 1 := by
  obtain ⟨a, rfl⟩ := f32 hx
  obtain ⟨c, rfl⟩ := f5 hk
  exact (bt_one a).2 c
theorem tb_sub {x y : Int} (hx : 0 ≤ x ∧ x < 32) (hy : 0 ≤ y ∧ y < 32) : zand x (zxor y (-1)) = 0 ↔ ∀ k, 0 ≤ k ∧ k < 5 → tb x k → tb y k := by
  obtain ⟨a, rfl⟩ := f32 hx
  obtain ⟨b, rfl⟩ := f32 hy
  refine (bt_sub a b).trans ⟨fun h k hk => ?_, fun h k => h (k.val : Int) ⟨by omega, by omega⟩⟩
  obtain ⟨c, rfl⟩ := f5 hk
  exact h c
theorem tb_pc {x y : Int} (hx : 0 ≤ x ∧ x < 32) (hy : 0 ≤ y ∧ y < 32) (h : ∀ k, 0 ≤ k ∧ k < 5 → tb x k → tb y k) : x = y ∨ pcn x < pcn y := by
  obtain ⟨a, rfl⟩ := f32 hx
  obtain ⟨b, rfl⟩ := f32 hy
  rcases bt_pc a b (fun k => h (k.val : Int) ⟨by omega, by omega⟩) with e | e
  · exact Or.inl (by rw [e])
  · exact Or.inr e
theorem pcn_b {x : Int} : 0 ≤ pcn x ∧ pcn x ≤ 5 := by unfold pcn; omega
theorem bt_p1 : ∀ a : Fin 32, 1 ≤ (a.val : Int) → 1 ≤ pcn (a.val : Int) := by decide +kernel
theorem pcn_1 {x : Int} (h : 1 ≤ x ∧ x < 32) : 1 ≤ pcn x := by
  obtain ⟨a, rfl⟩ := f32 (x := x) (by omega)
  exact bt_p1 a h.1
theorem zshl_n {n : Int} (h : 1 ≤ n ∧ n ≤ 5) : 2 ≤ zshl 1 n ∧ zshl 1 n ≤ 32 := by
  obtain rfl | rfl | rfl | rfl | rfl : n = 1 ∨ n = 2 ∨ n = 3 ∨ n = 4 ∨ n = 5 := by omega
  all_goals decide
theorem tb_cut {x n k : Int} (hn : 1 ≤ n ∧ n ≤ 5) (hx : 0 ≤ x ∧ x < zshl 1 n) (hk : n ≤ k ∧ k < 5) : ¬ tb x k := by
  have := zshl_n hn
  obtain ⟨a, rfl⟩ := f32 (x := x) (by omega)
  obtain ⟨b, rfl⟩ := f5 (x := n) (by omega)
  obtain ⟨c, rfl⟩ := f5 (x := k) (by omega)
  exact bt_cut a b c hx.2 (by show b.val ≤ c.val; omega)
/-- the set of what is so -/
noncomputable def mkB (p : Int → Prop) : Int := b01 (p 0) + 2 * b01 (p 1) + 4 * b01 (p 2) + 8 * b01 (p 3) + 16 * b01 (p 4)
theorem b01_b (c : Prop) : b01 c = 0 ∨ b01 c = 1 := by
  by_cases h : c
  · exact Or.inr (b01_y h)
  · exact Or.inl (b01_n h)
theorem b01_i {c : Prop} : b01 c = 1 ↔ c := by
  by_cases h : c
  · rw [b01_y h]; exact ⟨fun _ => h, fun _ => rfl⟩
  · rw [b01_n h]; exact ⟨fun e => by omega, fun e => absurd e h⟩
theorem mkB_b (p : Int → Prop) : 0 ≤ mkB p ∧ mkB p < 32 := by
  have h0 := b01_b (p 0)
  have h1 := b01_b (p 1)
  have h2 := b01_b (p 2)
  have h3 := b01_b (p 3)
  have h4 := b01_b (p 4)
  unfold mkB
  omega
theorem bt_mk : ∀ a b c d e : Fin 2, (zand (zshr ((a.val : Int) + 2 * (b.val : Int) + 4 * (c.val : Int) + 8 * (d.val : Int) + 16 * (e.val : Int)) 0) 1 = 1 ↔ a = 1) ∧ (zand (zshr ((a.val : Int) + 2 * (b.val : Int) + 4 * (c.val : Int) + 8 * (d.val : Int) + 16 * (e.val : Int)) 1) 1 = 1 ↔ b = 1) ∧ (zand (zshr ((a.val : Int) + 2 * (b.val : Int) + 4 * (c.val : Int) + 8 * (d.val : Int) + 16 * (e.val : Int)) 2) 1 = 1 ↔ c = 1) ∧ (zand (zshr ((a.val : Int) + 2 * (b.val : Int) + 4 * (c.val : Int) + 8 * (d.val : Int) + 16 * (e.val : Int)) 3) 1 = 1 ↔ d = 1) ∧ (zand (zshr ((a.val : Int) + 2 * (b.val : Int) + 4 * (c.val : Int) + 8 * (d.val : Int) + 16 * (e.val : Int)) 4) 1 = 1 ↔ e = 1) := by decide +kernel
theorem f2 (c : Prop) : ∃ a : Fin 2, b01 c = (a.val : Int) ∧ (a = 1 ↔ c) := by
  by_cases h : c
  · exact ⟨1, by rw [b01_y h]; rfl, ⟨fun _ => h, fun _ => rfl⟩⟩
  · exact ⟨0, by rw [b01_n h]; rfl, ⟨fun e => absurd e (by decide), fun e => absurd e h⟩⟩
theorem mkB_t (p : Int → Prop) {k : Int} (hk : 0 ≤ k ∧ k < 5) : tb (mkB p) k ↔ p k := by
  obtain ⟨a, ha, pa⟩ := f2 (p 0)
  obtain ⟨b, hb, pb⟩ := f2 (p 1)
  obtain ⟨c, hc, pc⟩ := f2 (p 2)
  obtain ⟨d, hd, pd⟩ := f2 (p 3)
  obtain ⟨e, he, pe⟩ := f2 (p 4)
  obtain ⟨h0, h1, h2, h3, h4⟩ := bt_mk a b c d e
  unfold tb mkB
  rw [ha, hb, hc, hd, he]
  obtain rfl | rfl | rfl | rfl | rfl : k = 0 ∨ k = 1 ∨ k = 2 ∨ k = 3 ∨ k = 4 := by omega
  · exact h0.trans pa
  · exact h1.trans pb
  · exact h2.trans pc
  · exact h3.trans pd
  · exact h4.trans pe
theorem mkB_of {x : Int} {p : Int → Prop} (hx : 0 ≤ x ∧ x < 32) (h : ∀ k, 0 ≤ k ∧ k < 5 → (tb x k ↔ p k)) : x = mkB p := tb_ext hx (mkB_b p) (fun k hk => (h k hk).trans (mkB_t p hk).symm)
