/-! the equation of one law -/
theorem K_atF {d : Nat} {n i j k : Int} {N : Int → Int → Int → Int} {μ : zM} {P : Int → zM → Prop} (hn : n ≤ 5) (hF : zFu 16 n N μ) (hi : zrg n i) (hj : zrg n j) (hk : zrg n k) : zC (d + 2) 10 [(2, 15), (0, i), (0, j), (0, k)] μ P ↔ P (N i j k) μ := by
  rw [K_at15 ⟨hi.1, by have := hi.2; omega⟩ ⟨hj.1, by have := hj.2; omega⟩ ⟨hk.1, by have := hk.2; omega⟩, hF i j k hi hj hk]
