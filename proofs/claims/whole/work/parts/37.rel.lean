/-! what the class's cells and the reference's have to do with each other -/
def rA (c n lo hi len off : Int) (μ : zM) : Prop := ∀ i, 0 ≤ i → i < len → (lo ≤ μ c i ∧ μ c i ≤ hi) ∧ μ n (off + i) = μ c i
def rH (h n : Int) (μ : zM) : Prop := ((0 ≤ μ h 0 ∧ μ h 0 ≤ 4) ∧ μ n 0 = μ h 0) ∧ ((1 ≤ μ h 1 ∧ μ h 1 ≤ 5) ∧ μ n 1 = μ h 1) ∧ ((0 ≤ μ h 2 ∧ μ h 2 ≤ 9) ∧ μ n 2 = μ h 2) ∧ rA (h + 1) n 0 9 125 3 μ ∧ rA (h + 2) n 0 999 20 128 μ ∧ rA (h + 3) n 0 30 25 148 μ ∧ rA (h + 4) n 0 30 5 173 μ ∧ ((0 ≤ μ h 9 ∧ μ h 9 ≤ 8) ∧ μ n 178 = μ h 9) ∧ rA (h + 5) n 0 2 8 179 μ ∧ rA (h + 6) n 0 9 8 187 μ
def rI (μ : zM) : Prop := (μ 0 2 = 0 ∨ μ 0 2 = 1) ∧ μ 39 2 = μ 0 2 ∧ (μ 0 2 = 1 → rH 8 41 μ)
def rT (μ : zM) : Prop := (0 ≤ μ 29 1 ∧ μ 29 1 ≤ 60) ∧ μ 39 6 = μ 29 1 ∧ ∀ i, 0 ≤ i → i < μ 29 1 → (1 ≤ μ 30 i ∧ μ 30 i ≤ 127) ∧ μ 44 i = μ 30 i
def rP (μ : zM) : Prop := (0 ≤ μ 0 11 ∧ μ 0 11 ≤ 24) ∧ μ 39 22 = μ 0 11 ∧ ∀ i, 0 ≤ i → i < μ 0 11 → μ 55 i = μ 33 i
def rLs (μ : zM) : Prop := ∀ l, 0 ≤ l → l < 4 → (μ 35 l = -11 ∧ μ 57 l = -1) ∨ ((0 ≤ μ 35 l ∧ μ 35 l ≤ 12) ∧ μ 57 l = μ 35 l ∧ ∀ k, 0 ≤ k → k < μ 35 l → μ 56 (12 * l + k) = μ 34 (12 * l + k))
/-- the rules that the class holds, as numbers of i, j, k -/
def xF (μ : zM) (i j k : Int) : Int := oF (μ 1 0) (μ 1 1) (μ 1 2) (μ 2) i j k
/-- a row is a CHARACTER -/
def chOK (N : Int → Int → Int → Int) (n : Int) (χ : Int → Int) : Prop := χ 0 = 1 ∧ (∀ i, zrg n i → 0 ≤ χ i ∧ χ i ≤ 30) ∧ ∀ i j, zrg n i → zrg n j → (χ i * χ j) % 31 = zs (fun k => N i j k * χ k) n % 31
def chLt (n : Int) (χ ψ : Int → Int) : Prop := ∃ k, zrg n k ∧ χ k < ψ k ∧ ∀ j, 0 ≤ j → j < k → χ j = ψ j
/-- all CHARACTERS, in order -/
def chL (N : Int → Int → Int → Int) (n cnt : Int) (X : Int → Int → Int) : Prop := 0 ≤ cnt ∧ (∀ r, zrg cnt r → chOK N n (X r)) ∧ (∀ r s, 0 ≤ r → r < s → s < cnt → chLt n (X r) (X s)) ∧ ∀ χ, chOK N n χ → ∃ r, zrg cnt r ∧ ∀ k, zrg n k → χ k = X r k
def rC (μ : zM) : Prop := (μ 0 7 = 0 ∨ μ 0 7 = 1) ∧ (μ 0 8 = 0 ∨ μ 0 8 = 1) ∧ (μ 0 7 = 1 → μ 15 0 = μ 1 1 ∧ zFu 16 (μ 1 1) (xF μ) μ) ∧ (μ 0 8 = 1 → μ 0 7 = 1 ∧ chL (xF μ) (μ 1 1) (μ 19 0) (fun r k => μ 20 (5 * r + k)))
def Rel (μ : zM) : Prop := rH 1 40 μ ∧ rI μ ∧ rT μ ∧ rP μ ∧ rLs μ ∧ rC μ
/-- one operation, on both sides -/
def zOp (x m : Nat) (as : List zV) : Prop := ∀ μ, Rel μ → zC 40 x ((2, 0) :: as) μ (fun r u => (u 98 = μ 98 ∧ u 99 = μ 99) ∧ zC 40 m ((2, 39) :: as) u (fun r' w => r' = r ∧ Rel w ∧ w 98 = μ 98 ∧ w 99 = μ 99))
theorem zAl_99 {j : Int} {μ : zM} {k : Int → Prop} : zAld 0 99 j μ k = (0 ≤ j ∧ j < μ 98 0 ∧ k (μ 99 j)) := by
  unfold zAld
  rw [if_neg (by decide)]
  simp [zT_99]
