/-! one row with times another's, the search for a row -/
def adR (A : Int → Int → Int) (p q t i m : Int) : Int := if i = p then (A p m + t * A q m) % 31 else A i m
theorem adR_bd {n p q t : Int} {A : Int → Int → Int} (h : mBd n A) : mBd n (adR A p q t) := fun i m hi hm => by
  unfold adR
  by_cases a : i = p
  · rw [if_pos a]; omega
  · rw [if_neg a]; exact h i m hi hm
theorem adR_e {n p q t : Int} {A : Int → Int → Int} (h : mBd n A) (hp : zrg n p) (hq : zrg n q) (ht : 0 ≤ t ∧ t ≤ 31) {m : Int} (hm : zrg n m) : (zw (A p m + zw (t * A q m))).tmod 31 = (A p m + t * A q m) % 31 := by
  have h1 := h p m hp hm
  have h2 := zmul_bd ht (h q m hq hm)
  rw [zw_e (z := t * A q m) (by omega) (by omega), zw_e (by omega) (by omega), Int.tmod_eq_emod_of_nonneg (by omega)]
theorem K_addRow {d : Nat} {n p q t : Int} {A B : Int → Int → Int} {μ : zM} (hn : 1 ≤ n ∧ n ≤ 5) (hp : zrg n p) (hq : zrg n q) (ht : 0 ≤ t ∧ t ≤ 31) (hA : mTb 27 0 n A μ) (hB : mTb 25 0 n B μ) (hAb : mBd n A) (hBb : mBd n B) : zC (d + 1) 43 [(2, 24), (0, p), (0, q), (0, t)] μ (fun x u => x = 0 ∧ zfr [(25, -1), (27, -1)] μ u ∧ mTb 27 0 n (adR A p q t) u ∧ mTb 25 0 n (adR B p q t) u) := by
  generalize hQ : (fun (x : Int) (u : zM) => x = 0 ∧ zfr [(25, -1), (27, -1)] μ u ∧ mTb 27 0 n (adR A p q t) u ∧ mTb 25 0 n (adR B p q t) u) = Q
  have p0 := hp.1
  have p1 := hp.2
  have q0 := hq.1
  have q1 := hq.2
  obtain ⟨J, hJ⟩ : ∃ J : Int → (Int → Int → Int) → Int → zM → Prop, J = fun c A k w => ∀ i m, zrg n i → zrg n m → w c (5 * i + m) = if m < k then adR A p q t i m else A i m := ⟨_, rfl⟩
  have Js : ∀ (c : Int) (A : Int → Int → Int) (k : Int) (w w' : zM), J c A k w → (∀ x, ¬ x = 5 * p + k → w' c x = w c x) → (zrg n k → w' c (5 * p + k) = (A p k + t * A q k) % 31) → 0 ≤ k → J c A (k + 1) w' := by
    intro c A k w w' h h1 h2 k0
    rw [hJ] at h ⊢
    intro i m hi hm
    by_cases e : 5 * i + m = 5 * p + k
    · by_cases hk : k < n
      · unfold zrg at hi hm
        obtain ⟨rfl, rfl⟩ : i = p ∧ m = k := by omega
        rw [h2 ⟨k0, hk⟩, if_pos (by omega)]
        unfold adR
        rw [if_pos rfl]
      · unfold zrg at hi hm
        have hip : ¬ i = p := by omega
        have w1 : adR A p q t i m = A i m := by unfold adR; rw [if_neg hip]
        sorry
    · rw [h1 _ e, h i m hi hm]
      by_cases a : m < k
      · rw [if_pos a, if_pos (show m < k + 1 by omega)]
      · rw [if_neg a]
        by_cases b : m < k + 1
        · rw [if_pos b]
          unfold adR
          rw [if_neg (by omega)]
        · rw [if_neg b]
  sorry
