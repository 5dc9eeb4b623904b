/-! loops, sums, what stays -/
theorem zloop {σ : Type} {n : Int} {Inv R : Int → σ → Prop} (step : ∀ i s, 0 ≤ i → i < n → Inv i s → (∀ s', Inv (i + 1) s' → R (i + 1) s') → R i s) (done : ∀ s, Inv n s → R n s) : ∀ i s, 0 ≤ i → i ≤ n → Inv i s → R i s := by
  have key : ∀ (m : Nat) (i : Int) (s : σ), 0 ≤ i → n - i = m → Inv i s → R i s := by
    intro m
    induction m with
    | zero =>
      intro i s h0 h1 h
      have e : i = n := by omega
      subst e
      exact done s h
    | succ m ih =>
      intro i s h0 h1 h
      exact step i s h0 (by omega) h (fun s' h' => ih (i + 1) s' (by omega) (by omega) h')
  intro i s h0 h1 h
  exact key (n - i).toNat i s h0 (by omega) h
def zsum (f : Int → Int) : Nat → Int
  | 0 => 0
  | m + 1 => zsum f m + f m
def zs (f : Int → Int) (m : Int) : Int := zsum f m.toNat
theorem zs_0 (f : Int → Int) : zs f 0 = 0 := rfl
theorem zs_s (f : Int → Int) {m : Int} (h : 0 ≤ m) : zs f (m + 1) = zs f m + f m := by
  unfold zs
  have e : (m + 1).toNat = m.toNat + 1 := by omega
  have e2 : ((m.toNat : Nat) : Int) = m := by omega
  rw [e]
  show zsum f m.toNat + f (m.toNat : Int) = _
  rw [e2]
theorem zs_bd {f : Int → Int} {b n : Int} (hf : ∀ i, 0 ≤ i → i < n → 0 ≤ f i ∧ f i ≤ b) : ∀ m, 0 ≤ m → m ≤ n → 0 ≤ zs f m ∧ zs f m ≤ b * m := by
  have key : ∀ (k : Nat), (k : Int) ≤ n → 0 ≤ zs f k ∧ zs f k ≤ b * k := by
    intro k
    induction k with
    | zero => intro _; rw [show ((0 : Nat) : Int) = 0 from rfl, zs_0]; simp
    | succ k ih =>
      intro h
      have h1 := ih (by omega)
      have h2 := hf k (by omega) (by omega)
      rw [show ((k + 1 : Nat) : Int) = (k : Int) + 1 from rfl, zs_s f (by omega), Int.mul_add]
      omega
  intro m h0 h1
  have := key m.toNat (by omega)
  rw [show ((m.toNat : Nat) : Int) = m by omega] at this
  exact this
theorem zs_congr {f g : Int → Int} {n : Int} (h : ∀ i, 0 ≤ i → i < n → f i = g i) : ∀ m, 0 ≤ m → m ≤ n → zs f m = zs g m := by
  have key : ∀ (k : Nat), (k : Int) ≤ n → zs f k = zs g k := by
    intro k
    induction k with
    | zero => intro _; rfl
    | succ k ih =>
      intro h2
      rw [show ((k + 1 : Nat) : Int) = (k : Int) + 1 from rfl, zs_s f (by omega), zs_s g (by omega), ih (by omega), h k (by omega) (by omega)]
  intro m h0 h1
  have := key m.toNat (by omega)
  rw [show ((m.toNat : Nat) : Int) = m by omega] at this
  exact this
theorem zmul_bd {a b x y : Int} (ha : 0 ≤ a ∧ a ≤ x) (hb : 0 ≤ b ∧ b ≤ y) : 0 ≤ a * b ∧ a * b ≤ x * y := ⟨Int.mul_nonneg ha.1 hb.1, Int.mul_le_mul ha.2 hb.2 hb.1 (by omega)⟩
/-- cells that aren't listed stay -/
def zsm (S : List Int) (μ u : zM) : Prop := ∀ a, a ∉ S → u a = μ a
theorem zsm_rf {S : List Int} {μ : zM} : zsm S μ μ := fun _ _ => rfl
theorem zsm_tr {S : List Int} {μ u w : zM} (h1 : zsm S μ u) (h2 : zsm S u w) : zsm S μ w := fun a ha => (h2 a ha).trans (h1 a ha)
theorem zsm_up {S T : List Int} {μ u : zM} (h : zsm S μ u) (hs : ∀ a ∈ S, a ∈ T) : zsm T μ u := fun a ha => h a (fun z => ha (hs a z))
theorem zsm_u {S : List Int} {μ u : zM} {a i v : Int} (h : zsm S μ u) (ha : a ∈ S) : zsm S μ (zu u a i v) := fun b hb => by
  rw [← h b hb]
  funext j
  exact zu_ne (fun z => hb (z.1 ▸ ha))
theorem zsm_c {S : List Int} {μ u : zM} {a b sp dp n : Int} (h : zsm S μ u) (hb : b ∈ S) : zsm S μ (zcp u a b sp dp n) := fun c hc => by
  rw [← h c hc]
  funext j
  unfold zcp
  rw [if_neg (fun z : c = b ∧ dp ≤ j ∧ j < dp + n => hc (z.1 ▸ hb))]
theorem zu_d (μ : zM) (a i v b j : Int) : zu μ a i v b j = if b = a ∧ j = i then v else μ b j := rfl
theorem zcp_d (μ : zM) (a b sp dp n c i : Int) : zcp μ a b sp dp n c i = if c = b ∧ dp ≤ i ∧ i < dp + n then μ a (sp + (i - dp)) else μ c i := rfl
theorem oL_bd (n i j k : Int) : 0 ≤ oL n i j k ∧ oL n i j k ≤ 1 := by unfold oL; split <;> omega
theorem oF_bd {K n f : Int} {T : Int → Int} {i j k : Int} (hf : 0 ≤ f ∧ f ≤ 9) (hT : 0 ≤ T (25 * i + 5 * j + k) ∧ T (25 * i + 5 * j + k) ≤ 9) : 0 ≤ oF K n f T i j k ∧ oF K n f T i j k ≤ 9 := by
  have := oL_bd n i j k
  unfold oF oH
  grind
