/-! characters: what is known of the first sorts, lists of them -/
def preP (N : Int → Int → Int → Int) (n s : Int) (c χ : Int → Int) : Prop := ∀ k, 1 ≤ k → k < s → (31 : Int) ∣ χ k - c k ∧ ∀ o', 1 ≤ o' → o' < n → glw N n k o' (c k) χ
def pfx (s : Int) (c χ : Int → Int) : Prop := ∀ k, 0 ≤ k → k < s → χ k = c k
def plt (s : Int) (x c : Int → Int) : Prop := ∃ k, 0 ≤ k ∧ k < s ∧ x k < c k ∧ ∀ j, 0 ≤ j → j < k → x j = c j
def xr (u : zM) (r k : Int) : Int := if 0 ≤ k ∧ k < 5 then u 20 (5 * r + k) else 0
def chW (N : Int → Int → Int → Int) (n : Int) (P : (Int → Int) → Prop) (f f' : Int) (X : Int → Int → Int) : Prop := f ≤ f' ∧ (∀ r, f ≤ r → r < f' → chOK N n (X r) ∧ P (X r)) ∧ (∀ r s, f ≤ r → r < s → s < f' → chLt n (X r) (X s)) ∧ ∀ χ, chOK N n χ → P χ → ∃ r, f ≤ r ∧ r < f' ∧ ∀ k, zrg n k → χ k = X r k
def chA (N : Int → Int → Int → Int) (n s : Int) (c : Int → Int) (f : Int) (X : Int → Int → Int) : Prop := 0 ≤ f ∧ (∀ r, zrg f r → chOK N n (X r) ∧ plt s (X r) c) ∧ ∀ r s', 0 ≤ r → r < s' → s' < f → chLt n (X r) (X s')
theorem kW_cg {kn kn' : Int → Int} (h : ∀ i, zrg 25 i → kn' i = kn i) (hk : kW kn) : kW kn' := by
  refine ⟨fun i hi => by rw [h i hi]; exact hk.1 i hi, fun s a b => ?_⟩
  rw [h _ ⟨by omega, by omega⟩]
  rcases hk.2 s a b with z | ⟨z, y⟩
  · exact Or.inl z
  · exact Or.inr ⟨z, fun k e g => by rw [h _ ⟨by omega, by omega⟩]; exact y k e g⟩
theorem kS_cg {kn kn' χ : Int → Int} (h : ∀ i, zrg 25 i → kn' i = kn i) : kS kn' χ ↔ kS kn χ := by
  refine forall_congr' fun s => forall_congr' fun a => forall_congr' fun b => ?_
  have e : evq (fun k => kn' (5 * s + k)) χ = evq (fun k => kn (5 * s + k)) χ := zs_cg (by omega) fun k hk => by
    have h1 := hk.1
    have h2 := hk.2
    show kn' (5 * s + k) * χ k = kn (5 * s + k) * χ k
    rw [h _ ⟨by omega, by omega⟩]
  rw [e, h _ ⟨by omega, by omega⟩]
theorem tri {kn : Int → Int} (h : kW kn) : ∃ χ : Int → Int, χ 0 = 1 ∧ kS kn χ := by
  obtain ⟨x1, h1⟩ : ∃ x : Int, x = - kn 5 := ⟨_, rfl⟩
  obtain ⟨x2, h2⟩ : ∃ x : Int, x = - (kn 10 + kn 11 * x1) := ⟨_, rfl⟩
  obtain ⟨x3, h3⟩ : ∃ x : Int, x = - (kn 15 + kn 16 * x1 + kn 17 * x2) := ⟨_, rfl⟩
  obtain ⟨x4, h4⟩ : ∃ x : Int, x = - (kn 20 + kn 21 * x1 + kn 22 * x2 + kn 23 * x3) := ⟨_, rfl⟩
  refine ⟨fun k => if k = 0 then 1 else if k = 1 then x1 else if k = 2 then x2 else if k = 3 then x3 else x4, rfl, fun s a b => ?_⟩
  have key : evq (fun k => kn (5 * s + k)) (fun k => if k = 0 then 1 else if k = 1 then x1 else if k = 2 then x2 else if k = 3 then x3 else x4) = ((((0 + kn (5 * s + 0) * 1) + kn (5 * s + 1) * x1) + kn (5 * s + 2) * x2) + kn (5 * s + 3) * x3) + kn (5 * s + 4) * x4 := rfl
  rcases h.2 s a b with z | ⟨z, y⟩
  · exact Or.inl z
  · refine Or.inr ⟨0, ?_⟩
    rw [key]
    obtain q | q | q | q : s = 1 ∨ s = 2 ∨ s = 3 ∨ s = 4 := by omega
    all_goals subst q
    · have y2 := y 2 (by omega) (by omega); have y3 := y 3 (by omega) (by omega); have y4 := y 4 (by omega) (by omega)
      simp only [Int.reduceMul, Int.reduceAdd] at z y2 y3 y4 ⊢
      simp only [z, y2, y3, y4]; omega
    · have y3 := y 3 (by omega) (by omega); have y4 := y 4 (by omega) (by omega)
      simp only [Int.reduceMul, Int.reduceAdd] at z y3 y4 ⊢
      simp only [z, y3, y4]; omega
    · have y4 := y 4 (by omega) (by omega)
      simp only [Int.reduceMul, Int.reduceAdd] at z y4 ⊢
      simp only [z, y4]; omega
    · simp only [Int.reduceMul, Int.reduceAdd] at z ⊢
      simp only [z]; omega
def zN1 (n : Int) (N : Int → Int → Int → Int) : Prop := (∀ j k, zrg n j → zrg n k → N 0 j k = if k = j then 1 else 0) ∧ ∀ i k, zrg n i → zrg n k → N i 0 k = if k = i then 1 else 0
theorem zs_1 {N : Int → Int → Int → Int} {n : Int} (h : zN1 n N) (c : Int → Int) {j : Int} (hj : zrg n j) : zs (fun k => N 0 j k * c k) n = c j ∧ zs (fun k => N j 0 k * c k) n = c j := by
  have hn : 0 ≤ n := by have := hj.1; have := hj.2; omega
  refine ⟨?_, ?_⟩
  · rw [← (zs_delta (g := c) (n := n) (j := j) hj).1]
    exact zs_cg hn fun k hk => by show N 0 j k * c k = _ * _; rw [h.1 j k hj hk]
  · rw [← (zs_delta (g := c) (n := n) (j := j) hj).1]
    exact zs_cg hn fun k hk => by show N j 0 k * c k = _ * _; rw [h.2 j k hj hk]
theorem mod_dv {a b : Int} : a % 31 = b % 31 ↔ (31 : Int) ∣ a - b := by omega
theorem dv_cg {N : Int → Int} {n : Int} (hn : 0 ≤ n) {χ c : Int → Int} (h : ∀ k, zrg n k → (31 : Int) ∣ χ k - c k) : (31 : Int) ∣ zs (fun k => N k * χ k) n - zs (fun k => N k * c k) n := by
  obtain ⟨m, rfl⟩ : ∃ m : Nat, n = (m : Int) := ⟨n.toNat, by omega⟩
  refine ev_cg m fun k hk => ?_
  obtain ⟨q, hq⟩ := h k hk
  refine ⟨N k * q, ?_⟩
  show N k * χ k - N k * c k = 31 * (N k * q)
  rw [← Int.mul_sub, hq, Int.mul_left_comm]
theorem leaf {N : Int → Int → Int → Int} {n : Int} {c kn : Int → Int} (hn : 1 ≤ n) (hk : kW kn) (h : ∀ χ : Int → Int, χ 0 = 1 → (kS kn χ ↔ preP N n n c χ)) (c0 : c 0 = 1) (cb : ∀ k, zrg n k → 0 ≤ c k ∧ c k ≤ 30) (N1 : zN1 n N) : chOK N n c := by
  obtain ⟨χ, x0, hs⟩ := tri hk
  have p := (h χ x0).1 hs
  have e : ∀ k, zrg n k → (31 : Int) ∣ χ k - c k := fun k hk => by
    by_cases z : k = 0
    · rw [z, x0, c0]; omega
    · exact (p k (by have := hk.1; omega) hk.2).1
  refine ⟨c0, cb, fun i j hi hj => ?_⟩
  by_cases i0 : i = 0
  · rw [i0, c0, (zs_1 N1 c hj).1]; omega
  · by_cases j0 : j = 0
    · rw [j0, c0, (zs_1 N1 c hi).2]; omega
    · have g := (p i (by have := hi.1; omega) hi.2).2 j (by have := hj.1; omega) hj.2
      unfold glw at g
      have d := dv_cg (N := fun k => N i j k) (by omega : 0 ≤ n) e
      obtain ⟨q, hq⟩ := e j hj
      have e2 : c i * χ j - c i * c j = 31 * (c i * q) := by rw [← Int.mul_sub, hq, Int.mul_left_comm]
      rw [mod_dv]
      omega
theorem ok_glw {N : Int → Int → Int → Int} {n : Int} {χ : Int → Int} (h : chOK N n χ) {i j : Int} (hi : zrg n i) (hj : zrg n j) : glw N n i j (χ i) χ := mod_dv.1 (h.2.2 i j hi hj)
theorem ok_pre {N : Int → Int → Int → Int} {n s : Int} {c χ : Int → Int} (hs : s ≤ n) (h : chOK N n χ) (p : pfx s c χ) : preP N n s c χ := fun k a b => by
  rw [← p k (by omega) b]
  exact ⟨by omega, fun o' a' b' => ok_glw h ⟨by omega, by omega⟩ ⟨by omega, b'⟩⟩
def chU (c : Int → Int) (s a : Int) : Int → Int := fun k => if k = s then a else c k
theorem pre_st {N : Int → Int → Int → Int} {n s a : Int} {c χ : Int → Int} (hs : 1 ≤ s) : preP N n (s + 1) (chU c s a) χ ↔ (preP N n s c χ ∧ (31 : Int) ∣ χ s - a ∧ ∀ o', 1 ≤ o' → o' < n → glw N n s o' a χ) := by
  unfold preP chU
  constructor
  · intro h
    refine ⟨fun k x y => ?_, ?_⟩
    · have := h k x (by omega)
      rw [if_neg (by omega)] at this
      exact this
    · have := h s hs (by omega)
      rw [if_pos rfl] at this
      exact this
  · rintro ⟨h, g⟩ k x y
    by_cases z : k = s
    · rw [z, if_pos rfl]; exact g
    · rw [if_neg z]; exact h k x (by omega)
theorem pfx_st {s a : Int} {c χ : Int → Int} (hs : 0 ≤ s) : pfx (s + 1) (chU c s a) χ ↔ (pfx s c χ ∧ χ s = a) := by
  unfold pfx chU
  constructor
  · intro h
    refine ⟨fun k x y => ?_, ?_⟩
    · have := h k x (by omega)
      rw [if_neg (by omega)] at this
      exact this
    · have := h s hs (by omega)
      rw [if_pos rfl] at this
      exact this
  · rintro ⟨h, g⟩ k x y
    by_cases z : k = s
    · rw [z, if_pos rfl]; exact g
    · rw [if_neg z]; exact h k x (by omega)
theorem chW_0 {N : Int → Int → Int → Int} {n f : Int} {P : (Int → Int) → Prop} {X : Int → Int → Int} (h : ∀ χ, chOK N n χ → ¬ P χ) : chW N n P f f X := ⟨by omega, fun r a b => by omega, fun r s a b c => by omega, fun χ a b => absurd b (h χ a)⟩
theorem chW_app {N : Int → Int → Int → Int} {n f f1 f2 : Int} {P P1 P2 : (Int → Int) → Prop} {X X' : Int → Int → Int} (h1 : chW N n P1 f f1 X) (h2 : chW N n P2 f1 f2 X') (e : ∀ r, r < f1 → X' r = X r) (cr : ∀ χ ψ, P1 χ → P2 ψ → chLt n χ ψ) (hP : ∀ χ, P χ ↔ P1 χ ∨ P2 χ) : chW N n P f f2 X' := by
  obtain ⟨a1, b1, c1, d1⟩ := h1
  obtain ⟨a2, b2, c2, d2⟩ := h2
  refine ⟨by omega, fun r x y => ?_, fun r s x y z => ?_, fun χ x y => ?_⟩
  · by_cases q : r < f1
    · rw [e r q]; exact ⟨(b1 r x q).1, (hP _).2 (Or.inl (b1 r x q).2)⟩
    · exact ⟨(b2 r (by omega) y).1, (hP _).2 (Or.inr (b2 r (by omega) y).2)⟩
  · by_cases q : s < f1
    · rw [e r (by omega), e s q]; exact c1 r s x y q
    · by_cases q2 : r < f1
      · rw [e r q2]; exact cr _ _ (b1 r x q2).2 (b2 s (by omega) z).2
      · exact c2 r s (by omega) y z
  · rcases (hP χ).1 y with p | p
    · obtain ⟨r, u, v, w⟩ := d1 χ x p
      exact ⟨r, u, by omega, fun k hk => by rw [e r v]; exact w k hk⟩
    · obtain ⟨r, u, v, w⟩ := d2 χ x p
      exact ⟨r, by omega, v, w⟩
theorem chW_P {N : Int → Int → Int → Int} {n f f' : Int} {P P' : (Int → Int) → Prop} {X X' : Int → Int → Int} (h : chW N n P f f' X) (hP : ∀ χ, chOK N n χ → (P χ ↔ P' χ)) (e : ∀ r, r < f' → X' r = X r) : chW N n P' f f' X' := by
  obtain ⟨a, b, c, d⟩ := h
  refine ⟨a, fun r x y => ?_, fun r s x y z => ?_, fun χ x y => ?_⟩
  · rw [e r y]; exact ⟨(b r x y).1, (hP _ (b r x y).1).1 (b r x y).2⟩
  · rw [e r (by omega), e s z]; exact c r s x y z
  · obtain ⟨r, u, v, w⟩ := d χ x ((hP χ x).2 y)
    exact ⟨r, u, v, fun k hk => by rw [e r v]; exact w k hk⟩
/-- the rows so far stand before all that begin with c and then a -/
theorem chA_st {N : Int → Int → Int → Int} {n s a f f1 : Int} {c : Int → Int} {X X' : Int → Int → Int} (hs : 0 ≤ s) (hsn : s < n) (h : chA N n s c f X) (w : chW N n (fun χ => pfx s c χ ∧ χ s < a) f f1 X') (e : ∀ r, r < f → X' r = X r) : chA N n (s + 1) (chU c s a) f1 X' := by
  obtain ⟨a1, b1, c1⟩ := h
  obtain ⟨a2, b2, c2, -⟩ := w
  have pl : ∀ x, plt s x c → plt (s + 1) x (chU c s a) := by
    rintro x ⟨k, p, q, l, g⟩
    refine ⟨k, p, by omega, ?_, fun j u v => ?_⟩
    · unfold chU; rw [if_neg (by omega)]; exact l
    · unfold chU; rw [if_neg (by omega)]; exact g j u v
  have pl2 : ∀ x, (pfx s c x ∧ x s < a) → plt (s + 1) x (chU c s a) := by
    rintro x ⟨p, l⟩
    refine ⟨s, hs, by omega, ?_, fun j u v => ?_⟩
    · unfold chU; rw [if_pos rfl]; exact l
    · unfold chU; rw [if_neg (by omega)]; exact p j u v
  refine ⟨by omega, fun r hr => ?_, fun r r' x y z => ?_⟩
  · by_cases q : r < f
    · rw [e r q]; exact ⟨(b1 r ⟨hr.1, q⟩).1, pl _ (b1 r ⟨hr.1, q⟩).2⟩
    · exact ⟨(b2 r (by omega) hr.2).1, pl2 _ (b2 r (by omega) hr.2).2⟩
  · by_cases q : r' < f
    · rw [e r (by omega), e r' q]; exact c1 r r' x y q
    · by_cases q2 : r < f
      · rw [e r q2]
        obtain ⟨k, p, q3, l, g⟩ := (b1 r ⟨x, q2⟩).2
        have t := (b2 r' (by omega) z).2.1
        exact ⟨k, ⟨p, by omega⟩, by rw [t k p q3]; exact l, fun j u v => by rw [t j u (by omega)]; exact g j u v⟩
      · exact c2 r r' (by omega) y z
theorem chA_leaf {N : Int → Int → Int → Int} {n f : Int} {c : Int → Int} {X X' : Int → Int → Int} (hn : 1 ≤ n) (h : chA N n n c f X) (hc : chOK N n c) (e : ∀ r, r < f → X' r = X r) (e' : ∀ k, zrg n k → X' f k = c k) (ok : chOK N n (X' f)) : f + 1 ≤ n ∧ chW N n (pfx n c) f (f + 1) X' := by
  obtain ⟨a1, b1, c1⟩ := h
  refine ⟨ch_max (N := N) hn (X := X') (fun r hr => ?_) fun r s x y z => ?_, by omega, fun r x y => ?_, fun r s x y z => by omega, fun χ x y => ⟨f, by omega, by omega, fun k hk => by rw [e' k hk]; exact y k hk.1 hk.2⟩⟩
  · by_cases q : r < f
    · rw [e r q]; exact (b1 r ⟨hr.1, q⟩).1
    · rw [show r = f by have := hr.2; omega]; exact ok
  · by_cases q : s < f
    · rw [e r (by omega), e s q]; exact c1 r s x y q
    · rw [show s = f by omega, e r (by omega)]
      obtain ⟨k, p, q3, l, g⟩ := (b1 r ⟨x, by omega⟩).2
      exact ⟨k, ⟨p, q3⟩, by rw [e' k ⟨p, q3⟩]; exact l, fun j u v => by rw [e' j ⟨u, by omega⟩]; exact g j u v⟩
  · rw [show r = f by omega]
    exact ⟨ok, fun k p q => e' k ⟨p, q⟩⟩
theorem chOK_cg {N : Int → Int → Int → Int} {n : Int} {χ ψ : Int → Int} (hn : 1 ≤ n) (e : ∀ k, zrg n k → ψ k = χ k) (h : chOK N n χ) : chOK N n ψ := by
  refine ⟨by rw [e 0 ⟨by omega, by omega⟩]; exact h.1, fun i hi => by rw [e i hi]; exact h.2.1 i hi, fun i j hi hj => ?_⟩
  rw [e i hi, e j hj, h.2.2 i j hi hj, zs_cg (by omega) fun k hk => ?_]
  show N i j k * χ k = N i j k * ψ k
  rw [e k hk]
