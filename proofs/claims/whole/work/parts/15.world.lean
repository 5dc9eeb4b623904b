/-! the world: the cells of the heap as the memory says; locals and stack -/
def ztr (q : Nat → Nat) : zV → Value
  | (0, x) => .int (Int32.ofInt x)
  | (1, x) => .long (Int64.ofInt x)
  | (_, x) => .ref (q x.toNat)
def zok (v : zV) : Prop := (v.1 = 0 → zi32 v.2) ∧ (v.1 = 1 → zi64 v.2)
def zst (st : List zV) : Prop := ∀ v ∈ st, v.1 ≤ 2 ∧ zok v
def zfl (q : Nat → Nat) (μ : zM) (k : Nat) (x : Int × Nat) : Value := if 0 ≤ x.1 then .ref (q x.1.toNat) else .int (Int32.ofInt (μ k x.2))
def zcell (q : Nat → Nat) (cI cB cL : ClassId) (μ : zM) (k : Nat) : va_E :=
  if zT k = 0 then .inl (cI, (zN k).toNat, .inl (fun i => Int32.ofInt (μ k i))) else
  if zT k = 1 then .inl (cB, (zN k).toNat, .inl (fun i => Int32.ofInt (μ k i))) else
  if zT k = 2 then .inl (cL, (zN k).toNat, .inr (.inl (fun i => Int64.ofInt (μ k i)))) else
  .inr ((zN k).toNat, (zS k).2.2.zipIdx.map (zfl q μ k))
def zws (q : Nat → Nat) (cI cB cL : ClassId) (μ : zM) : va_W := (List.range 58).map (fun k => (q k, zcell q cI cB cL μ k))
def zA (q : Nat → Nat) : Nat → Prop := fun a => ∃ k, k < 58 ∧ q k = a
def zinj (q : Nat → Nat) : Prop := ∀ i j, i < 58 → j < 58 → q i = q j → i = j
def zrng (μ : zM) : Prop := ∀ a i, (zT a = 2 → zi64 (μ a i)) ∧ (¬ zT a = 2 → zi32 (μ a i))
def zscr (L : Nat) (xs : Nat → Int32) (μ : zM) : Prop := μ 98 0 = (L : Int) ∧ ∀ j : Int, 0 ≤ j → j < (L : Int) → μ 99 j = (xs j.toNat).toInt
theorem zst_nil : zst [] := fun _ h => by cases h
theorem zst_cons {v : zV} {st : List zV} (h1 : v.1 ≤ 2) (h2 : zok v) (h : zst st) : zst (v :: st) := fun w hw => by
  rcases List.mem_cons.mp hw with rfl | hw
  · exact ⟨h1, h2⟩
  · exact h w hw
theorem zst_i {x : Int} {st : List zV} (hx : zi32 x) (h : zst st) : zst ((0, x) :: st) := zst_cons (by simp) ⟨fun _ => hx, fun q => (by cases q)⟩ h
theorem zst_l {x : Int} {st : List zV} (hx : zi64 x) (h : zst st) : zst ((1, x) :: st) := zst_cons (by simp) ⟨fun q => (by cases q), fun _ => hx⟩ h
theorem zst_r {x : Int} {st : List zV} (h : zst st) : zst ((2, x) :: st) := zst_cons (by simp) ⟨fun q => (by cases q), fun q => (by cases q)⟩ h
theorem zst_tl {v : zV} {st : List zV} (h : zst (v :: st)) : zst st := fun w hw => h w (List.mem_cons_of_mem _ hw)
theorem zst_hi {x : Int} {st : List zV} (h : zst ((0, x) :: st)) : zi32 x := (h _ List.mem_cons_self).2.1 rfl
theorem zst_hl {x : Int} {st : List zV} (h : zst ((1, x) :: st)) : zi64 x := (h _ List.mem_cons_self).2.2 rfl
theorem zst_drop {st : List zV} (n : Nat) (h : zst st) : zst (st.drop n) := fun w hw => h w (List.mem_of_mem_drop hw)
theorem zws_at {q : Nat → Nat} {cI cB cL : ClassId} {μ : zM} {k : Nat} (h : k < 58) : (zws q cI cB cL μ)[k]? = some (q k, zcell q cI cB cL μ k) := by simp [zws, h]
theorem zws_no {q : Nat → Nat} {cI cB cL : ClassId} {μ : zM} {k : Nat} (h : 58 ≤ k) : (zws q cI cB cL μ)[k]? = none := by simp [zws, h]
theorem zws_get {q : Nat → Nat} {cI cB cL : ClassId} {μ : zM} {k : Nat} {x : Nat × va_E} (h : (zws q cI cB cL μ)[k]? = some x) : k < 58 ∧ x = (q k, zcell q cI cB cL μ k) := by
  rcases Nat.lt_or_ge k 58 with hk | hk
  · rw [zws_at hk] at h; cases h; exact ⟨hk, rfl⟩
  · rw [zws_no hk] at h; cases h
theorem zcell_eq {q : Nat → Nat} {cI cB cL : ClassId} {μ μ' : zM} {k : Nat} (h : ∀ i, μ' k i = μ k i) : zcell q cI cB cL μ' k = zcell q cI cB cL μ k := by
  have e : μ' k = μ k := funext h
  unfold zcell
  have e2 : zfl q μ' k = zfl q μ k := by funext x; unfold zfl; rw [e]
  rw [e, e2]
theorem zws_set {q : Nat → Nat} {cI cB cL : ClassId} {μ μ' : zM} {k : Nat} (hk : k < 58) (h : ∀ j : Nat, j ≠ k → ∀ i, μ' j i = μ j i) : (zws q cI cB cL μ).set k (q k, zcell q cI cB cL μ' k) = zws q cI cB cL μ' := by
  apply List.ext_getElem?
  intro i
  have hl : k < (zws q cI cB cL μ).length := by simp [zws, hk]
  by_cases hi : i = k
  · subst hi
    rw [List.getElem?_set_self hl, zws_at hk]
  · rw [List.getElem?_set_ne (Ne.symm hi)]
    rcases Nat.lt_or_ge i 58 with h1 | h1
    · rw [zws_at h1, zws_at h1, zcell_eq (h i hi)]
    · rw [zws_no h1, zws_no h1]
theorem zws_D {q : Nat → Nat} {cI cB cL : ClassId} {μ : zM} (hi : zinj q) : va_D (zA q) (zws q cI cB cL μ) := by
  refine ⟨fun i j x y h1 h2 e => ?_, fun k x h => ?_⟩
  · obtain ⟨a1, rfl⟩ := zws_get h1
    obtain ⟨a2, rfl⟩ := zws_get h2
    exact hi i j a1 a2 e
  · obtain ⟨a1, rfl⟩ := zws_get h
    exact ⟨k, a1, rfl⟩
/-- a cell of a kind: its number is that of a place in the table -/
theorem zS_nat {a : Int} (h : zT a ≠ 9) (h4 : zT a ≠ 4) : ∃ k : Nat, k < 58 ∧ a = (k : Int) := by
  unfold zT zS at h h4
  by_cases h1 : a = 99
  · rw [if_pos h1] at h4; exact absurd rfl h4
  · rw [if_neg h1] at h
    by_cases h2 : 0 ≤ a
    · rw [if_pos h2] at h
      refine ⟨a.toNat, ?_, by omega⟩
      rcases Nat.lt_or_ge a.toNat 58 with h3 | h3
      · exact h3
      · exfalso
        apply h
        rw [List.getD_eq_getElem?_getD, List.getElem?_eq_none (by rw [zSH_len]; exact h3)]
        rfl
    · rw [if_neg h2] at h; exact absurd rfl h
theorem zS_k {k : Nat} (h : k < 58) : zS (k : Int) = zSH.getD k (9, 0, []) := by
  unfold zS
  rw [if_neg (by omega), if_pos (by omega)]
  rfl
theorem zS_mem {k : Nat} (h : k < 58) : zS (k : Int) ∈ zSH := by
  have h2 : k < zSH.length := by rw [zSH_len]; exact h
  rw [zS_k h, List.getD_eq_getElem?_getD, List.getElem?_eq_getElem h2]
  exact List.getElem_mem h2
theorem zS_ok {k : Nat} (h : k < 58) : zcok (zS (k : Int)) = true := List.all_eq_true.mp zcok_c _ (zS_mem h)
theorem zN_pos {k : Nat} (h : k < 58) : 0 ≤ zN k := by
  have := zS_ok h
  unfold zcok at this
  unfold zN
  split at this
  · simp only [Bool.and_eq_true, decide_eq_true_eq] at this; exact this.1.1
  · simp only [decide_eq_true_eq] at this; exact this.2.1
theorem zcell_i {q : Nat → Nat} {cI cB cL : ClassId} {μ : zM} {k : Nat} (h : zT k = 0) : zcell q cI cB cL μ k = .inl (cI, (zN k).toNat, .inl (fun i => Int32.ofInt (μ k i))) := by unfold zcell; rw [if_pos h]
theorem zcell_b {q : Nat → Nat} {cI cB cL : ClassId} {μ : zM} {k : Nat} (h : zT k = 1) : zcell q cI cB cL μ k = .inl (cB, (zN k).toNat, .inl (fun i => Int32.ofInt (μ k i))) := by unfold zcell; rw [if_neg (by omega), if_pos h]
theorem zcell_l {q : Nat → Nat} {cI cB cL : ClassId} {μ : zM} {k : Nat} (h : zT k = 2) : zcell q cI cB cL μ k = .inl (cL, (zN k).toNat, .inr (.inl (fun i => Int64.ofInt (μ k i)))) := by unfold zcell; rw [if_neg (by omega), if_neg (by omega), if_pos h]
theorem zcell_o {q : Nat → Nat} {cI cB cL : ClassId} {μ : zM} {k : Nat} (h : zT k = 3) : zcell q cI cB cL μ k = .inr ((zN k).toNat, (zS k).2.2.zipIdx.map (zfl q μ k)) := by unfold zcell; rw [if_neg (by omega), if_neg (by omega), if_neg (by omega)]
theorem zu_at (μ : zM) (a i v : Int) : zu μ a i v a i = v := by simp [zu]
theorem zu_ne {μ : zM} {a i v b j : Int} (h : ¬ (b = a ∧ j = i)) : zu μ a i v b j = μ b j := by simp [zu, h]
theorem zu_rng {μ : zM} {a i v : Int} (h : zrng μ) (h2 : zT a = 2 → zi64 v) (h3 : ¬ zT a = 2 → zi32 v) : zrng (zu μ a i v) := by
  intro b j
  by_cases e : b = a ∧ j = i
  · obtain ⟨rfl, rfl⟩ := e
    rw [zu_at]; exact ⟨h2, h3⟩
  · rw [zu_ne e]; exact h b j
theorem zu_scr {L : Nat} {xs : Nat → Int32} {μ : zM} {k : Nat} {i v : Int} (hk : k < 58) (h : zscr L xs μ) : zscr L xs (zu μ k i v) := by
  refine ⟨?_, fun j h1 h2 => ?_⟩
  · rw [zu_ne (by omega)]; exact h.1
  · rw [zu_ne (by omega)]; exact h.2 j h1 h2
theorem zcp_rng {μ : zM} {a b sp dp n : Int} (hab : zT a = zT b) (h : zrng μ) : zrng (zcp μ a b sp dp n) := by
  intro c i
  unfold zcp
  split
  · rename_i e
    rw [e.1, ← hab]
    exact h a _
  · exact h c i
theorem zcp_scr {L : Nat} {xs : Nat → Int32} {μ : zM} {a : Int} {k : Nat} {sp dp n : Int} (hk : k < 58) (h : zscr L xs μ) : zscr L xs (zcp μ a k sp dp n) := by
  refine ⟨?_, fun j h1 h2 => ?_⟩
  · unfold zcp; rw [if_neg (by omega)]; exact h.1
  · unfold zcp; rw [if_neg (by omega)]; exact h.2 j h1 h2
/-! locals -/
def zasc (q : Nat → Nat) (lv : List zV) : List (Nat × Value) := (lv.zipIdx.filter (fun x => decide (x.1.1 ≤ 2))).map (fun x => (x.2, ztr q x.1))
theorem zasc_mem {q : Nat → Nat} {lv : List zV} {i : Nat} {w : Value} : (i, w) ∈ zasc q lv ↔ ∃ v, lv[i]? = some v ∧ v.1 ≤ 2 ∧ w = ztr q v := by
  unfold zasc
  simp only [List.mem_map, List.mem_filter, decide_eq_true_eq, Prod.exists, Prod.mk.injEq]
  constructor
  · rintro ⟨t, x, j, ⟨h1, h2⟩, rfl, rfl⟩
    exact ⟨t, x, by simpa [List.mem_zipIdx_iff_getElem?] using h1, h2, rfl⟩
  · rintro ⟨t, x, h1, h2, rfl⟩
    exact ⟨t, x, i, ⟨by simpa [List.mem_zipIdx_iff_getElem?] using h1, h2⟩, rfl, rfl⟩
def zlv (q : Nat → Nat) (ls : Array Slot) (n : Nat) (lv : List zV) : Prop := lv.length = n ∧ lv_has ls n (zasc q lv) ∧ ∀ v ∈ lv, zok v
theorem zcat {q : Nat → Nat} {v : zV} : (ztr q v).category = 2 ↔ v.1 = 1 := by
  obtain ⟨t, x⟩ := v
  match t with
  | 0 => simp [ztr, Value.category]
  | 1 => simp [ztr, Value.category]
  | t + 2 => simp [ztr, Value.category]
theorem zcat1 {q : Nat → Nat} {v : zV} (h : v.1 = 0 ∨ v.1 = 2) : (ztr q v).category = 1 := by
  rcases lv_cat (ztr q v) with h1 | h1
  · exact h1
  · rw [zcat] at h1; omega
theorem zgetD {lv : List zV} {n : Nat} (h : (lv.getD n (9, 0)).1 ≤ 2) : lv[n]? = some (lv.getD n (9, 0)) := by
  cases e : lv[n]? with
  | none => simp [List.getD_eq_getElem?_getD, e] at h
  | some v => simp [List.getD_eq_getElem?_getD, e]
theorem zlv_ld {q : Nat → Nat} {ls : Array Slot} {n : Nat} {lv : List zV} {i : Nat} (h : zlv q ls n lv) (ht : (lv.getD i (9, 0)).1 ≤ 2) : ls[i]? = some (.val (ztr q (lv.getD i (9, 0)))) ∧ zok (lv.getD i (9, 0)) := by
  have hg := zgetD ht
  exact ⟨h.2.1.2.2 _ (zasc_mem.mpr ⟨_, hg, ht, rfl⟩), h.2.2 _ (List.mem_of_getElem? hg)⟩
theorem zlv_set {q : Nat → Nat} {ls : Array Slot} {n : Nat} {lv : List zV} {i : Nat} {v : zV} (h : lv.length = n) (hk : ∀ v ∈ lv, zok v) (hp : (lv.getD (i - 1) (9, 0)).1 ≠ 1) (hv : zok v)
    (h2 : lv_has ls n ((i, ztr q v) :: (zasc q lv).filter (fun q => !(q.1 == i) && !(q.1 + 1 == i && q.2.category == 2)))) : zlv q ls n (lv.set i v) := by
  refine ⟨by simp [h], ⟨h2.1, h2.2.1, fun x hx => ?_⟩, fun w hw => ?_⟩
  · obtain ⟨j, w⟩ := x
    obtain ⟨v', h3, h4, rfl⟩ := zasc_mem.mp hx
    apply h2.2.2
    by_cases e : j = i
    · subst e
      have hl : j < lv.length := by
        have := (List.getElem?_eq_some_iff.mp h3).1
        simpa using this
      rw [List.getElem?_set_self hl] at h3
      cases h3
      exact List.mem_cons_self
    · rw [List.getElem?_set_ne (Ne.symm e)] at h3
      refine List.mem_cons_of_mem _ (List.mem_filter.mpr ⟨zasc_mem.mpr ⟨v', h3, h4, rfl⟩, ?_⟩)
      have e1 : (j == i) = false := by simpa using e
      have e2 : (j + 1 == i && (ztr q v').category == 2) = false := by
        by_cases e3 : j + 1 = i
        · have e4 : ¬ v'.1 = 1 := by
            intro e5
            apply hp
            have : i - 1 = j := by omega
            rw [this, List.getD_eq_getElem?_getD, h3]
            exact e5
          have e6 : ¬ (ztr q v').category = 2 := fun e7 => e4 (zcat.mp e7)
          simp [e6]
        · simp [e3]
      simp [e1, e2]
  · rcases List.mem_or_eq_of_mem_set hw with h3 | h3
    · exact hk w h3
    · rw [h3]; exact hv
theorem zlv_set2 {q : Nat → Nat} {ls : Array Slot} {n : Nat} {lv : List zV} {i : Nat} {v : zV} (h : lv.length = n) (hk : ∀ v ∈ lv, zok v) (hp : (lv.getD (i - 1) (9, 0)).1 ≠ 1) (hv : zok v)
    (h2 : lv_has ls n ((i, ztr q v) :: (zasc q lv).filter (fun q => !(q.1 == i) && (!(q.1 == i + 1) && !(q.1 + 1 == i && q.2.category == 2))))) : zlv q ls n ((lv.set i v).set (i + 1) (9, 0)) := by
  refine ⟨by simp [h], ⟨h2.1, h2.2.1, fun x hx => ?_⟩, fun w hw => ?_⟩
  · obtain ⟨j, w⟩ := x
    obtain ⟨v', h3, h4, rfl⟩ := zasc_mem.mp hx
    apply h2.2.2
    by_cases e0 : j = i + 1
    · subst e0
      have hl : i + 1 < (lv.set i v).length := by
        have := (List.getElem?_eq_some_iff.mp h3).1
        simpa using this
      rw [List.getElem?_set_self hl] at h3
      cases h3
      exact absurd h4 (by decide)
    · rw [List.getElem?_set_ne (Ne.symm e0)] at h3
      by_cases e : j = i
      · subst e
        have hl : j < lv.length := by
          have := (List.getElem?_eq_some_iff.mp h3).1
          simpa using this
        rw [List.getElem?_set_self hl] at h3
        cases h3
        exact List.mem_cons_self
      · rw [List.getElem?_set_ne (Ne.symm e)] at h3
        refine List.mem_cons_of_mem _ (List.mem_filter.mpr ⟨zasc_mem.mpr ⟨v', h3, h4, rfl⟩, ?_⟩)
        have e1 : (j == i) = false := by simpa using e
        have e0' : (j == i + 1) = false := by simpa using e0
        have e2 : (j + 1 == i && (ztr q v').category == 2) = false := by
          by_cases e3 : j + 1 = i
          · have e4 : ¬ v'.1 = 1 := by
              intro e5
              apply hp
              have : i - 1 = j := by omega
              rw [this, List.getD_eq_getElem?_getD, h3]
              exact e5
            have e6 : ¬ (ztr q v').category = 2 := fun e7 => e4 (zcat.mp e7)
            simp [e6]
          · simp [e3]
        simp [e1, e2, e0']
  · rcases List.mem_or_eq_of_mem_set hw with h3 | h3
    · rcases List.mem_or_eq_of_mem_set h3 with h4 | h4
      · exact hk w h4
      · rw [h4]; exact hv
    · rw [h3]; exact ⟨fun q => (by cases q), fun q => (by cases q)⟩
