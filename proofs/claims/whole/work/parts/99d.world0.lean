/-! the first memory -/
def zmu0 (L : Nat) (xs : Nat → Int32) : zM := fun a i => if a = 98 then (if i = 0 then (L : Int) else 0) else if a = 99 then (if 0 ≤ i ∧ i < (L : Int) then (xs i.toNat).toInt else 0) else if a = 35 then (if 0 ≤ i ∧ i < 4 then -11 else 0) else if a = 57 then (if 0 ≤ i ∧ i < 4 then -1 else 0) else if (a = 1 ∨ a = 8 ∨ a = 40) ∧ i = 1 then 2 else if (a = 15 ∨ a = 17) ∧ i = 0 then 1 else 0
theorem zmu0_scr {L : Nat} {xs : Nat → Int32} : zscr L xs (zmu0 L xs) := by
  refine ⟨by simp [zmu0], fun j h0 h1 => ?_⟩
  unfold zmu0
  rw [if_neg (by omega), if_pos rfl, if_pos ⟨h0, h1⟩]
theorem zmu0_z {L : Nat} {xs : Nat → Int32} {a i : Int} (h : ¬ a = 98 ∧ ¬ a = 99 ∧ ¬ a = 35 ∧ ¬ a = 57 ∧ ¬ ((a = 1 ∨ a = 8 ∨ a = 40) ∧ i = 1) ∧ ¬ ((a = 15 ∨ a = 17) ∧ i = 0)) : zmu0 L xs a i = 0 := by
  unfold zmu0
  rw [if_neg h.1, if_neg h.2.1, if_neg h.2.2.1, if_neg h.2.2.2.1, if_neg h.2.2.2.2.1, if_neg h.2.2.2.2.2]
theorem zmu0_bd {L : Nat} {xs : Nat → Int32} (hL : L ≤ 3072) (a i : Int) : -2147483648 ≤ zmu0 L xs a i ∧ zmu0 L xs a i < 2147483648 := by
  have h1 : ∀ k, -2147483648 ≤ (xs k).toInt ∧ (xs k).toInt < 2147483648 := fun k => by
    have a := Int32.le_toInt (xs k)
    have b := Int32.toInt_lt (xs k)
    exact ⟨by simpa using a, by simpa using b⟩
  unfold zmu0
  by_cases c1 : a = 98
  · rw [if_pos c1]; split <;> omega
  · rw [if_neg c1]
    by_cases c2 : a = 99
    · rw [if_pos c2]; split
      · exact h1 _
      · omega
    · rw [if_neg c2]
      split
      · split <;> omega
      · split
        · split <;> omega
        · split
          · omega
          · split <;> omega
theorem zmu0_rng {L : Nat} {xs : Nat → Int32} (hL : L ≤ 3072) : zrng (zmu0 L xs) := fun a i => by
  have h := zmu0_bd (xs := xs) hL a i
  exact ⟨fun _ => by unfold zi64; omega, fun _ => by unfold zi32; omega⟩
theorem zmu0_A {L : Nat} {xs : Nat → Int32} {c hi len off : Int} (hc : 2 ≤ c ∧ c ≤ 7) (hh : 0 ≤ hi) (ho : 3 ≤ off) : rA c 40 0 hi len off (zmu0 L xs) := fun i h0 h1 => by
  rw [zmu0_z (a := c) (by omega), zmu0_z (a := 40) (by omega)]
  omega
theorem zmu0_Rel {L : Nat} {xs : Nat → Int32} : Rel (zmu0 L xs) := by
  have z : ∀ a i : Int, (¬ a = 98 ∧ ¬ a = 99 ∧ ¬ a = 35 ∧ ¬ a = 57 ∧ ¬ ((a = 1 ∨ a = 8 ∨ a = 40) ∧ i = 1) ∧ ¬ ((a = 15 ∨ a = 17) ∧ i = 0)) → zmu0 L xs a i = 0 := fun a i h => zmu0_z h
  have e1 : zmu0 L xs 1 1 = 2 := by simp [zmu0]
  have e40 : zmu0 L xs 40 1 = 2 := by simp [zmu0]
  refine ⟨rH_1.mpr ⟨?_, ?_, ?_, zmu0_A (by omega) (by omega) (by omega), zmu0_A (by omega) (by omega) (by omega), zmu0_A (by omega) (by omega) (by omega), zmu0_A (by omega) (by omega) (by omega), ?_, zmu0_A (by omega) (by omega) (by omega), zmu0_A (by omega) (by omega) (by omega)⟩, ?_, ?_, ?_, ?_, rC_no (z _ _ (by omega)) (z _ _ (by omega))⟩
  · rw [z 1 0 (by omega), z 40 0 (by omega)]; omega
  · rw [e1, e40]; omega
  · rw [z 1 2 (by omega), z 40 2 (by omega)]; omega
  · rw [z 1 9 (by omega), z 40 178 (by omega)]; omega
  · refine ⟨Or.inl (z _ _ (by omega)), by rw [z _ _ (by omega), z _ _ (by omega)], fun h => ?_⟩
    rw [z _ _ (by omega)] at h
    omega
  · have e := z 29 1 (by omega)
    refine ⟨by omega, by rw [e]; exact z _ _ (by omega), fun i h0 h1 => by omega⟩
  · have e := z 0 11 (by omega)
    refine ⟨by omega, by rw [e]; exact z _ _ (by omega), fun i h0 h1 => by omega⟩
  · intro l h0 h1
    refine Or.inl ⟨?_, ?_⟩
    · unfold zmu0
      rw [if_neg (by omega), if_neg (by omega), if_pos rfl, if_pos ⟨h0, by omega⟩]
    · unfold zmu0
      rw [if_neg (by omega), if_neg (by omega), if_neg (by omega), if_pos rfl, if_pos ⟨h0, by omega⟩]

theorem zc_arr {args : Array Value} {s : State} {ty : FieldType} (h : (Cond.arrayClass ty).before args s = true) : ∃ cA, ArrOfT s cA ty ∧ s.vm.findClass ("[" ++ ty.toString) = some cA := by
  obtain ⟨c, k, comp, h1, h2, h3⟩ := Cond.arrayClass_spec h
  exact ⟨c, fun n z => ⟨fun k h => (by cases h), k, h2, comp, h3⟩, h1⟩

def zq0 (b a0 a1 a2 a3 a4 a5 a6 a7 a8 a9 a10 a11 a12 a13 a14 a15 a16 a17 a18 a19 a20 a21 a22 a23 a24 a25 a26 a27 a28 a29 a30 a31 a32 a33 a34 a35 a36 a37 a38 a39 a40 a41 a42 a43 a44 a45 a46 a47 a48 a49 a50 a51 a52 a53 a54 a55 a56 a57 : Nat) : Nat → Nat := fun k => if k = 99 then b else [a0, a1, a2, a3, a4, a5, a6, a7, a8, a9, a10, a11, a12, a13, a14, a15, a16, a17, a18, a19, a20, a21, a22, a23, a24, a25, a26, a27, a28, a29, a30, a31, a32, a33, a34, a35, a36, a37, a38, a39, a40, a41, a42, a43, a44, a45, a46, a47, a48, a49, a50, a51, a52, a53, a54, a55, a56, a57].getD k 0
theorem zw0_0 {b a0 a1 a2 a3 a4 a5 a6 a7 a8 a9 a10 a11 a12 a13 a14 a15 a16 a17 a18 a19 a20 a21 a22 a23 a24 a25 a26 a27 a28 a29 a30 a31 a32 a33 a34 a35 a36 a37 a38 a39 a40 a41 a42 a43 a44 a45 a46 a47 a48 a49 a50 a51 a52 a53 a54 a55 a56 a57 : Nat} {cI cB cL : ClassId} {L : Nat} {xs : Nat → Int32} : zcell (zq0 b a0 a1 a2 a3 a4 a5 a6 a7 a8 a9 a10 a11 a12 a13 a14 a15 a16 a17 a18 a19 a20 a21 a22 a23 a24 a25 a26 a27 a28 a29 a30 a31 a32 a33 a34 a35 a36 a37 a38 a39 a40 a41 a42 a43 a44 a45 a46 a47 a48 a49 a50 a51 a52 a53 a54 a55 a56 a57) cI cB cL (zmu0 L xs) (0 : Nat) = (.inr (5, [.ref a1, .ref a8, .int 0, .ref a15, .ref a17, .ref a19, .ref a24, .int 0, .int 0, .ref a29, .ref a33, .int 0, .ref a34, .ref a35, .ref a36, .ref a37, .ref a38]) : va_E) := by
  unfold zcell
  rw [if_neg (by decide), if_neg (by decide), if_neg (by decide)]
  rfl
theorem zw0_1 {b a0 a1 a2 a3 a4 a5 a6 a7 a8 a9 a10 a11 a12 a13 a14 a15 a16 a17 a18 a19 a20 a21 a22 a23 a24 a25 a26 a27 a28 a29 a30 a31 a32 a33 a34 a35 a36 a37 a38 a39 a40 a41 a42 a43 a44 a45 a46 a47 a48 a49 a50 a51 a52 a53 a54 a55 a56 a57 : Nat} {cI cB cL : ClassId} {L : Nat} {xs : Nat → Int32} : zcell (zq0 b a0 a1 a2 a3 a4 a5 a6 a7 a8 a9 a10 a11 a12 a13 a14 a15 a16 a17 a18 a19 a20 a21 a22 a23 a24 a25 a26 a27 a28 a29 a30 a31 a32 a33 a34 a35 a36 a37 a38 a39 a40 a41 a42 a43 a44 a45 a46 a47 a48 a49 a50 a51 a52 a53 a54 a55 a56 a57) cI cB cL (zmu0 L xs) (1 : Nat) = (.inr (2, [.int 0, .int 2, .int 0, .ref a2, .ref a3, .ref a4, .ref a5, .ref a6, .ref a7, .int 0]) : va_E) := by
  unfold zcell
  rw [if_neg (by decide), if_neg (by decide), if_neg (by decide)]
  rfl
theorem zw0_2 {b a0 a1 a2 a3 a4 a5 a6 a7 a8 a9 a10 a11 a12 a13 a14 a15 a16 a17 a18 a19 a20 a21 a22 a23 a24 a25 a26 a27 a28 a29 a30 a31 a32 a33 a34 a35 a36 a37 a38 a39 a40 a41 a42 a43 a44 a45 a46 a47 a48 a49 a50 a51 a52 a53 a54 a55 a56 a57 : Nat} {cI cB cL : ClassId} {L : Nat} {xs : Nat → Int32} : zcell (zq0 b a0 a1 a2 a3 a4 a5 a6 a7 a8 a9 a10 a11 a12 a13 a14 a15 a16 a17 a18 a19 a20 a21 a22 a23 a24 a25 a26 a27 a28 a29 a30 a31 a32 a33 a34 a35 a36 a37 a38 a39 a40 a41 a42 a43 a44 a45 a46 a47 a48 a49 a50 a51 a52 a53 a54 a55 a56 a57) cI cB cL (zmu0 L xs) (2 : Nat) = (.inl (cI, 125, .inl (fun _ => 0)) : va_E) := by
  unfold zcell
  rw [if_pos (by decide)]
  refine congrArg Sum.inl (congrArg (Prod.mk cI) (congrArg (Prod.mk 125) (congrArg Sum.inl (funext fun j => ?_))))
  rw [zmu0_z (a := (2 : Nat)) (by omega)]
  rfl
theorem zw0_3 {b a0 a1 a2 a3 a4 a5 a6 a7 a8 a9 a10 a11 a12 a13 a14 a15 a16 a17 a18 a19 a20 a21 a22 a23 a24 a25 a26 a27 a28 a29 a30 a31 a32 a33 a34 a35 a36 a37 a38 a39 a40 a41 a42 a43 a44 a45 a46 a47 a48 a49 a50 a51 a52 a53 a54 a55 a56 a57 : Nat} {cI cB cL : ClassId} {L : Nat} {xs : Nat → Int32} : zcell (zq0 b a0 a1 a2 a3 a4 a5 a6 a7 a8 a9 a10 a11 a12 a13 a14 a15 a16 a17 a18 a19 a20 a21 a22 a23 a24 a25 a26 a27 a28 a29 a30 a31 a32 a33 a34 a35 a36 a37 a38 a39 a40 a41 a42 a43 a44 a45 a46 a47 a48 a49 a50 a51 a52 a53 a54 a55 a56 a57) cI cB cL (zmu0 L xs) (3 : Nat) = (.inl (cI, 20, .inl (fun _ => 0)) : va_E) := by
  unfold zcell
  rw [if_pos (by decide)]
  refine congrArg Sum.inl (congrArg (Prod.mk cI) (congrArg (Prod.mk 20) (congrArg Sum.inl (funext fun j => ?_))))
  rw [zmu0_z (a := (3 : Nat)) (by omega)]
  rfl
theorem zw0_4 {b a0 a1 a2 a3 a4 a5 a6 a7 a8 a9 a10 a11 a12 a13 a14 a15 a16 a17 a18 a19 a20 a21 a22 a23 a24 a25 a26 a27 a28 a29 a30 a31 a32 a33 a34 a35 a36 a37 a38 a39 a40 a41 a42 a43 a44 a45 a46 a47 a48 a49 a50 a51 a52 a53 a54 a55 a56 a57 : Nat} {cI cB cL : ClassId} {L : Nat} {xs : Nat → Int32} : zcell (zq0 b a0 a1 a2 a3 a4 a5 a6 a7 a8 a9 a10 a11 a12 a13 a14 a15 a16 a17 a18 a19 a20 a21 a22 a23 a24 a25 a26 a27 a28 a29 a30 a31 a32 a33 a34 a35 a36 a37 a38 a39 a40 a41 a42 a43 a44 a45 a46 a47 a48 a49 a50 a51 a52 a53 a54 a55 a56 a57) cI cB cL (zmu0 L xs) (4 : Nat) = (.inl (cI, 25, .inl (fun _ => 0)) : va_E) := by
  unfold zcell
  rw [if_pos (by decide)]
  refine congrArg Sum.inl (congrArg (Prod.mk cI) (congrArg (Prod.mk 25) (congrArg Sum.inl (funext fun j => ?_))))
  rw [zmu0_z (a := (4 : Nat)) (by omega)]
  rfl
theorem zw0_5 {b a0 a1 a2 a3 a4 a5 a6 a7 a8 a9 a10 a11 a12 a13 a14 a15 a16 a17 a18 a19 a20 a21 a22 a23 a24 a25 a26 a27 a28 a29 a30 a31 a32 a33 a34 a35 a36 a37 a38 a39 a40 a41 a42 a43 a44 a45 a46 a47 a48 a49 a50 a51 a52 a53 a54 a55 a56 a57 : Nat} {cI cB cL : ClassId} {L : Nat} {xs : Nat → Int32} : zcell (zq0 b a0 a1 a2 a3 a4 a5 a6 a7 a8 a9 a10 a11 a12 a13 a14 a15 a16 a17 a18 a19 a20 a21 a22 a23 a24 a25 a26 a27 a28 a29 a30 a31 a32 a33 a34 a35 a36 a37 a38 a39 a40 a41 a42 a43 a44 a45 a46 a47 a48 a49 a50 a51 a52 a53 a54 a55 a56 a57) cI cB cL (zmu0 L xs) (5 : Nat) = (.inl (cI, 5, .inl (fun _ => 0)) : va_E) := by
  unfold zcell
  rw [if_pos (by decide)]
  refine congrArg Sum.inl (congrArg (Prod.mk cI) (congrArg (Prod.mk 5) (congrArg Sum.inl (funext fun j => ?_))))
  rw [zmu0_z (a := (5 : Nat)) (by omega)]
  rfl
theorem zw0_6 {b a0 a1 a2 a3 a4 a5 a6 a7 a8 a9 a10 a11 a12 a13 a14 a15 a16 a17 a18 a19 a20 a21 a22 a23 a24 a25 a26 a27 a28 a29 a30 a31 a32 a33 a34 a35 a36 a37 a38 a39 a40 a41 a42 a43 a44 a45 a46 a47 a48 a49 a50 a51 a52 a53 a54 a55 a56 a57 : Nat} {cI cB cL : ClassId} {L : Nat} {xs : Nat → Int32} : zcell (zq0 b a0 a1 a2 a3 a4 a5 a6 a7 a8 a9 a10 a11 a12 a13 a14 a15 a16 a17 a18 a19 a20 a21 a22 a23 a24 a25 a26 a27 a28 a29 a30 a31 a32 a33 a34 a35 a36 a37 a38 a39 a40 a41 a42 a43 a44 a45 a46 a47 a48 a49 a50 a51 a52 a53 a54 a55 a56 a57) cI cB cL (zmu0 L xs) (6 : Nat) = (.inl (cI, 8, .inl (fun _ => 0)) : va_E) := by
  unfold zcell
  rw [if_pos (by decide)]
  refine congrArg Sum.inl (congrArg (Prod.mk cI) (congrArg (Prod.mk 8) (congrArg Sum.inl (funext fun j => ?_))))
  rw [zmu0_z (a := (6 : Nat)) (by omega)]
  rfl
theorem zw0_7 {b a0 a1 a2 a3 a4 a5 a6 a7 a8 a9 a10 a11 a12 a13 a14 a15 a16 a17 a18 a19 a20 a21 a22 a23 a24 a25 a26 a27 a28 a29 a30 a31 a32 a33 a34 a35 a36 a37 a38 a39 a40 a41 a42 a43 a44 a45 a46 a47 a48 a49 a50 a51 a52 a53 a54 a55 a56 a57 : Nat} {cI cB cL : ClassId} {L : Nat} {xs : Nat → Int32} : zcell (zq0 b a0 a1 a2 a3 a4 a5 a6 a7 a8 a9 a10 a11 a12 a13 a14 a15 a16 a17 a18 a19 a20 a21 a22 a23 a24 a25 a26 a27 a28 a29 a30 a31 a32 a33 a34 a35 a36 a37 a38 a39 a40 a41 a42 a43 a44 a45 a46 a47 a48 a49 a50 a51 a52 a53 a54 a55 a56 a57) cI cB cL (zmu0 L xs) (7 : Nat) = (.inl (cI, 8, .inl (fun _ => 0)) : va_E) := by
  unfold zcell
  rw [if_pos (by decide)]
  refine congrArg Sum.inl (congrArg (Prod.mk cI) (congrArg (Prod.mk 8) (congrArg Sum.inl (funext fun j => ?_))))
  rw [zmu0_z (a := (7 : Nat)) (by omega)]
  rfl
theorem zw0_8 {b a0 a1 a2 a3 a4 a5 a6 a7 a8 a9 a10 a11 a12 a13 a14 a15 a16 a17 a18 a19 a20 a21 a22 a23 a24 a25 a26 a27 a28 a29 a30 a31 a32 a33 a34 a35 a36 a37 a38 a39 a40 a41 a42 a43 a44 a45 a46 a47 a48 a49 a50 a51 a52 a53 a54 a55 a56 a57 : Nat} {cI cB cL : ClassId} {L : Nat} {xs : Nat → Int32} : zcell (zq0 b a0 a1 a2 a3 a4 a5 a6 a7 a8 a9 a10 a11 a12 a13 a14 a15 a16 a17 a18 a19 a20 a21 a22 a23 a24 a25 a26 a27 a28 a29 a30 a31 a32 a33 a34 a35 a36 a37 a38 a39 a40 a41 a42 a43 a44 a45 a46 a47 a48 a49 a50 a51 a52 a53 a54 a55 a56 a57) cI cB cL (zmu0 L xs) (8 : Nat) = (.inr (2, [.int 0, .int 2, .int 0, .ref a9, .ref a10, .ref a11, .ref a12, .ref a13, .ref a14, .int 0]) : va_E) := by
  unfold zcell
  rw [if_neg (by decide), if_neg (by decide), if_neg (by decide)]
  rfl
theorem zw0_9 {b a0 a1 a2 a3 a4 a5 a6 a7 a8 a9 a10 a11 a12 a13 a14 a15 a16 a17 a18 a19 a20 a21 a22 a23 a24 a25 a26 a27 a28 a29 a30 a31 a32 a33 a34 a35 a36 a37 a38 a39 a40 a41 a42 a43 a44 a45 a46 a47 a48 a49 a50 a51 a52 a53 a54 a55 a56 a57 : Nat} {cI cB cL : ClassId} {L : Nat} {xs : Nat → Int32} : zcell (zq0 b a0 a1 a2 a3 a4 a5 a6 a7 a8 a9 a10 a11 a12 a13 a14 a15 a16 a17 a18 a19 a20 a21 a22 a23 a24 a25 a26 a27 a28 a29 a30 a31 a32 a33 a34 a35 a36 a37 a38 a39 a40 a41 a42 a43 a44 a45 a46 a47 a48 a49 a50 a51 a52 a53 a54 a55 a56 a57) cI cB cL (zmu0 L xs) (9 : Nat) = (.inl (cI, 125, .inl (fun _ => 0)) : va_E) := by
  unfold zcell
  rw [if_pos (by decide)]
  refine congrArg Sum.inl (congrArg (Prod.mk cI) (congrArg (Prod.mk 125) (congrArg Sum.inl (funext fun j => ?_))))
  rw [zmu0_z (a := (9 : Nat)) (by omega)]
  rfl
theorem zw0_10 {b a0 a1 a2 a3 a4 a5 a6 a7 a8 a9 a10 a11 a12 a13 a14 a15 a16 a17 a18 a19 a20 a21 a22 a23 a24 a25 a26 a27 a28 a29 a30 a31 a32 a33 a34 a35 a36 a37 a38 a39 a40 a41 a42 a43 a44 a45 a46 a47 a48 a49 a50 a51 a52 a53 a54 a55 a56 a57 : Nat} {cI cB cL : ClassId} {L : Nat} {xs : Nat → Int32} : zcell (zq0 b a0 a1 a2 a3 a4 a5 a6 a7 a8 a9 a10 a11 a12 a13 a14 a15 a16 a17 a18 a19 a20 a21 a22 a23 a24 a25 a26 a27 a28 a29 a30 a31 a32 a33 a34 a35 a36 a37 a38 a39 a40 a41 a42 a43 a44 a45 a46 a47 a48 a49 a50 a51 a52 a53 a54 a55 a56 a57) cI cB cL (zmu0 L xs) (10 : Nat) = (.inl (cI, 20, .inl (fun _ => 0)) : va_E) := by
  unfold zcell
  rw [if_pos (by decide)]
  refine congrArg Sum.inl (congrArg (Prod.mk cI) (congrArg (Prod.mk 20) (congrArg Sum.inl (funext fun j => ?_))))
  rw [zmu0_z (a := (10 : Nat)) (by omega)]
  rfl
theorem zw0_11 {b a0 a1 a2 a3 a4 a5 a6 a7 a8 a9 a10 a11 a12 a13 a14 a15 a16 a17 a18 a19 a20 a21 a22 a23 a24 a25 a26 a27 a28 a29 a30 a31 a32 a33 a34 a35 a36 a37 a38 a39 a40 a41 a42 a43 a44 a45 a46 a47 a48 a49 a50 a51 a52 a53 a54 a55 a56 a57 : Nat} {cI cB cL : ClassId} {L : Nat} {xs : Nat → Int32} : zcell (zq0 b a0 a1 a2 a3 a4 a5 a6 a7 a8 a9 a10 a11 a12 a13 a14 a15 a16 a17 a18 a19 a20 a21 a22 a23 a24 a25 a26 a27 a28 a29 a30 a31 a32 a33 a34 a35 a36 a37 a38 a39 a40 a41 a42 a43 a44 a45 a46 a47 a48 a49 a50 a51 a52 a53 a54 a55 a56 a57) cI cB cL (zmu0 L xs) (11 : Nat) = (.inl (cI, 25, .inl (fun _ => 0)) : va_E) := by
  unfold zcell
  rw [if_pos (by decide)]
  refine congrArg Sum.inl (congrArg (Prod.mk cI) (congrArg (Prod.mk 25) (congrArg Sum.inl (funext fun j => ?_))))
  rw [zmu0_z (a := (11 : Nat)) (by omega)]
  rfl
theorem zw0_12 {b a0 a1 a2 a3 a4 a5 a6 a7 a8 a9 a10 a11 a12 a13 a14 a15 a16 a17 a18 a19 a20 a21 a22 a23 a24 a25 a26 a27 a28 a29 a30 a31 a32 a33 a34 a35 a36 a37 a38 a39 a40 a41 a42 a43 a44 a45 a46 a47 a48 a49 a50 a51 a52 a53 a54 a55 a56 a57 : Nat} {cI cB cL : ClassId} {L : Nat} {xs : Nat → Int32} : zcell (zq0 b a0 a1 a2 a3 a4 a5 a6 a7 a8 a9 a10 a11 a12 a13 a14 a15 a16 a17 a18 a19 a20 a21 a22 a23 a24 a25 a26 a27 a28 a29 a30 a31 a32 a33 a34 a35 a36 a37 a38 a39 a40 a41 a42 a43 a44 a45 a46 a47 a48 a49 a50 a51 a52 a53 a54 a55 a56 a57) cI cB cL (zmu0 L xs) (12 : Nat) = (.inl (cI, 5, .inl (fun _ => 0)) : va_E) := by
  unfold zcell
  rw [if_pos (by decide)]
  refine congrArg Sum.inl (congrArg (Prod.mk cI) (congrArg (Prod.mk 5) (congrArg Sum.inl (funext fun j => ?_))))
  rw [zmu0_z (a := (12 : Nat)) (by omega)]
  rfl
theorem zw0_13 {b a0 a1 a2 a3 a4 a5 a6 a7 a8 a9 a10 a11 a12 a13 a14 a15 a16 a17 a18 a19 a20 a21 a22 a23 a24 a25 a26 a27 a28 a29 a30 a31 a32 a33 a34 a35 a36 a37 a38 a39 a40 a41 a42 a43 a44 a45 a46 a47 a48 a49 a50 a51 a52 a53 a54 a55 a56 a57 : Nat} {cI cB cL : ClassId} {L : Nat} {xs : Nat → Int32} : zcell (zq0 b a0 a1 a2 a3 a4 a5 a6 a7 a8 a9 a10 a11 a12 a13 a14 a15 a16 a17 a18 a19 a20 a21 a22 a23 a24 a25 a26 a27 a28 a29 a30 a31 a32 a33 a34 a35 a36 a37 a38 a39 a40 a41 a42 a43 a44 a45 a46 a47 a48 a49 a50 a51 a52 a53 a54 a55 a56 a57) cI cB cL (zmu0 L xs) (13 : Nat) = (.inl (cI, 8, .inl (fun _ => 0)) : va_E) := by
  unfold zcell
  rw [if_pos (by decide)]
  refine congrArg Sum.inl (congrArg (Prod.mk cI) (congrArg (Prod.mk 8) (congrArg Sum.inl (funext fun j => ?_))))
  rw [zmu0_z (a := (13 : Nat)) (by omega)]
  rfl
theorem zw0_14 {b a0 a1 a2 a3 a4 a5 a6 a7 a8 a9 a10 a11 a12 a13 a14 a15 a16 a17 a18 a19 a20 a21 a22 a23 a24 a25 a26 a27 a28 a29 a30 a31 a32 a33 a34 a35 a36 a37 a38 a39 a40 a41 a42 a43 a44 a45 a46 a47 a48 a49 a50 a51 a52 a53 a54 a55 a56 a57 : Nat} {cI cB cL : ClassId} {L : Nat} {xs : Nat → Int32} : zcell (zq0 b a0 a1 a2 a3 a4 a5 a6 a7 a8 a9 a10 a11 a12 a13 a14 a15 a16 a17 a18 a19 a20 a21 a22 a23 a24 a25 a26 a27 a28 a29 a30 a31 a32 a33 a34 a35 a36 a37 a38 a39 a40 a41 a42 a43 a44 a45 a46 a47 a48 a49 a50 a51 a52 a53 a54 a55 a56 a57) cI cB cL (zmu0 L xs) (14 : Nat) = (.inl (cI, 8, .inl (fun _ => 0)) : va_E) := by
  unfold zcell
  rw [if_pos (by decide)]
  refine congrArg Sum.inl (congrArg (Prod.mk cI) (congrArg (Prod.mk 8) (congrArg Sum.inl (funext fun j => ?_))))
  rw [zmu0_z (a := (14 : Nat)) (by omega)]
  rfl
theorem zw0_15 {b a0 a1 a2 a3 a4 a5 a6 a7 a8 a9 a10 a11 a12 a13 a14 a15 a16 a17 a18 a19 a20 a21 a22 a23 a24 a25 a26 a27 a28 a29 a30 a31 a32 a33 a34 a35 a36 a37 a38 a39 a40 a41 a42 a43 a44 a45 a46 a47 a48 a49 a50 a51 a52 a53 a54 a55 a56 a57 : Nat} {cI cB cL : ClassId} {L : Nat} {xs : Nat → Int32} : zcell (zq0 b a0 a1 a2 a3 a4 a5 a6 a7 a8 a9 a10 a11 a12 a13 a14 a15 a16 a17 a18 a19 a20 a21 a22 a23 a24 a25 a26 a27 a28 a29 a30 a31 a32 a33 a34 a35 a36 a37 a38 a39 a40 a41 a42 a43 a44 a45 a46 a47 a48 a49 a50 a51 a52 a53 a54 a55 a56 a57) cI cB cL (zmu0 L xs) (15 : Nat) = (.inr (1, [.int 1, .ref a16]) : va_E) := by
  unfold zcell
  rw [if_neg (by decide), if_neg (by decide), if_neg (by decide)]
  rfl
theorem zw0_16 {b a0 a1 a2 a3 a4 a5 a6 a7 a8 a9 a10 a11 a12 a13 a14 a15 a16 a17 a18 a19 a20 a21 a22 a23 a24 a25 a26 a27 a28 a29 a30 a31 a32 a33 a34 a35 a36 a37 a38 a39 a40 a41 a42 a43 a44 a45 a46 a47 a48 a49 a50 a51 a52 a53 a54 a55 a56 a57 : Nat} {cI cB cL : ClassId} {L : Nat} {xs : Nat → Int32} : zcell (zq0 b a0 a1 a2 a3 a4 a5 a6 a7 a8 a9 a10 a11 a12 a13 a14 a15 a16 a17 a18 a19 a20 a21 a22 a23 a24 a25 a26 a27 a28 a29 a30 a31 a32 a33 a34 a35 a36 a37 a38 a39 a40 a41 a42 a43 a44 a45 a46 a47 a48 a49 a50 a51 a52 a53 a54 a55 a56 a57) cI cB cL (zmu0 L xs) (16 : Nat) = (.inl (cI, 125, .inl (fun _ => 0)) : va_E) := by
  unfold zcell
  rw [if_pos (by decide)]
  refine congrArg Sum.inl (congrArg (Prod.mk cI) (congrArg (Prod.mk 125) (congrArg Sum.inl (funext fun j => ?_))))
  rw [zmu0_z (a := (16 : Nat)) (by omega)]
  rfl
theorem zw0_17 {b a0 a1 a2 a3 a4 a5 a6 a7 a8 a9 a10 a11 a12 a13 a14 a15 a16 a17 a18 a19 a20 a21 a22 a23 a24 a25 a26 a27 a28 a29 a30 a31 a32 a33 a34 a35 a36 a37 a38 a39 a40 a41 a42 a43 a44 a45 a46 a47 a48 a49 a50 a51 a52 a53 a54 a55 a56 a57 : Nat} {cI cB cL : ClassId} {L : Nat} {xs : Nat → Int32} : zcell (zq0 b a0 a1 a2 a3 a4 a5 a6 a7 a8 a9 a10 a11 a12 a13 a14 a15 a16 a17 a18 a19 a20 a21 a22 a23 a24 a25 a26 a27 a28 a29 a30 a31 a32 a33 a34 a35 a36 a37 a38 a39 a40 a41 a42 a43 a44 a45 a46 a47 a48 a49 a50 a51 a52 a53 a54 a55 a56 a57) cI cB cL (zmu0 L xs) (17 : Nat) = (.inr (1, [.int 1, .ref a18]) : va_E) := by
  unfold zcell
  rw [if_neg (by decide), if_neg (by decide), if_neg (by decide)]
  rfl
theorem zw0_18 {b a0 a1 a2 a3 a4 a5 a6 a7 a8 a9 a10 a11 a12 a13 a14 a15 a16 a17 a18 a19 a20 a21 a22 a23 a24 a25 a26 a27 a28 a29 a30 a31 a32 a33 a34 a35 a36 a37 a38 a39 a40 a41 a42 a43 a44 a45 a46 a47 a48 a49 a50 a51 a52 a53 a54 a55 a56 a57 : Nat} {cI cB cL : ClassId} {L : Nat} {xs : Nat → Int32} : zcell (zq0 b a0 a1 a2 a3 a4 a5 a6 a7 a8 a9 a10 a11 a12 a13 a14 a15 a16 a17 a18 a19 a20 a21 a22 a23 a24 a25 a26 a27 a28 a29 a30 a31 a32 a33 a34 a35 a36 a37 a38 a39 a40 a41 a42 a43 a44 a45 a46 a47 a48 a49 a50 a51 a52 a53 a54 a55 a56 a57) cI cB cL (zmu0 L xs) (18 : Nat) = (.inl (cI, 125, .inl (fun _ => 0)) : va_E) := by
  unfold zcell
  rw [if_pos (by decide)]
  refine congrArg Sum.inl (congrArg (Prod.mk cI) (congrArg (Prod.mk 125) (congrArg Sum.inl (funext fun j => ?_))))
  rw [zmu0_z (a := (18 : Nat)) (by omega)]
  rfl
theorem zw0_19 {b a0 a1 a2 a3 a4 a5 a6 a7 a8 a9 a10 a11 a12 a13 a14 a15 a16 a17 a18 a19 a20 a21 a22 a23 a24 a25 a26 a27 a28 a29 a30 a31 a32 a33 a34 a35 a36 a37 a38 a39 a40 a41 a42 a43 a44 a45 a46 a47 a48 a49 a50 a51 a52 a53 a54 a55 a56 a57 : Nat} {cI cB cL : ClassId} {L : Nat} {xs : Nat → Int32} : zcell (zq0 b a0 a1 a2 a3 a4 a5 a6 a7 a8 a9 a10 a11 a12 a13 a14 a15 a16 a17 a18 a19 a20 a21 a22 a23 a24 a25 a26 a27 a28 a29 a30 a31 a32 a33 a34 a35 a36 a37 a38 a39 a40 a41 a42 a43 a44 a45 a46 a47 a48 a49 a50 a51 a52 a53 a54 a55 a56 a57) cI cB cL (zmu0 L xs) (19 : Nat) = (.inr (0, [.int 0, .ref a20, .ref a21, .ref a22, .ref a23]) : va_E) := by
  unfold zcell
  rw [if_neg (by decide), if_neg (by decide), if_neg (by decide)]
  rfl
theorem zw0_20 {b a0 a1 a2 a3 a4 a5 a6 a7 a8 a9 a10 a11 a12 a13 a14 a15 a16 a17 a18 a19 a20 a21 a22 a23 a24 a25 a26 a27 a28 a29 a30 a31 a32 a33 a34 a35 a36 a37 a38 a39 a40 a41 a42 a43 a44 a45 a46 a47 a48 a49 a50 a51 a52 a53 a54 a55 a56 a57 : Nat} {cI cB cL : ClassId} {L : Nat} {xs : Nat → Int32} : zcell (zq0 b a0 a1 a2 a3 a4 a5 a6 a7 a8 a9 a10 a11 a12 a13 a14 a15 a16 a17 a18 a19 a20 a21 a22 a23 a24 a25 a26 a27 a28 a29 a30 a31 a32 a33 a34 a35 a36 a37 a38 a39 a40 a41 a42 a43 a44 a45 a46 a47 a48 a49 a50 a51 a52 a53 a54 a55 a56 a57) cI cB cL (zmu0 L xs) (20 : Nat) = (.inl (cI, 25, .inl (fun _ => 0)) : va_E) := by
  unfold zcell
  rw [if_pos (by decide)]
  refine congrArg Sum.inl (congrArg (Prod.mk cI) (congrArg (Prod.mk 25) (congrArg Sum.inl (funext fun j => ?_))))
  rw [zmu0_z (a := (20 : Nat)) (by omega)]
  rfl
theorem zw0_21 {b a0 a1 a2 a3 a4 a5 a6 a7 a8 a9 a10 a11 a12 a13 a14 a15 a16 a17 a18 a19 a20 a21 a22 a23 a24 a25 a26 a27 a28 a29 a30 a31 a32 a33 a34 a35 a36 a37 a38 a39 a40 a41 a42 a43 a44 a45 a46 a47 a48 a49 a50 a51 a52 a53 a54 a55 a56 a57 : Nat} {cI cB cL : ClassId} {L : Nat} {xs : Nat → Int32} : zcell (zq0 b a0 a1 a2 a3 a4 a5 a6 a7 a8 a9 a10 a11 a12 a13 a14 a15 a16 a17 a18 a19 a20 a21 a22 a23 a24 a25 a26 a27 a28 a29 a30 a31 a32 a33 a34 a35 a36 a37 a38 a39 a40 a41 a42 a43 a44 a45 a46 a47 a48 a49 a50 a51 a52 a53 a54 a55 a56 a57) cI cB cL (zmu0 L xs) (21 : Nat) = (.inl (cI, 5, .inl (fun _ => 0)) : va_E) := by
  unfold zcell
  rw [if_pos (by decide)]
  refine congrArg Sum.inl (congrArg (Prod.mk cI) (congrArg (Prod.mk 5) (congrArg Sum.inl (funext fun j => ?_))))
  rw [zmu0_z (a := (21 : Nat)) (by omega)]
  rfl
theorem zw0_22 {b a0 a1 a2 a3 a4 a5 a6 a7 a8 a9 a10 a11 a12 a13 a14 a15 a16 a17 a18 a19 a20 a21 a22 a23 a24 a25 a26 a27 a28 a29 a30 a31 a32 a33 a34 a35 a36 a37 a38 a39 a40 a41 a42 a43 a44 a45 a46 a47 a48 a49 a50 a51 a52 a53 a54 a55 a56 a57 : Nat} {cI cB cL : ClassId} {L : Nat} {xs : Nat → Int32} : zcell (zq0 b a0 a1 a2 a3 a4 a5 a6 a7 a8 a9 a10 a11 a12 a13 a14 a15 a16 a17 a18 a19 a20 a21 a22 a23 a24 a25 a26 a27 a28 a29 a30 a31 a32 a33 a34 a35 a36 a37 a38 a39 a40 a41 a42 a43 a44 a45 a46 a47 a48 a49 a50 a51 a52 a53 a54 a55 a56 a57) cI cB cL (zmu0 L xs) (22 : Nat) = (.inl (cI, 5, .inl (fun _ => 0)) : va_E) := by
  unfold zcell
  rw [if_pos (by decide)]
  refine congrArg Sum.inl (congrArg (Prod.mk cI) (congrArg (Prod.mk 5) (congrArg Sum.inl (funext fun j => ?_))))
  rw [zmu0_z (a := (22 : Nat)) (by omega)]
  rfl
theorem zw0_23 {b a0 a1 a2 a3 a4 a5 a6 a7 a8 a9 a10 a11 a12 a13 a14 a15 a16 a17 a18 a19 a20 a21 a22 a23 a24 a25 a26 a27 a28 a29 a30 a31 a32 a33 a34 a35 a36 a37 a38 a39 a40 a41 a42 a43 a44 a45 a46 a47 a48 a49 a50 a51 a52 a53 a54 a55 a56 a57 : Nat} {cI cB cL : ClassId} {L : Nat} {xs : Nat → Int32} : zcell (zq0 b a0 a1 a2 a3 a4 a5 a6 a7 a8 a9 a10 a11 a12 a13 a14 a15 a16 a17 a18 a19 a20 a21 a22 a23 a24 a25 a26 a27 a28 a29 a30 a31 a32 a33 a34 a35 a36 a37 a38 a39 a40 a41 a42 a43 a44 a45 a46 a47 a48 a49 a50 a51 a52 a53 a54 a55 a56 a57) cI cB cL (zmu0 L xs) (23 : Nat) = (.inl (cI, 125, .inl (fun _ => 0)) : va_E) := by
  unfold zcell
  rw [if_pos (by decide)]
  refine congrArg Sum.inl (congrArg (Prod.mk cI) (congrArg (Prod.mk 125) (congrArg Sum.inl (funext fun j => ?_))))
  rw [zmu0_z (a := (23 : Nat)) (by omega)]
  rfl
theorem zw0_24 {b a0 a1 a2 a3 a4 a5 a6 a7 a8 a9 a10 a11 a12 a13 a14 a15 a16 a17 a18 a19 a20 a21 a22 a23 a24 a25 a26 a27 a28 a29 a30 a31 a32 a33 a34 a35 a36 a37 a38 a39 a40 a41 a42 a43 a44 a45 a46 a47 a48 a49 a50 a51 a52 a53 a54 a55 a56 a57 : Nat} {cI cB cL : ClassId} {L : Nat} {xs : Nat → Int32} : zcell (zq0 b a0 a1 a2 a3 a4 a5 a6 a7 a8 a9 a10 a11 a12 a13 a14 a15 a16 a17 a18 a19 a20 a21 a22 a23 a24 a25 a26 a27 a28 a29 a30 a31 a32 a33 a34 a35 a36 a37 a38 a39 a40 a41 a42 a43 a44 a45 a46 a47 a48 a49 a50 a51 a52 a53 a54 a55 a56 a57) cI cB cL (zmu0 L xs) (24 : Nat) = (.inr (4, [.ref a25, .ref a26, .ref a27, .ref a28]) : va_E) := by
  unfold zcell
  rw [if_neg (by decide), if_neg (by decide), if_neg (by decide)]
  rfl
theorem zw0_25 {b a0 a1 a2 a3 a4 a5 a6 a7 a8 a9 a10 a11 a12 a13 a14 a15 a16 a17 a18 a19 a20 a21 a22 a23 a24 a25 a26 a27 a28 a29 a30 a31 a32 a33 a34 a35 a36 a37 a38 a39 a40 a41 a42 a43 a44 a45 a46 a47 a48 a49 a50 a51 a52 a53 a54 a55 a56 a57 : Nat} {cI cB cL : ClassId} {L : Nat} {xs : Nat → Int32} : zcell (zq0 b a0 a1 a2 a3 a4 a5 a6 a7 a8 a9 a10 a11 a12 a13 a14 a15 a16 a17 a18 a19 a20 a21 a22 a23 a24 a25 a26 a27 a28 a29 a30 a31 a32 a33 a34 a35 a36 a37 a38 a39 a40 a41 a42 a43 a44 a45 a46 a47 a48 a49 a50 a51 a52 a53 a54 a55 a56 a57) cI cB cL (zmu0 L xs) (25 : Nat) = (.inl (cI, 25, .inl (fun _ => 0)) : va_E) := by
  unfold zcell
  rw [if_pos (by decide)]
  refine congrArg Sum.inl (congrArg (Prod.mk cI) (congrArg (Prod.mk 25) (congrArg Sum.inl (funext fun j => ?_))))
  rw [zmu0_z (a := (25 : Nat)) (by omega)]
  rfl
theorem zw0_26 {b a0 a1 a2 a3 a4 a5 a6 a7 a8 a9 a10 a11 a12 a13 a14 a15 a16 a17 a18 a19 a20 a21 a22 a23 a24 a25 a26 a27 a28 a29 a30 a31 a32 a33 a34 a35 a36 a37 a38 a39 a40 a41 a42 a43 a44 a45 a46 a47 a48 a49 a50 a51 a52 a53 a54 a55 a56 a57 : Nat} {cI cB cL : ClassId} {L : Nat} {xs : Nat → Int32} : zcell (zq0 b a0 a1 a2 a3 a4 a5 a6 a7 a8 a9 a10 a11 a12 a13 a14 a15 a16 a17 a18 a19 a20 a21 a22 a23 a24 a25 a26 a27 a28 a29 a30 a31 a32 a33 a34 a35 a36 a37 a38 a39 a40 a41 a42 a43 a44 a45 a46 a47 a48 a49 a50 a51 a52 a53 a54 a55 a56 a57) cI cB cL (zmu0 L xs) (26 : Nat) = (.inl (cI, 25, .inl (fun _ => 0)) : va_E) := by
  unfold zcell
  rw [if_pos (by decide)]
  refine congrArg Sum.inl (congrArg (Prod.mk cI) (congrArg (Prod.mk 25) (congrArg Sum.inl (funext fun j => ?_))))
  rw [zmu0_z (a := (26 : Nat)) (by omega)]
  rfl
theorem zw0_27 {b a0 a1 a2 a3 a4 a5 a6 a7 a8 a9 a10 a11 a12 a13 a14 a15 a16 a17 a18 a19 a20 a21 a22 a23 a24 a25 a26 a27 a28 a29 a30 a31 a32 a33 a34 a35 a36 a37 a38 a39 a40 a41 a42 a43 a44 a45 a46 a47 a48 a49 a50 a51 a52 a53 a54 a55 a56 a57 : Nat} {cI cB cL : ClassId} {L : Nat} {xs : Nat → Int32} : zcell (zq0 b a0 a1 a2 a3 a4 a5 a6 a7 a8 a9 a10 a11 a12 a13 a14 a15 a16 a17 a18 a19 a20 a21 a22 a23 a24 a25 a26 a27 a28 a29 a30 a31 a32 a33 a34 a35 a36 a37 a38 a39 a40 a41 a42 a43 a44 a45 a46 a47 a48 a49 a50 a51 a52 a53 a54 a55 a56 a57) cI cB cL (zmu0 L xs) (27 : Nat) = (.inl (cI, 25, .inl (fun _ => 0)) : va_E) := by
  unfold zcell
  rw [if_pos (by decide)]
  refine congrArg Sum.inl (congrArg (Prod.mk cI) (congrArg (Prod.mk 25) (congrArg Sum.inl (funext fun j => ?_))))
  rw [zmu0_z (a := (27 : Nat)) (by omega)]
  rfl
theorem zw0_28 {b a0 a1 a2 a3 a4 a5 a6 a7 a8 a9 a10 a11 a12 a13 a14 a15 a16 a17 a18 a19 a20 a21 a22 a23 a24 a25 a26 a27 a28 a29 a30 a31 a32 a33 a34 a35 a36 a37 a38 a39 a40 a41 a42 a43 a44 a45 a46 a47 a48 a49 a50 a51 a52 a53 a54 a55 a56 a57 : Nat} {cI cB cL : ClassId} {L : Nat} {xs : Nat → Int32} : zcell (zq0 b a0 a1 a2 a3 a4 a5 a6 a7 a8 a9 a10 a11 a12 a13 a14 a15 a16 a17 a18 a19 a20 a21 a22 a23 a24 a25 a26 a27 a28 a29 a30 a31 a32 a33 a34 a35 a36 a37 a38 a39 a40 a41 a42 a43 a44 a45 a46 a47 a48 a49 a50 a51 a52 a53 a54 a55 a56 a57) cI cB cL (zmu0 L xs) (28 : Nat) = (.inl (cI, 25, .inl (fun _ => 0)) : va_E) := by
  unfold zcell
  rw [if_pos (by decide)]
  refine congrArg Sum.inl (congrArg (Prod.mk cI) (congrArg (Prod.mk 25) (congrArg Sum.inl (funext fun j => ?_))))
  rw [zmu0_z (a := (28 : Nat)) (by omega)]
  rfl
theorem zw0_29 {b a0 a1 a2 a3 a4 a5 a6 a7 a8 a9 a10 a11 a12 a13 a14 a15 a16 a17 a18 a19 a20 a21 a22 a23 a24 a25 a26 a27 a28 a29 a30 a31 a32 a33 a34 a35 a36 a37 a38 a39 a40 a41 a42 a43 a44 a45 a46 a47 a48 a49 a50 a51 a52 a53 a54 a55 a56 a57 : Nat} {cI cB cL : ClassId} {L : Nat} {xs : Nat → Int32} : zcell (zq0 b a0 a1 a2 a3 a4 a5 a6 a7 a8 a9 a10 a11 a12 a13 a14 a15 a16 a17 a18 a19 a20 a21 a22 a23 a24 a25 a26 a27 a28 a29 a30 a31 a32 a33 a34 a35 a36 a37 a38 a39 a40 a41 a42 a43 a44 a45 a46 a47 a48 a49 a50 a51 a52 a53 a54 a55 a56 a57) cI cB cL (zmu0 L xs) (29 : Nat) = (.inr (3, [.ref a30, .int 0, .ref a31, .int 0, .int 0, .ref a32]) : va_E) := by
  unfold zcell
  rw [if_neg (by decide), if_neg (by decide), if_neg (by decide)]
  rfl
theorem zw0_30 {b a0 a1 a2 a3 a4 a5 a6 a7 a8 a9 a10 a11 a12 a13 a14 a15 a16 a17 a18 a19 a20 a21 a22 a23 a24 a25 a26 a27 a28 a29 a30 a31 a32 a33 a34 a35 a36 a37 a38 a39 a40 a41 a42 a43 a44 a45 a46 a47 a48 a49 a50 a51 a52 a53 a54 a55 a56 a57 : Nat} {cI cB cL : ClassId} {L : Nat} {xs : Nat → Int32} : zcell (zq0 b a0 a1 a2 a3 a4 a5 a6 a7 a8 a9 a10 a11 a12 a13 a14 a15 a16 a17 a18 a19 a20 a21 a22 a23 a24 a25 a26 a27 a28 a29 a30 a31 a32 a33 a34 a35 a36 a37 a38 a39 a40 a41 a42 a43 a44 a45 a46 a47 a48 a49 a50 a51 a52 a53 a54 a55 a56 a57) cI cB cL (zmu0 L xs) (30 : Nat) = (.inl (cB, 60, .inl (fun _ => 0)) : va_E) := by
  unfold zcell
  rw [if_neg (by decide), if_pos (by decide)]
  refine congrArg Sum.inl (congrArg (Prod.mk cB) (congrArg (Prod.mk 60) (congrArg Sum.inl (funext fun j => ?_))))
  rw [zmu0_z (a := (30 : Nat)) (by omega)]
  rfl
theorem zw0_31 {b a0 a1 a2 a3 a4 a5 a6 a7 a8 a9 a10 a11 a12 a13 a14 a15 a16 a17 a18 a19 a20 a21 a22 a23 a24 a25 a26 a27 a28 a29 a30 a31 a32 a33 a34 a35 a36 a37 a38 a39 a40 a41 a42 a43 a44 a45 a46 a47 a48 a49 a50 a51 a52 a53 a54 a55 a56 a57 : Nat} {cI cB cL : ClassId} {L : Nat} {xs : Nat → Int32} : zcell (zq0 b a0 a1 a2 a3 a4 a5 a6 a7 a8 a9 a10 a11 a12 a13 a14 a15 a16 a17 a18 a19 a20 a21 a22 a23 a24 a25 a26 a27 a28 a29 a30 a31 a32 a33 a34 a35 a36 a37 a38 a39 a40 a41 a42 a43 a44 a45 a46 a47 a48 a49 a50 a51 a52 a53 a54 a55 a56 a57) cI cB cL (zmu0 L xs) (31 : Nat) = (.inl (cI, 5, .inl (fun _ => 0)) : va_E) := by
  unfold zcell
  rw [if_pos (by decide)]
  refine congrArg Sum.inl (congrArg (Prod.mk cI) (congrArg (Prod.mk 5) (congrArg Sum.inl (funext fun j => ?_))))
  rw [zmu0_z (a := (31 : Nat)) (by omega)]
  rfl
theorem zw0_32 {b a0 a1 a2 a3 a4 a5 a6 a7 a8 a9 a10 a11 a12 a13 a14 a15 a16 a17 a18 a19 a20 a21 a22 a23 a24 a25 a26 a27 a28 a29 a30 a31 a32 a33 a34 a35 a36 a37 a38 a39 a40 a41 a42 a43 a44 a45 a46 a47 a48 a49 a50 a51 a52 a53 a54 a55 a56 a57 : Nat} {cI cB cL : ClassId} {L : Nat} {xs : Nat → Int32} : zcell (zq0 b a0 a1 a2 a3 a4 a5 a6 a7 a8 a9 a10 a11 a12 a13 a14 a15 a16 a17 a18 a19 a20 a21 a22 a23 a24 a25 a26 a27 a28 a29 a30 a31 a32 a33 a34 a35 a36 a37 a38 a39 a40 a41 a42 a43 a44 a45 a46 a47 a48 a49 a50 a51 a52 a53 a54 a55 a56 a57) cI cB cL (zmu0 L xs) (32 : Nat) = (.inl (cI, 125, .inl (fun _ => 0)) : va_E) := by
  unfold zcell
  rw [if_pos (by decide)]
  refine congrArg Sum.inl (congrArg (Prod.mk cI) (congrArg (Prod.mk 125) (congrArg Sum.inl (funext fun j => ?_))))
  rw [zmu0_z (a := (32 : Nat)) (by omega)]
  rfl
theorem zw0_33 {b a0 a1 a2 a3 a4 a5 a6 a7 a8 a9 a10 a11 a12 a13 a14 a15 a16 a17 a18 a19 a20 a21 a22 a23 a24 a25 a26 a27 a28 a29 a30 a31 a32 a33 a34 a35 a36 a37 a38 a39 a40 a41 a42 a43 a44 a45 a46 a47 a48 a49 a50 a51 a52 a53 a54 a55 a56 a57 : Nat} {cI cB cL : ClassId} {L : Nat} {xs : Nat → Int32} : zcell (zq0 b a0 a1 a2 a3 a4 a5 a6 a7 a8 a9 a10 a11 a12 a13 a14 a15 a16 a17 a18 a19 a20 a21 a22 a23 a24 a25 a26 a27 a28 a29 a30 a31 a32 a33 a34 a35 a36 a37 a38 a39 a40 a41 a42 a43 a44 a45 a46 a47 a48 a49 a50 a51 a52 a53 a54 a55 a56 a57) cI cB cL (zmu0 L xs) (33 : Nat) = (.inl (cB, 24, .inl (fun _ => 0)) : va_E) := by
  unfold zcell
  rw [if_neg (by decide), if_pos (by decide)]
  refine congrArg Sum.inl (congrArg (Prod.mk cB) (congrArg (Prod.mk 24) (congrArg Sum.inl (funext fun j => ?_))))
  rw [zmu0_z (a := (33 : Nat)) (by omega)]
  rfl
theorem zw0_34 {b a0 a1 a2 a3 a4 a5 a6 a7 a8 a9 a10 a11 a12 a13 a14 a15 a16 a17 a18 a19 a20 a21 a22 a23 a24 a25 a26 a27 a28 a29 a30 a31 a32 a33 a34 a35 a36 a37 a38 a39 a40 a41 a42 a43 a44 a45 a46 a47 a48 a49 a50 a51 a52 a53 a54 a55 a56 a57 : Nat} {cI cB cL : ClassId} {L : Nat} {xs : Nat → Int32} : zcell (zq0 b a0 a1 a2 a3 a4 a5 a6 a7 a8 a9 a10 a11 a12 a13 a14 a15 a16 a17 a18 a19 a20 a21 a22 a23 a24 a25 a26 a27 a28 a29 a30 a31 a32 a33 a34 a35 a36 a37 a38 a39 a40 a41 a42 a43 a44 a45 a46 a47 a48 a49 a50 a51 a52 a53 a54 a55 a56 a57) cI cB cL (zmu0 L xs) (34 : Nat) = (.inl (cL, 48, .inr (.inl (fun _ => 0))) : va_E) := by
  unfold zcell
  rw [if_neg (by decide), if_neg (by decide), if_pos (by decide)]
  refine congrArg Sum.inl (congrArg (Prod.mk cL) (congrArg (Prod.mk 48) (congrArg Sum.inr (congrArg Sum.inl (funext fun j => ?_)))))
  rw [zmu0_z (a := (34 : Nat)) (by omega)]
  rfl
theorem zw0_35 {b a0 a1 a2 a3 a4 a5 a6 a7 a8 a9 a10 a11 a12 a13 a14 a15 a16 a17 a18 a19 a20 a21 a22 a23 a24 a25 a26 a27 a28 a29 a30 a31 a32 a33 a34 a35 a36 a37 a38 a39 a40 a41 a42 a43 a44 a45 a46 a47 a48 a49 a50 a51 a52 a53 a54 a55 a56 a57 : Nat} {cI cB cL : ClassId} {L : Nat} {xs : Nat → Int32} : zcell (zq0 b a0 a1 a2 a3 a4 a5 a6 a7 a8 a9 a10 a11 a12 a13 a14 a15 a16 a17 a18 a19 a20 a21 a22 a23 a24 a25 a26 a27 a28 a29 a30 a31 a32 a33 a34 a35 a36 a37 a38 a39 a40 a41 a42 a43 a44 a45 a46 a47 a48 a49 a50 a51 a52 a53 a54 a55 a56 a57) cI cB cL (zmu0 L xs) (35 : Nat) = (.inl (cI, 4, .inl (upd (upd (upd (upd (fun _ => 0) 0 (-11)) 1 (-11)) 2 (-11)) 3 (-11))) : va_E) := by
  unfold zcell
  rw [if_pos (by decide)]
  refine congrArg Sum.inl (congrArg (Prod.mk cI) (congrArg (Prod.mk 4) (congrArg Sum.inl (funext fun j => ?_))))
  rcases (show j = 0 ∨ j = 1 ∨ j = 2 ∨ j = 3 ∨ 4 ≤ j by omega) with rfl | rfl | rfl | rfl | hj
  · rfl
  · rfl
  · rfl
  · rfl
  · have e : zmu0 L xs (35 : Nat) (j : Nat) = 0 := by
      unfold zmu0
      rw [if_neg (by omega), if_neg (by omega), if_pos (by omega), if_neg (by omega)]
    rw [e]
    simp only [upd]
    rw [if_neg (by omega), if_neg (by omega), if_neg (by omega), if_neg (by omega)]
    rfl
theorem zw0_36 {b a0 a1 a2 a3 a4 a5 a6 a7 a8 a9 a10 a11 a12 a13 a14 a15 a16 a17 a18 a19 a20 a21 a22 a23 a24 a25 a26 a27 a28 a29 a30 a31 a32 a33 a34 a35 a36 a37 a38 a39 a40 a41 a42 a43 a44 a45 a46 a47 a48 a49 a50 a51 a52 a53 a54 a55 a56 a57 : Nat} {cI cB cL : ClassId} {L : Nat} {xs : Nat → Int32} : zcell (zq0 b a0 a1 a2 a3 a4 a5 a6 a7 a8 a9 a10 a11 a12 a13 a14 a15 a16 a17 a18 a19 a20 a21 a22 a23 a24 a25 a26 a27 a28 a29 a30 a31 a32 a33 a34 a35 a36 a37 a38 a39 a40 a41 a42 a43 a44 a45 a46 a47 a48 a49 a50 a51 a52 a53 a54 a55 a56 a57) cI cB cL (zmu0 L xs) (36 : Nat) = (.inl (cL, 5, .inr (.inl (fun _ => 0))) : va_E) := by
  unfold zcell
  rw [if_neg (by decide), if_neg (by decide), if_pos (by decide)]
  refine congrArg Sum.inl (congrArg (Prod.mk cL) (congrArg (Prod.mk 5) (congrArg Sum.inr (congrArg Sum.inl (funext fun j => ?_)))))
  rw [zmu0_z (a := (36 : Nat)) (by omega)]
  rfl
theorem zw0_37 {b a0 a1 a2 a3 a4 a5 a6 a7 a8 a9 a10 a11 a12 a13 a14 a15 a16 a17 a18 a19 a20 a21 a22 a23 a24 a25 a26 a27 a28 a29 a30 a31 a32 a33 a34 a35 a36 a37 a38 a39 a40 a41 a42 a43 a44 a45 a46 a47 a48 a49 a50 a51 a52 a53 a54 a55 a56 a57 : Nat} {cI cB cL : ClassId} {L : Nat} {xs : Nat → Int32} : zcell (zq0 b a0 a1 a2 a3 a4 a5 a6 a7 a8 a9 a10 a11 a12 a13 a14 a15 a16 a17 a18 a19 a20 a21 a22 a23 a24 a25 a26 a27 a28 a29 a30 a31 a32 a33 a34 a35 a36 a37 a38 a39 a40 a41 a42 a43 a44 a45 a46 a47 a48 a49 a50 a51 a52 a53 a54 a55 a56 a57) cI cB cL (zmu0 L xs) (37 : Nat) = (.inl (cL, 5, .inr (.inl (fun _ => 0))) : va_E) := by
  unfold zcell
  rw [if_neg (by decide), if_neg (by decide), if_pos (by decide)]
  refine congrArg Sum.inl (congrArg (Prod.mk cL) (congrArg (Prod.mk 5) (congrArg Sum.inr (congrArg Sum.inl (funext fun j => ?_)))))
  rw [zmu0_z (a := (37 : Nat)) (by omega)]
  rfl
theorem zw0_38 {b a0 a1 a2 a3 a4 a5 a6 a7 a8 a9 a10 a11 a12 a13 a14 a15 a16 a17 a18 a19 a20 a21 a22 a23 a24 a25 a26 a27 a28 a29 a30 a31 a32 a33 a34 a35 a36 a37 a38 a39 a40 a41 a42 a43 a44 a45 a46 a47 a48 a49 a50 a51 a52 a53 a54 a55 a56 a57 : Nat} {cI cB cL : ClassId} {L : Nat} {xs : Nat → Int32} : zcell (zq0 b a0 a1 a2 a3 a4 a5 a6 a7 a8 a9 a10 a11 a12 a13 a14 a15 a16 a17 a18 a19 a20 a21 a22 a23 a24 a25 a26 a27 a28 a29 a30 a31 a32 a33 a34 a35 a36 a37 a38 a39 a40 a41 a42 a43 a44 a45 a46 a47 a48 a49 a50 a51 a52 a53 a54 a55 a56 a57) cI cB cL (zmu0 L xs) (38 : Nat) = (.inl (cL, 5, .inr (.inl (fun _ => 0))) : va_E) := by
  unfold zcell
  rw [if_neg (by decide), if_neg (by decide), if_pos (by decide)]
  refine congrArg Sum.inl (congrArg (Prod.mk cL) (congrArg (Prod.mk 5) (congrArg Sum.inr (congrArg Sum.inl (funext fun j => ?_)))))
  rw [zmu0_z (a := (38 : Nat)) (by omega)]
  rfl
theorem zw0_39 {b a0 a1 a2 a3 a4 a5 a6 a7 a8 a9 a10 a11 a12 a13 a14 a15 a16 a17 a18 a19 a20 a21 a22 a23 a24 a25 a26 a27 a28 a29 a30 a31 a32 a33 a34 a35 a36 a37 a38 a39 a40 a41 a42 a43 a44 a45 a46 a47 a48 a49 a50 a51 a52 a53 a54 a55 a56 a57 : Nat} {cI cB cL : ClassId} {L : Nat} {xs : Nat → Int32} : zcell (zq0 b a0 a1 a2 a3 a4 a5 a6 a7 a8 a9 a10 a11 a12 a13 a14 a15 a16 a17 a18 a19 a20 a21 a22 a23 a24 a25 a26 a27 a28 a29 a30 a31 a32 a33 a34 a35 a36 a37 a38 a39 a40 a41 a42 a43 a44 a45 a46 a47 a48 a49 a50 a51 a52 a53 a54 a55 a56 a57) cI cB cL (zmu0 L xs) (39 : Nat) = (.inr (6, [.ref a40, .ref a41, .int 0, .ref a42, .ref a43, .ref a44, .int 0, .int 0, .int 0, .ref a45, .int 0, .ref a46, .int 0, .ref a47, .ref a48, .ref a49, .ref a50, .ref a51, .ref a52, .ref a53, .ref a54, .ref a55, .int 0, .ref a56, .ref a57]) : va_E) := by
  unfold zcell
  rw [if_neg (by decide), if_neg (by decide), if_neg (by decide)]
  rfl
theorem zw0_40 {b a0 a1 a2 a3 a4 a5 a6 a7 a8 a9 a10 a11 a12 a13 a14 a15 a16 a17 a18 a19 a20 a21 a22 a23 a24 a25 a26 a27 a28 a29 a30 a31 a32 a33 a34 a35 a36 a37 a38 a39 a40 a41 a42 a43 a44 a45 a46 a47 a48 a49 a50 a51 a52 a53 a54 a55 a56 a57 : Nat} {cI cB cL : ClassId} {L : Nat} {xs : Nat → Int32} : zcell (zq0 b a0 a1 a2 a3 a4 a5 a6 a7 a8 a9 a10 a11 a12 a13 a14 a15 a16 a17 a18 a19 a20 a21 a22 a23 a24 a25 a26 a27 a28 a29 a30 a31 a32 a33 a34 a35 a36 a37 a38 a39 a40 a41 a42 a43 a44 a45 a46 a47 a48 a49 a50 a51 a52 a53 a54 a55 a56 a57) cI cB cL (zmu0 L xs) (40 : Nat) = (.inl (cI, 195, .inl (upd (fun _ => 0) 1 2)) : va_E) := by
  unfold zcell
  rw [if_pos (by decide)]
  refine congrArg Sum.inl (congrArg (Prod.mk cI) (congrArg (Prod.mk 195) (congrArg Sum.inl (funext fun j => ?_))))
  by_cases hj : j = 1
  · subst hj; rfl
  · rw [zmu0_z (a := (40 : Nat)) (by omega)]
    simp only [upd]
    rw [if_neg (by omega)]
    rfl
theorem zw0_41 {b a0 a1 a2 a3 a4 a5 a6 a7 a8 a9 a10 a11 a12 a13 a14 a15 a16 a17 a18 a19 a20 a21 a22 a23 a24 a25 a26 a27 a28 a29 a30 a31 a32 a33 a34 a35 a36 a37 a38 a39 a40 a41 a42 a43 a44 a45 a46 a47 a48 a49 a50 a51 a52 a53 a54 a55 a56 a57 : Nat} {cI cB cL : ClassId} {L : Nat} {xs : Nat → Int32} : zcell (zq0 b a0 a1 a2 a3 a4 a5 a6 a7 a8 a9 a10 a11 a12 a13 a14 a15 a16 a17 a18 a19 a20 a21 a22 a23 a24 a25 a26 a27 a28 a29 a30 a31 a32 a33 a34 a35 a36 a37 a38 a39 a40 a41 a42 a43 a44 a45 a46 a47 a48 a49 a50 a51 a52 a53 a54 a55 a56 a57) cI cB cL (zmu0 L xs) (41 : Nat) = (.inl (cI, 195, .inl (fun _ => 0)) : va_E) := by
  unfold zcell
  rw [if_pos (by decide)]
  refine congrArg Sum.inl (congrArg (Prod.mk cI) (congrArg (Prod.mk 195) (congrArg Sum.inl (funext fun j => ?_))))
  rw [zmu0_z (a := (41 : Nat)) (by omega)]
  rfl
theorem zw0_42 {b a0 a1 a2 a3 a4 a5 a6 a7 a8 a9 a10 a11 a12 a13 a14 a15 a16 a17 a18 a19 a20 a21 a22 a23 a24 a25 a26 a27 a28 a29 a30 a31 a32 a33 a34 a35 a36 a37 a38 a39 a40 a41 a42 a43 a44 a45 a46 a47 a48 a49 a50 a51 a52 a53 a54 a55 a56 a57 : Nat} {cI cB cL : ClassId} {L : Nat} {xs : Nat → Int32} : zcell (zq0 b a0 a1 a2 a3 a4 a5 a6 a7 a8 a9 a10 a11 a12 a13 a14 a15 a16 a17 a18 a19 a20 a21 a22 a23 a24 a25 a26 a27 a28 a29 a30 a31 a32 a33 a34 a35 a36 a37 a38 a39 a40 a41 a42 a43 a44 a45 a46 a47 a48 a49 a50 a51 a52 a53 a54 a55 a56 a57) cI cB cL (zmu0 L xs) (42 : Nat) = (.inl (cL, 5, .inr (.inl (fun _ => 0))) : va_E) := by
  unfold zcell
  rw [if_neg (by decide), if_neg (by decide), if_pos (by decide)]
  refine congrArg Sum.inl (congrArg (Prod.mk cL) (congrArg (Prod.mk 5) (congrArg Sum.inr (congrArg Sum.inl (funext fun j => ?_)))))
  rw [zmu0_z (a := (42 : Nat)) (by omega)]
  rfl
theorem zw0_43 {b a0 a1 a2 a3 a4 a5 a6 a7 a8 a9 a10 a11 a12 a13 a14 a15 a16 a17 a18 a19 a20 a21 a22 a23 a24 a25 a26 a27 a28 a29 a30 a31 a32 a33 a34 a35 a36 a37 a38 a39 a40 a41 a42 a43 a44 a45 a46 a47 a48 a49 a50 a51 a52 a53 a54 a55 a56 a57 : Nat} {cI cB cL : ClassId} {L : Nat} {xs : Nat → Int32} : zcell (zq0 b a0 a1 a2 a3 a4 a5 a6 a7 a8 a9 a10 a11 a12 a13 a14 a15 a16 a17 a18 a19 a20 a21 a22 a23 a24 a25 a26 a27 a28 a29 a30 a31 a32 a33 a34 a35 a36 a37 a38 a39 a40 a41 a42 a43 a44 a45 a46 a47 a48 a49 a50 a51 a52 a53 a54 a55 a56 a57) cI cB cL (zmu0 L xs) (43 : Nat) = (.inl (cL, 5, .inr (.inl (fun _ => 0))) : va_E) := by
  unfold zcell
  rw [if_neg (by decide), if_neg (by decide), if_pos (by decide)]
  refine congrArg Sum.inl (congrArg (Prod.mk cL) (congrArg (Prod.mk 5) (congrArg Sum.inr (congrArg Sum.inl (funext fun j => ?_)))))
  rw [zmu0_z (a := (43 : Nat)) (by omega)]
  rfl
theorem zw0_44 {b a0 a1 a2 a3 a4 a5 a6 a7 a8 a9 a10 a11 a12 a13 a14 a15 a16 a17 a18 a19 a20 a21 a22 a23 a24 a25 a26 a27 a28 a29 a30 a31 a32 a33 a34 a35 a36 a37 a38 a39 a40 a41 a42 a43 a44 a45 a46 a47 a48 a49 a50 a51 a52 a53 a54 a55 a56 a57 : Nat} {cI cB cL : ClassId} {L : Nat} {xs : Nat → Int32} : zcell (zq0 b a0 a1 a2 a3 a4 a5 a6 a7 a8 a9 a10 a11 a12 a13 a14 a15 a16 a17 a18 a19 a20 a21 a22 a23 a24 a25 a26 a27 a28 a29 a30 a31 a32 a33 a34 a35 a36 a37 a38 a39 a40 a41 a42 a43 a44 a45 a46 a47 a48 a49 a50 a51 a52 a53 a54 a55 a56 a57) cI cB cL (zmu0 L xs) (44 : Nat) = (.inl (cI, 60, .inl (fun _ => 0)) : va_E) := by
  unfold zcell
  rw [if_pos (by decide)]
  refine congrArg Sum.inl (congrArg (Prod.mk cI) (congrArg (Prod.mk 60) (congrArg Sum.inl (funext fun j => ?_))))
  rw [zmu0_z (a := (44 : Nat)) (by omega)]
  rfl
theorem zw0_45 {b a0 a1 a2 a3 a4 a5 a6 a7 a8 a9 a10 a11 a12 a13 a14 a15 a16 a17 a18 a19 a20 a21 a22 a23 a24 a25 a26 a27 a28 a29 a30 a31 a32 a33 a34 a35 a36 a37 a38 a39 a40 a41 a42 a43 a44 a45 a46 a47 a48 a49 a50 a51 a52 a53 a54 a55 a56 a57 : Nat} {cI cB cL : ClassId} {L : Nat} {xs : Nat → Int32} : zcell (zq0 b a0 a1 a2 a3 a4 a5 a6 a7 a8 a9 a10 a11 a12 a13 a14 a15 a16 a17 a18 a19 a20 a21 a22 a23 a24 a25 a26 a27 a28 a29 a30 a31 a32 a33 a34 a35 a36 a37 a38 a39 a40 a41 a42 a43 a44 a45 a46 a47 a48 a49 a50 a51 a52 a53 a54 a55 a56 a57) cI cB cL (zmu0 L xs) (45 : Nat) = (.inl (cI, 5, .inl (fun _ => 0)) : va_E) := by
  unfold zcell
  rw [if_pos (by decide)]
  refine congrArg Sum.inl (congrArg (Prod.mk cI) (congrArg (Prod.mk 5) (congrArg Sum.inl (funext fun j => ?_))))
  rw [zmu0_z (a := (45 : Nat)) (by omega)]
  rfl
theorem zw0_46 {b a0 a1 a2 a3 a4 a5 a6 a7 a8 a9 a10 a11 a12 a13 a14 a15 a16 a17 a18 a19 a20 a21 a22 a23 a24 a25 a26 a27 a28 a29 a30 a31 a32 a33 a34 a35 a36 a37 a38 a39 a40 a41 a42 a43 a44 a45 a46 a47 a48 a49 a50 a51 a52 a53 a54 a55 a56 a57 : Nat} {cI cB cL : ClassId} {L : Nat} {xs : Nat → Int32} : zcell (zq0 b a0 a1 a2 a3 a4 a5 a6 a7 a8 a9 a10 a11 a12 a13 a14 a15 a16 a17 a18 a19 a20 a21 a22 a23 a24 a25 a26 a27 a28 a29 a30 a31 a32 a33 a34 a35 a36 a37 a38 a39 a40 a41 a42 a43 a44 a45 a46 a47 a48 a49 a50 a51 a52 a53 a54 a55 a56 a57) cI cB cL (zmu0 L xs) (46 : Nat) = (.inl (cI, 320, .inl (fun _ => 0)) : va_E) := by
  unfold zcell
  rw [if_pos (by decide)]
  refine congrArg Sum.inl (congrArg (Prod.mk cI) (congrArg (Prod.mk 320) (congrArg Sum.inl (funext fun j => ?_))))
  rw [zmu0_z (a := (46 : Nat)) (by omega)]
  rfl
theorem zw0_47 {b a0 a1 a2 a3 a4 a5 a6 a7 a8 a9 a10 a11 a12 a13 a14 a15 a16 a17 a18 a19 a20 a21 a22 a23 a24 a25 a26 a27 a28 a29 a30 a31 a32 a33 a34 a35 a36 a37 a38 a39 a40 a41 a42 a43 a44 a45 a46 a47 a48 a49 a50 a51 a52 a53 a54 a55 a56 a57 : Nat} {cI cB cL : ClassId} {L : Nat} {xs : Nat → Int32} : zcell (zq0 b a0 a1 a2 a3 a4 a5 a6 a7 a8 a9 a10 a11 a12 a13 a14 a15 a16 a17 a18 a19 a20 a21 a22 a23 a24 a25 a26 a27 a28 a29 a30 a31 a32 a33 a34 a35 a36 a37 a38 a39 a40 a41 a42 a43 a44 a45 a46 a47 a48 a49 a50 a51 a52 a53 a54 a55 a56 a57) cI cB cL (zmu0 L xs) (47 : Nat) = (.inl (cI, 5, .inl (fun _ => 0)) : va_E) := by
  unfold zcell
  rw [if_pos (by decide)]
  refine congrArg Sum.inl (congrArg (Prod.mk cI) (congrArg (Prod.mk 5) (congrArg Sum.inl (funext fun j => ?_))))
  rw [zmu0_z (a := (47 : Nat)) (by omega)]
  rfl
theorem zw0_48 {b a0 a1 a2 a3 a4 a5 a6 a7 a8 a9 a10 a11 a12 a13 a14 a15 a16 a17 a18 a19 a20 a21 a22 a23 a24 a25 a26 a27 a28 a29 a30 a31 a32 a33 a34 a35 a36 a37 a38 a39 a40 a41 a42 a43 a44 a45 a46 a47 a48 a49 a50 a51 a52 a53 a54 a55 a56 a57 : Nat} {cI cB cL : ClassId} {L : Nat} {xs : Nat → Int32} : zcell (zq0 b a0 a1 a2 a3 a4 a5 a6 a7 a8 a9 a10 a11 a12 a13 a14 a15 a16 a17 a18 a19 a20 a21 a22 a23 a24 a25 a26 a27 a28 a29 a30 a31 a32 a33 a34 a35 a36 a37 a38 a39 a40 a41 a42 a43 a44 a45 a46 a47 a48 a49 a50 a51 a52 a53 a54 a55 a56 a57) cI cB cL (zmu0 L xs) (48 : Nat) = (.inl (cI, 25, .inl (fun _ => 0)) : va_E) := by
  unfold zcell
  rw [if_pos (by decide)]
  refine congrArg Sum.inl (congrArg (Prod.mk cI) (congrArg (Prod.mk 25) (congrArg Sum.inl (funext fun j => ?_))))
  rw [zmu0_z (a := (48 : Nat)) (by omega)]
  rfl
theorem zw0_49 {b a0 a1 a2 a3 a4 a5 a6 a7 a8 a9 a10 a11 a12 a13 a14 a15 a16 a17 a18 a19 a20 a21 a22 a23 a24 a25 a26 a27 a28 a29 a30 a31 a32 a33 a34 a35 a36 a37 a38 a39 a40 a41 a42 a43 a44 a45 a46 a47 a48 a49 a50 a51 a52 a53 a54 a55 a56 a57 : Nat} {cI cB cL : ClassId} {L : Nat} {xs : Nat → Int32} : zcell (zq0 b a0 a1 a2 a3 a4 a5 a6 a7 a8 a9 a10 a11 a12 a13 a14 a15 a16 a17 a18 a19 a20 a21 a22 a23 a24 a25 a26 a27 a28 a29 a30 a31 a32 a33 a34 a35 a36 a37 a38 a39 a40 a41 a42 a43 a44 a45 a46 a47 a48 a49 a50 a51 a52 a53 a54 a55 a56 a57) cI cB cL (zmu0 L xs) (49 : Nat) = (.inl (cI, 25, .inl (fun _ => 0)) : va_E) := by
  unfold zcell
  rw [if_pos (by decide)]
  refine congrArg Sum.inl (congrArg (Prod.mk cI) (congrArg (Prod.mk 25) (congrArg Sum.inl (funext fun j => ?_))))
  rw [zmu0_z (a := (49 : Nat)) (by omega)]
  rfl
theorem zw0_50 {b a0 a1 a2 a3 a4 a5 a6 a7 a8 a9 a10 a11 a12 a13 a14 a15 a16 a17 a18 a19 a20 a21 a22 a23 a24 a25 a26 a27 a28 a29 a30 a31 a32 a33 a34 a35 a36 a37 a38 a39 a40 a41 a42 a43 a44 a45 a46 a47 a48 a49 a50 a51 a52 a53 a54 a55 a56 a57 : Nat} {cI cB cL : ClassId} {L : Nat} {xs : Nat → Int32} : zcell (zq0 b a0 a1 a2 a3 a4 a5 a6 a7 a8 a9 a10 a11 a12 a13 a14 a15 a16 a17 a18 a19 a20 a21 a22 a23 a24 a25 a26 a27 a28 a29 a30 a31 a32 a33 a34 a35 a36 a37 a38 a39 a40 a41 a42 a43 a44 a45 a46 a47 a48 a49 a50 a51 a52 a53 a54 a55 a56 a57) cI cB cL (zmu0 L xs) (50 : Nat) = (.inl (cI, 25, .inl (fun _ => 0)) : va_E) := by
  unfold zcell
  rw [if_pos (by decide)]
  refine congrArg Sum.inl (congrArg (Prod.mk cI) (congrArg (Prod.mk 25) (congrArg Sum.inl (funext fun j => ?_))))
  rw [zmu0_z (a := (50 : Nat)) (by omega)]
  rfl
theorem zw0_51 {b a0 a1 a2 a3 a4 a5 a6 a7 a8 a9 a10 a11 a12 a13 a14 a15 a16 a17 a18 a19 a20 a21 a22 a23 a24 a25 a26 a27 a28 a29 a30 a31 a32 a33 a34 a35 a36 a37 a38 a39 a40 a41 a42 a43 a44 a45 a46 a47 a48 a49 a50 a51 a52 a53 a54 a55 a56 a57 : Nat} {cI cB cL : ClassId} {L : Nat} {xs : Nat → Int32} : zcell (zq0 b a0 a1 a2 a3 a4 a5 a6 a7 a8 a9 a10 a11 a12 a13 a14 a15 a16 a17 a18 a19 a20 a21 a22 a23 a24 a25 a26 a27 a28 a29 a30 a31 a32 a33 a34 a35 a36 a37 a38 a39 a40 a41 a42 a43 a44 a45 a46 a47 a48 a49 a50 a51 a52 a53 a54 a55 a56 a57) cI cB cL (zmu0 L xs) (51 : Nat) = (.inl (cI, 25, .inl (fun _ => 0)) : va_E) := by
  unfold zcell
  rw [if_pos (by decide)]
  refine congrArg Sum.inl (congrArg (Prod.mk cI) (congrArg (Prod.mk 25) (congrArg Sum.inl (funext fun j => ?_))))
  rw [zmu0_z (a := (51 : Nat)) (by omega)]
  rfl
theorem zw0_52 {b a0 a1 a2 a3 a4 a5 a6 a7 a8 a9 a10 a11 a12 a13 a14 a15 a16 a17 a18 a19 a20 a21 a22 a23 a24 a25 a26 a27 a28 a29 a30 a31 a32 a33 a34 a35 a36 a37 a38 a39 a40 a41 a42 a43 a44 a45 a46 a47 a48 a49 a50 a51 a52 a53 a54 a55 a56 a57 : Nat} {cI cB cL : ClassId} {L : Nat} {xs : Nat → Int32} : zcell (zq0 b a0 a1 a2 a3 a4 a5 a6 a7 a8 a9 a10 a11 a12 a13 a14 a15 a16 a17 a18 a19 a20 a21 a22 a23 a24 a25 a26 a27 a28 a29 a30 a31 a32 a33 a34 a35 a36 a37 a38 a39 a40 a41 a42 a43 a44 a45 a46 a47 a48 a49 a50 a51 a52 a53 a54 a55 a56 a57) cI cB cL (zmu0 L xs) (52 : Nat) = (.inl (cI, 25, .inl (fun _ => 0)) : va_E) := by
  unfold zcell
  rw [if_pos (by decide)]
  refine congrArg Sum.inl (congrArg (Prod.mk cI) (congrArg (Prod.mk 25) (congrArg Sum.inl (funext fun j => ?_))))
  rw [zmu0_z (a := (52 : Nat)) (by omega)]
  rfl
theorem zw0_53 {b a0 a1 a2 a3 a4 a5 a6 a7 a8 a9 a10 a11 a12 a13 a14 a15 a16 a17 a18 a19 a20 a21 a22 a23 a24 a25 a26 a27 a28 a29 a30 a31 a32 a33 a34 a35 a36 a37 a38 a39 a40 a41 a42 a43 a44 a45 a46 a47 a48 a49 a50 a51 a52 a53 a54 a55 a56 a57 : Nat} {cI cB cL : ClassId} {L : Nat} {xs : Nat → Int32} : zcell (zq0 b a0 a1 a2 a3 a4 a5 a6 a7 a8 a9 a10 a11 a12 a13 a14 a15 a16 a17 a18 a19 a20 a21 a22 a23 a24 a25 a26 a27 a28 a29 a30 a31 a32 a33 a34 a35 a36 a37 a38 a39 a40 a41 a42 a43 a44 a45 a46 a47 a48 a49 a50 a51 a52 a53 a54 a55 a56 a57) cI cB cL (zmu0 L xs) (53 : Nat) = (.inl (cI, 25, .inl (fun _ => 0)) : va_E) := by
  unfold zcell
  rw [if_pos (by decide)]
  refine congrArg Sum.inl (congrArg (Prod.mk cI) (congrArg (Prod.mk 25) (congrArg Sum.inl (funext fun j => ?_))))
  rw [zmu0_z (a := (53 : Nat)) (by omega)]
  rfl
theorem zw0_54 {b a0 a1 a2 a3 a4 a5 a6 a7 a8 a9 a10 a11 a12 a13 a14 a15 a16 a17 a18 a19 a20 a21 a22 a23 a24 a25 a26 a27 a28 a29 a30 a31 a32 a33 a34 a35 a36 a37 a38 a39 a40 a41 a42 a43 a44 a45 a46 a47 a48 a49 a50 a51 a52 a53 a54 a55 a56 a57 : Nat} {cI cB cL : ClassId} {L : Nat} {xs : Nat → Int32} : zcell (zq0 b a0 a1 a2 a3 a4 a5 a6 a7 a8 a9 a10 a11 a12 a13 a14 a15 a16 a17 a18 a19 a20 a21 a22 a23 a24 a25 a26 a27 a28 a29 a30 a31 a32 a33 a34 a35 a36 a37 a38 a39 a40 a41 a42 a43 a44 a45 a46 a47 a48 a49 a50 a51 a52 a53 a54 a55 a56 a57) cI cB cL (zmu0 L xs) (54 : Nat) = (.inl (cI, 195, .inl (fun _ => 0)) : va_E) := by
  unfold zcell
  rw [if_pos (by decide)]
  refine congrArg Sum.inl (congrArg (Prod.mk cI) (congrArg (Prod.mk 195) (congrArg Sum.inl (funext fun j => ?_))))
  rw [zmu0_z (a := (54 : Nat)) (by omega)]
  rfl
theorem zw0_55 {b a0 a1 a2 a3 a4 a5 a6 a7 a8 a9 a10 a11 a12 a13 a14 a15 a16 a17 a18 a19 a20 a21 a22 a23 a24 a25 a26 a27 a28 a29 a30 a31 a32 a33 a34 a35 a36 a37 a38 a39 a40 a41 a42 a43 a44 a45 a46 a47 a48 a49 a50 a51 a52 a53 a54 a55 a56 a57 : Nat} {cI cB cL : ClassId} {L : Nat} {xs : Nat → Int32} : zcell (zq0 b a0 a1 a2 a3 a4 a5 a6 a7 a8 a9 a10 a11 a12 a13 a14 a15 a16 a17 a18 a19 a20 a21 a22 a23 a24 a25 a26 a27 a28 a29 a30 a31 a32 a33 a34 a35 a36 a37 a38 a39 a40 a41 a42 a43 a44 a45 a46 a47 a48 a49 a50 a51 a52 a53 a54 a55 a56 a57) cI cB cL (zmu0 L xs) (55 : Nat) = (.inl (cI, 40, .inl (fun _ => 0)) : va_E) := by
  unfold zcell
  rw [if_pos (by decide)]
  refine congrArg Sum.inl (congrArg (Prod.mk cI) (congrArg (Prod.mk 40) (congrArg Sum.inl (funext fun j => ?_))))
  rw [zmu0_z (a := (55 : Nat)) (by omega)]
  rfl
theorem zw0_56 {b a0 a1 a2 a3 a4 a5 a6 a7 a8 a9 a10 a11 a12 a13 a14 a15 a16 a17 a18 a19 a20 a21 a22 a23 a24 a25 a26 a27 a28 a29 a30 a31 a32 a33 a34 a35 a36 a37 a38 a39 a40 a41 a42 a43 a44 a45 a46 a47 a48 a49 a50 a51 a52 a53 a54 a55 a56 a57 : Nat} {cI cB cL : ClassId} {L : Nat} {xs : Nat → Int32} : zcell (zq0 b a0 a1 a2 a3 a4 a5 a6 a7 a8 a9 a10 a11 a12 a13 a14 a15 a16 a17 a18 a19 a20 a21 a22 a23 a24 a25 a26 a27 a28 a29 a30 a31 a32 a33 a34 a35 a36 a37 a38 a39 a40 a41 a42 a43 a44 a45 a46 a47 a48 a49 a50 a51 a52 a53 a54 a55 a56 a57) cI cB cL (zmu0 L xs) (56 : Nat) = (.inl (cL, 48, .inr (.inl (fun _ => 0))) : va_E) := by
  unfold zcell
  rw [if_neg (by decide), if_neg (by decide), if_pos (by decide)]
  refine congrArg Sum.inl (congrArg (Prod.mk cL) (congrArg (Prod.mk 48) (congrArg Sum.inr (congrArg Sum.inl (funext fun j => ?_)))))
  rw [zmu0_z (a := (56 : Nat)) (by omega)]
  rfl
theorem zw0_57 {b a0 a1 a2 a3 a4 a5 a6 a7 a8 a9 a10 a11 a12 a13 a14 a15 a16 a17 a18 a19 a20 a21 a22 a23 a24 a25 a26 a27 a28 a29 a30 a31 a32 a33 a34 a35 a36 a37 a38 a39 a40 a41 a42 a43 a44 a45 a46 a47 a48 a49 a50 a51 a52 a53 a54 a55 a56 a57 : Nat} {cI cB cL : ClassId} {L : Nat} {xs : Nat → Int32} : zcell (zq0 b a0 a1 a2 a3 a4 a5 a6 a7 a8 a9 a10 a11 a12 a13 a14 a15 a16 a17 a18 a19 a20 a21 a22 a23 a24 a25 a26 a27 a28 a29 a30 a31 a32 a33 a34 a35 a36 a37 a38 a39 a40 a41 a42 a43 a44 a45 a46 a47 a48 a49 a50 a51 a52 a53 a54 a55 a56 a57) cI cB cL (zmu0 L xs) (57 : Nat) = (.inl (cI, 4, .inl (upd (upd (upd (upd (fun _ => 0) 0 (-1)) 1 (-1)) 2 (-1)) 3 (-1))) : va_E) := by
  unfold zcell
  rw [if_pos (by decide)]
  refine congrArg Sum.inl (congrArg (Prod.mk cI) (congrArg (Prod.mk 4) (congrArg Sum.inl (funext fun j => ?_))))
  rcases (show j = 0 ∨ j = 1 ∨ j = 2 ∨ j = 3 ∨ 4 ≤ j by omega) with rfl | rfl | rfl | rfl | hj
  · rfl
  · rfl
  · rfl
  · rfl
  · have e : zmu0 L xs (57 : Nat) (j : Nat) = 0 := by
      unfold zmu0
      rw [if_neg (by omega), if_neg (by omega), if_neg (by omega), if_pos (by omega), if_neg (by omega)]
    rw [e]
    simp only [upd]
    rw [if_neg (by omega), if_neg (by omega), if_neg (by omega), if_neg (by omega)]
    rfl
set_option maxHeartbeats 4000000 in
set_option maxRecDepth 100000 in
theorem zw0_all {b a0 a1 a2 a3 a4 a5 a6 a7 a8 a9 a10 a11 a12 a13 a14 a15 a16 a17 a18 a19 a20 a21 a22 a23 a24 a25 a26 a27 a28 a29 a30 a31 a32 a33 a34 a35 a36 a37 a38 a39 a40 a41 a42 a43 a44 a45 a46 a47 a48 a49 a50 a51 a52 a53 a54 a55 a56 a57 : Nat} {cI cB cL : ClassId} {L : Nat} {xs : Nat → Int32} : zws (zq0 b a0 a1 a2 a3 a4 a5 a6 a7 a8 a9 a10 a11 a12 a13 a14 a15 a16 a17 a18 a19 a20 a21 a22 a23 a24 a25 a26 a27 a28 a29 a30 a31 a32 a33 a34 a35 a36 a37 a38 a39 a40 a41 a42 a43 a44 a45 a46 a47 a48 a49 a50 a51 a52 a53 a54 a55 a56 a57) cI cB cL (zmu0 L xs) = [(a0, .inr (5, [.ref a1, .ref a8, .int 0, .ref a15, .ref a17, .ref a19, .ref a24, .int 0, .int 0, .ref a29, .ref a33, .int 0, .ref a34, .ref a35, .ref a36, .ref a37, .ref a38])), (a1, .inr (2, [.int 0, .int 2, .int 0, .ref a2, .ref a3, .ref a4, .ref a5, .ref a6, .ref a7, .int 0])), (a2, .inl (cI, 125, .inl (fun _ => 0))), (a3, .inl (cI, 20, .inl (fun _ => 0))), (a4, .inl (cI, 25, .inl (fun _ => 0))), (a5, .inl (cI, 5, .inl (fun _ => 0))), (a6, .inl (cI, 8, .inl (fun _ => 0))), (a7, .inl (cI, 8, .inl (fun _ => 0))), (a8, .inr (2, [.int 0, .int 2, .int 0, .ref a9, .ref a10, .ref a11, .ref a12, .ref a13, .ref a14, .int 0])), (a9, .inl (cI, 125, .inl (fun _ => 0))), (a10, .inl (cI, 20, .inl (fun _ => 0))), (a11, .inl (cI, 25, .inl (fun _ => 0))), (a12, .inl (cI, 5, .inl (fun _ => 0))), (a13, .inl (cI, 8, .inl (fun _ => 0))), (a14, .inl (cI, 8, .inl (fun _ => 0))), (a15, .inr (1, [.int 1, .ref a16])), (a16, .inl (cI, 125, .inl (fun _ => 0))), (a17, .inr (1, [.int 1, .ref a18])), (a18, .inl (cI, 125, .inl (fun _ => 0))), (a19, .inr (0, [.int 0, .ref a20, .ref a21, .ref a22, .ref a23])), (a20, .inl (cI, 25, .inl (fun _ => 0))), (a21, .inl (cI, 5, .inl (fun _ => 0))), (a22, .inl (cI, 5, .inl (fun _ => 0))), (a23, .inl (cI, 125, .inl (fun _ => 0))), (a24, .inr (4, [.ref a25, .ref a26, .ref a27, .ref a28])), (a25, .inl (cI, 25, .inl (fun _ => 0))), (a26, .inl (cI, 25, .inl (fun _ => 0))), (a27, .inl (cI, 25, .inl (fun _ => 0))), (a28, .inl (cI, 25, .inl (fun _ => 0))), (a29, .inr (3, [.ref a30, .int 0, .ref a31, .int 0, .int 0, .ref a32])), (a30, .inl (cB, 60, .inl (fun _ => 0))), (a31, .inl (cI, 5, .inl (fun _ => 0))), (a32, .inl (cI, 125, .inl (fun _ => 0))), (a33, .inl (cB, 24, .inl (fun _ => 0))), (a34, .inl (cL, 48, .inr (.inl (fun _ => 0)))), (a35, .inl (cI, 4, .inl (upd (upd (upd (upd (fun _ => 0) 0 (-11)) 1 (-11)) 2 (-11)) 3 (-11)))), (a36, .inl (cL, 5, .inr (.inl (fun _ => 0)))), (a37, .inl (cL, 5, .inr (.inl (fun _ => 0)))), (a38, .inl (cL, 5, .inr (.inl (fun _ => 0)))), (a39, .inr (6, [.ref a40, .ref a41, .int 0, .ref a42, .ref a43, .ref a44, .int 0, .int 0, .int 0, .ref a45, .int 0, .ref a46, .int 0, .ref a47, .ref a48, .ref a49, .ref a50, .ref a51, .ref a52, .ref a53, .ref a54, .ref a55, .int 0, .ref a56, .ref a57])), (a40, .inl (cI, 195, .inl (upd (fun _ => 0) 1 2))), (a41, .inl (cI, 195, .inl (fun _ => 0))), (a42, .inl (cL, 5, .inr (.inl (fun _ => 0)))), (a43, .inl (cL, 5, .inr (.inl (fun _ => 0)))), (a44, .inl (cI, 60, .inl (fun _ => 0))), (a45, .inl (cI, 5, .inl (fun _ => 0))), (a46, .inl (cI, 320, .inl (fun _ => 0))), (a47, .inl (cI, 5, .inl (fun _ => 0))), (a48, .inl (cI, 25, .inl (fun _ => 0))), (a49, .inl (cI, 25, .inl (fun _ => 0))), (a50, .inl (cI, 25, .inl (fun _ => 0))), (a51, .inl (cI, 25, .inl (fun _ => 0))), (a52, .inl (cI, 25, .inl (fun _ => 0))), (a53, .inl (cI, 25, .inl (fun _ => 0))), (a54, .inl (cI, 195, .inl (fun _ => 0))), (a55, .inl (cI, 40, .inl (fun _ => 0))), (a56, .inl (cL, 48, .inr (.inl (fun _ => 0)))), (a57, .inl (cI, 4, .inl (upd (upd (upd (upd (fun _ => 0) 0 (-1)) 1 (-1)) 2 (-1)) 3 (-1))))] := by
  unfold zws
  rw [show List.range 58 = [0, 1, 2, 3, 4, 5, 6, 7, 8, 9, 10, 11, 12, 13, 14, 15, 16, 17, 18, 19, 20, 21, 22, 23, 24, 25, 26, 27, 28, 29, 30, 31, 32, 33, 34, 35, 36, 37, 38, 39, 40, 41, 42, 43, 44, 45, 46, 47, 48, 49, 50, 51, 52, 53, 54, 55, 56, 57] from rfl]
  simp only [List.map_cons, List.map_nil, zw0_0, zw0_1, zw0_2, zw0_3, zw0_4, zw0_5, zw0_6, zw0_7, zw0_8, zw0_9, zw0_10, zw0_11, zw0_12, zw0_13, zw0_14, zw0_15, zw0_16, zw0_17, zw0_18, zw0_19, zw0_20, zw0_21, zw0_22, zw0_23, zw0_24, zw0_25, zw0_26, zw0_27, zw0_28, zw0_29, zw0_30, zw0_31, zw0_32, zw0_33, zw0_34, zw0_35, zw0_36, zw0_37, zw0_38, zw0_39, zw0_40, zw0_41, zw0_42, zw0_43, zw0_44, zw0_45, zw0_46, zw0_47, zw0_48, zw0_49, zw0_50, zw0_51, zw0_52, zw0_53, zw0_54, zw0_55, zw0_56, zw0_57]
  rfl
