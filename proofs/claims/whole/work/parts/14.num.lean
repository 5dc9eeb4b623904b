/-! whole numbers and the machine's ints -/
def zi32 (z : Int) : Prop := -2147483648 ≤ z ∧ z < 2147483648
def zi64 (z : Int) : Prop := -9223372036854775808 ≤ z ∧ z < 9223372036854775808
theorem zw_in (z : Int) : zi32 (zw z) := by unfold zi32 zw; omega
theorem zx_in (z : Int) : zi64 (zx z) := by unfold zi64 zx; omega
theorem zb_in (z : Int) : zi32 (zb z) := by unfold zi32 zb; omega
theorem zw_id {z : Int} (h : zi32 z) : zw z = z := by unfold zi32 at h; unfold zw; omega
theorem zx_id {z : Int} (h : zi64 z) : zx z = z := by unfold zi64 at h; unfold zx; omega
theorem zt32 {z : Int} (h : zi32 z) : (Int32.ofInt z).toInt = z := Int32.toInt_ofInt_of_le h.1 h.2
theorem zt64 {z : Int} (h : zi64 z) : (Int64.ofInt z).toInt = z := Int64.toInt_ofInt_of_le h.1 h.2
theorem zin32 (x : Int32) : zi32 x.toInt := ⟨Int32.le_toInt x, Int32.toInt_lt x⟩
theorem zin64 (x : Int64) : zi64 x.toInt := ⟨Int64.le_toInt x, Int64.toInt_lt x⟩
theorem zw_of (z : Int) : Int32.ofInt (zw z) = Int32.ofInt z := by
  rw [← Int32.toInt_inj, zt32 (zw_in z), Int32.toInt_ofInt]
  unfold zw
  simp only [Int.bmod, Int32.size]
  omega
theorem zx_of (z : Int) : Int64.ofInt (zx z) = Int64.ofInt z := by
  rw [← Int64.toInt_inj, zt64 (zx_in z), Int64.toInt_ofInt]
  unfold zx
  simp only [Int.bmod, Int64.size]
  omega
theorem zo_add (a b : Int) : Int32.ofInt a + Int32.ofInt b = Int32.ofInt (zw (a + b)) := by rw [zw_of, Int32.ofInt_add]
theorem zo_sub (a b : Int) : Int32.ofInt a - Int32.ofInt b = Int32.ofInt (zw (a - b)) := by rw [zw_of, Int32.ofInt_sub]
theorem zo_mul (a b : Int) : Int32.ofInt a * Int32.ofInt b = Int32.ofInt (zw (a * b)) := by rw [zw_of, Int32.ofInt_mul]
theorem zo_neg (a : Int) : -Int32.ofInt a = Int32.ofInt (zw (-a)) := by rw [zw_of, Int32.ofInt_neg]
theorem zq_add (a b : Int) : Int64.ofInt a + Int64.ofInt b = Int64.ofInt (zx (a + b)) := by rw [zx_of, Int64.ofInt_add]
theorem zq_mul (a b : Int) : Int64.ofInt a * Int64.ofInt b = Int64.ofInt (zx (a * b)) := by rw [zx_of, Int64.ofInt_mul]
theorem zo_eq {a b : Int} (ha : zi32 a) (hb : zi32 b) : Int32.ofInt a = Int32.ofInt b ↔ a = b := by rw [← Int32.toInt_inj, zt32 ha, zt32 hb]
theorem zo_lt {a b : Int} (ha : zi32 a) (hb : zi32 b) : Int32.ofInt a < Int32.ofInt b ↔ a < b := by rw [Int32.lt_iff_toInt_lt, zt32 ha, zt32 hb]
theorem zo_le {a b : Int} (ha : zi32 a) (hb : zi32 b) : Int32.ofInt a ≤ Int32.ofInt b ↔ a ≤ b := by rw [Int32.le_iff_toInt_le, zt32 ha, zt32 hb]
theorem zq_eq {a b : Int} (ha : zi64 a) (hb : zi64 b) : Int64.ofInt a = Int64.ofInt b ↔ a = b := by rw [← Int64.toInt_inj, zt64 ha, zt64 hb]
theorem zq_lt {a b : Int} (ha : zi64 a) (hb : zi64 b) : Int64.ofInt a < Int64.ofInt b ↔ a < b := by rw [Int64.lt_iff_toInt_lt, zt64 ha, zt64 hb]
theorem zi0 : zi32 0 := by unfold zi32; omega
theorem zo_0 : Int32.ofInt 0 = 0 := by decide
theorem zo_div {a b : Int} (ha : zi32 a) (hb : zi32 b) : Int32.ofInt a / Int32.ofInt b = Int32.ofInt (zw (a.tdiv b)) := by
  rw [zw_of, ← Int32.toInt_inj, Int32.toInt_div, zt32 ha, zt32 hb, Int32.toInt_ofInt]
theorem zo_tmod_in {a b : Int} (ha : zi32 a) (hb : b ≠ 0) : zi32 (a.tmod b) := by
  have h1 := Int.natAbs_tmod a b
  have h2 : a.natAbs % b.natAbs ≤ a.natAbs := Nat.mod_le _ _
  have h3 : 0 ≤ a → 0 ≤ a.tmod b := Int.tmod_nonneg b
  have h4 : 0 ≤ -a → 0 ≤ (-a).tmod b := Int.tmod_nonneg b
  rw [Int.neg_tmod] at h4
  unfold zi32 at *
  omega
theorem zo_rem {a b : Int} (ha : zi32 a) (hb : zi32 b) (h0 : b ≠ 0) : Int32.ofInt a - Int32.ofInt a / Int32.ofInt b * Int32.ofInt b = Int32.ofInt (a.tmod b) := by
  rw [zo_div ha hb, zw_of, ← Int32.ofInt_mul, ← Int32.ofInt_sub]
  congr 1
  have := Int.tmod_add_mul_tdiv a b
  have h2 : b * a.tdiv b = a.tdiv b * b := Int.mul_comm _ _
  omega
theorem zo_i2l {a : Int} (ha : zi32 a) : (Int32.ofInt a).toInt64 = Int64.ofInt a := by
  have h : zi64 a := by unfold zi32 at ha; unfold zi64; omega
  rw [← Int64.toInt_inj, Int32.toInt_toInt64, zt32 ha, zt64 h]
theorem zo_l2i (a : Int) : (Int64.ofInt a).toInt32 = Int32.ofInt (zw a) := by rw [zw_of, Int64.toInt32_ofInt]
theorem zo_i2b {a : Int} (ha : zi32 a) : (Int32.ofInt a).toInt8.toInt32 = Int32.ofInt (zb a) := by
  rw [← Int32.toInt_inj, Int8.toInt_toInt32, Int32.toInt_toInt8, zt32 ha, zt32 (zb_in a)]
  unfold zb
  simp only [Int.bmod]
  omega
theorem zo_cmp {a b : Int} (ha : zi64 a) (hb : zi64 b) : lg_cmp (Int64.ofInt a) (Int64.ofInt b) = Int32.ofInt (zcmp a b) := by
  unfold lg_cmp zcmp
  simp only [gt_iff_lt, zq_lt hb ha, zq_eq ha hb]
  by_cases h1 : a < b
  · rw [if_neg (by omega), if_neg (by omega), if_pos h1]; decide
  · by_cases h2 : a = b
    · rw [if_neg (by omega), if_pos h2, if_neg h1, if_pos h2]; decide
    · rw [if_pos (by omega), if_neg h1, if_neg h2]; decide
theorem zcmp_in (a b : Int) : zi32 (zcmp a b) := by unfold zi32 zcmp; split <;> (try split) <;> omega
theorem zo_nat {j : Int} (hj : zi32 j) : (Int32.ofInt j).toNatClampNeg = j.toNat := by rw [← Int32.toNat_toInt, zt32 hj]
theorem zo_in {j : Int} {n : Nat} (hj : zi32 j) (h0 : 0 ≤ j) (hn : j < n) : vp_in (Int32.ofInt j) n := by
  unfold vp_in
  rw [zo_nat hj, ← zo_0, zo_lt hj zi0]
  omega
theorem zo_nn {j : Int} (hj : zi32 j) (h0 : 0 ≤ j) : ¬ Int32.ofInt j < 0 := by
  rw [← zo_0, zo_lt hj zi0]; omega
theorem zo_byte {a : Int} (ha : zi32 a) : vp_nar .byte (Int32.ofInt a) = Int32.ofInt (zb a) := zo_i2b ha
