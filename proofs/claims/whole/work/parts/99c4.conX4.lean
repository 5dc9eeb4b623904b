/-! a constructor -/
theorem zcX4_init_0 : decode cX4_init 0 = .ok (.aload_n 0, 1) := by decide +kernel
theorem zcX4_init_1 : decode cX4_init 1 = .ok (.invokespecial 3, 3) := by decide +kernel
theorem zcX4_init_4 : decode cX4_init 4 = .ok (.aload_n 0, 1) := by decide +kernel
theorem zcX4_init_5 : decode cX4_init 5 = .ok (.bipush 25, 2) := by decide +kernel
theorem zcX4_init_7 : decode cX4_init 7 = .ok (.newarray .int, 2) := by decide +kernel
theorem zcX4_init_9 : decode cX4_init 9 = .ok (.putfield 9, 3) := by decide +kernel
theorem zcX4_init_12 : decode cX4_init 12 = .ok (.aload_n 0, 1) := by decide +kernel
theorem zcX4_init_13 : decode cX4_init 13 = .ok (.bipush 25, 2) := by decide +kernel
theorem zcX4_init_15 : decode cX4_init 15 = .ok (.newarray .int, 2) := by decide +kernel
theorem zcX4_init_17 : decode cX4_init 17 = .ok (.putfield 15, 3) := by decide +kernel
theorem zcX4_init_20 : decode cX4_init 20 = .ok (.aload_n 0, 1) := by decide +kernel
theorem zcX4_init_21 : decode cX4_init 21 = .ok (.bipush 25, 2) := by decide +kernel
theorem zcX4_init_23 : decode cX4_init 23 = .ok (.newarray .int, 2) := by decide +kernel
theorem zcX4_init_25 : decode cX4_init 25 = .ok (.putfield 18, 3) := by decide +kernel
theorem zcX4_init_28 : decode cX4_init 28 = .ok (.aload_n 0, 1) := by decide +kernel
theorem zcX4_init_29 : decode cX4_init 29 = .ok (.bipush 25, 2) := by decide +kernel
theorem zcX4_init_31 : decode cX4_init 31 = .ok (.newarray .int, 2) := by decide +kernel
theorem zcX4_init_33 : decode cX4_init 33 = .ok (.putfield 21, 3) := by decide +kernel
theorem zcX4_init_36 : decode cX4_init 36 = .ok (.return_, 1) := by decide +kernel
theorem zg_X4 : GoodIn zwG (.code yX4_init cX4_init 1 none :: zwG) := fun w hw => zg_of (by rcases List.mem_cons.mp hw with rfl | hw; exact zat_in (p := 182) (by decide +kernel); exact hw)
set_option maxHeartbeats 40000000 in
set_option maxRecDepth 100000 in
theorem zi_X4 (l : Launch) (dC : Nat → ClassId) (dI : Nat → Nat → Nat) (cI cB cL : ClassId) (h0 : Nat) (sz : Nat) : Met l yX4_init (.code yX4_init cX4_init 1 none :: zwG) ({ frames := 1, cells := 4, slots := 100, locals := 12 }) (va_Pc [.ref h0] (fun U => U.heap.size = sz ∧ va_P (dC, dI) vwCl [(h0, .inr (4, [.null, .null, .null, .null]))] U.heap ∧ va_K (dC, dI) vwCl [(cI, .int), (cB, .byte), (cL, .long)] U ∧ va_D (fun _ => True) [(h0, .inr (4, [.null, .null, .null, .null]))])) (va_Qv (fun _ : Unit => True) (fun _ t => ∃ (q7 q15 q23 q31 : Nat), va_P (dC, dI) vwCl [(h0, .inr (4, [.ref q7, .ref q15, .ref q23, .ref q31])), (q7, .inl (cI, 25, .inl (fun _ => 0))), (q15, .inl (cI, 25, .inl (fun _ => 0))), (q23, .inl (cI, 25, .inl (fun _ => 0))), (q31, .inl (cI, 25, .inl (fun _ => 0)))] t.heap ∧ va_K (dC, dI) vwCl [(cI, .int), (cB, .byte), (cL, .long)] t ∧ va_D (va_A [(h0, .inr (4, [.null, .null, .null, .null]))] sz) [(h0, .inr (4, [.ref q7, .ref q15, .ref q23, .ref q31])), (q7, .inl (cI, 25, .inl (fun _ => 0))), (q15, .inl (cI, 25, .inl (fun _ => 0))), (q23, .inl (cI, 25, .inl (fun _ => 0))), (q31, .inl (cI, 25, .inl (fun _ => 0)))]) (va_A [(h0, .inr (4, [.null, .null, .null, .null]))] sz)) 4 100 (va_A [(h0, .inr (4, [.null, .null, .null, .null]))] sz) := by
  refine Met.ofW (cc := cX4_init) (maxL := 1) (ret := none) (by decide) rfl ?_
  intro p e s m args below meth c s₁ B hml hv
  obtain ⟨rfl, hsz, hP, hK, hD0⟩ := hv
  have hx := B.exec
  have hb := B.bytes
  have hr := B.returns
  have hts : ∀ w ∈ zwG, w.before _ s = true := fun w hw => atoms_spec (ws := .code yX4_init cX4_init 1 none :: zwG) B.pre w (List.mem_cons_of_mem _ hw)
  have hown : s.vm.findClass RX4 = some m.cls := findClass_of_methodNamed B.named
  have hlocks := B.notSynchronized
  have hin : meth.name = "<init>" := (name_of_methodNamed B.named B.method).1
  subst hsz
  have hD := hD0.self (sz := s.heap.size)
  generalize hAe : va_A [(h0, .inr (4, [.null, .null, .null, .null]))] s.heap.size = A at hD ⊢
  have hA : ∀ q : Nat, s.heap.size ≤ q → A q := fun q h => by rw [← hAe]; exact Or.inr h
  have hS : va_S A s.heap s.heap [] := va_S.rf
  have hl := lv_entry ([.ref h0]) (n := 1) (Nat.le_of_ble_eq_true rfl)
  rw [lg_entry_eq]
  generalize (lg_sl ([.ref h0]) ++ List.replicate (1 - (lg_sl ([.ref h0])).length) Slot.unset).toArray = ls at hl ⊢
  have hl : lv_has ls 1 [(0, .ref h0)] := hl
  refine lv_aload_n hx hb zcX4_init_0 rfl (lv_at hl 0 rfl) ?_
  refine W.objInit hx hb hown (hts _ (zat_in (w := .methodLink RX4 3 Lib.objectInit) (p := 183) (by decide +kernel))) (hts _ (zat_in (w := .instanceMethod Lib.objectInit) (p := 86) (by decide +kernel))) (hts _ (zat_in (w := .code Lib.objectInit ⟨#[0xb1]⟩ 1 none) (p := 87) (by decide +kernel))) rfl (by rw [hml]; exact hl.1) rfl zcX4_init_1 (Nat.le_of_ble_eq_true rfl) (Nat.le_of_ble_eq_true rfl) ?_
  refine W.eq (g2 := F0 m 4 ls []) rfl ?_
  refine lv_aload_n hx hb zcX4_init_4 rfl (lv_at hl 0 rfl) ?_
  refine lv_bipush (v := 25) hx hb zcX4_init_5 (by decide) ?_
  refine zc_new_int (N := 25) hx hb (hts _ (zat_in (w := .arrayClass .int) (p := 139) (by decide +kernel))) hK hP hD hS hA (by decide) (by decide) (Nat.le_of_ble_eq_true rfl) (Nat.le_of_ble_eq_true rfl) (Nat.le_of_ble_eq_true rfl) zcX4_init_7 (fun q7 H hP hD hS => ?_)
  have hP : va_P (dC, dI) vwCl [(h0, .inr (4, [.null, .null, .null, .null])), (q7, .inl (cI, 25, .inl (fun _ => 0)))] H := hP
  have hD : va_D A [(h0, .inr (4, [.null, .null, .null, .null])), (q7, .inl (cI, 25, .inl (fun _ => 0)))] := hD
  refine W.widen (k := 1) (n := 25) (by omega) (by omega) ?_
  refine va_putF (D := (dC, dI)) (ci := 4) (v := .ref q7) (ty := .array .int) (C := RX4) (T := TX4) (N := 4) hx hb hts (zu_in 4 (by decide)) tyX4 tyX4_ok nmX4 hown hK hP hD hS 0 rfl rfl 0 (by decide) (hts _ (zat_in (w := .fieldLink RX4 9 "FusionRules$SquareTables" "inverse" "[I") (p := 184) (by decide +kernel))) (fun _ h9 => h9) rfl hin rfl (by decide +kernel) rfl rfl (Nat.le_of_ble_eq_true rfl) zcX4_init_9 (fun H locs hP hD hS => ?_)
  have hP : va_P (dC, dI) vwCl [(h0, .inr (4, [.ref q7, .null, .null, .null])), (q7, .inl (cI, 25, .inl (fun _ => 0)))] H := hP
  have hD : va_D A [(h0, .inr (4, [.ref q7, .null, .null, .null])), (q7, .inl (cI, 25, .inl (fun _ => 0)))] := hD
  refine lv_aload_n hx hb zcX4_init_12 rfl (lv_at hl 0 rfl) ?_
  refine lv_bipush (v := 25) hx hb zcX4_init_13 (by decide) ?_
  refine zc_new_int (N := 25) hx hb (hts _ (zat_in (w := .arrayClass .int) (p := 139) (by decide +kernel))) hK hP hD hS hA (by decide) (by decide) (Nat.le_of_ble_eq_true rfl) (Nat.le_of_ble_eq_true rfl) (Nat.le_of_ble_eq_true rfl) zcX4_init_15 (fun q15 H hP hD hS => ?_)
  have hP : va_P (dC, dI) vwCl [(h0, .inr (4, [.ref q7, .null, .null, .null])), (q7, .inl (cI, 25, .inl (fun _ => 0))), (q15, .inl (cI, 25, .inl (fun _ => 0)))] H := hP
  have hD : va_D A [(h0, .inr (4, [.ref q7, .null, .null, .null])), (q7, .inl (cI, 25, .inl (fun _ => 0))), (q15, .inl (cI, 25, .inl (fun _ => 0)))] := hD
  refine W.widen (k := 2) (n := 50) (by omega) (by omega) ?_
  refine va_putF (D := (dC, dI)) (ci := 4) (v := .ref q15) (ty := .array .int) (C := RX4) (T := TX4) (N := 4) hx hb hts (zu_in 4 (by decide)) tyX4 tyX4_ok nmX4 hown hK hP hD hS 0 rfl rfl 1 (by decide) (hts _ (zat_in (w := .fieldLink RX4 15 "FusionRules$SquareTables" "product" "[I") (p := 186) (by decide +kernel))) (fun _ h9 => h9) rfl hin rfl (by decide +kernel) rfl rfl (Nat.le_of_ble_eq_true rfl) zcX4_init_17 (fun H locs hP hD hS => ?_)
  have hP : va_P (dC, dI) vwCl [(h0, .inr (4, [.ref q7, .ref q15, .null, .null])), (q7, .inl (cI, 25, .inl (fun _ => 0))), (q15, .inl (cI, 25, .inl (fun _ => 0)))] H := hP
  have hD : va_D A [(h0, .inr (4, [.ref q7, .ref q15, .null, .null])), (q7, .inl (cI, 25, .inl (fun _ => 0))), (q15, .inl (cI, 25, .inl (fun _ => 0)))] := hD
  refine lv_aload_n hx hb zcX4_init_20 rfl (lv_at hl 0 rfl) ?_
  refine lv_bipush (v := 25) hx hb zcX4_init_21 (by decide) ?_
  refine zc_new_int (N := 25) hx hb (hts _ (zat_in (w := .arrayClass .int) (p := 139) (by decide +kernel))) hK hP hD hS hA (by decide) (by decide) (Nat.le_of_ble_eq_true rfl) (Nat.le_of_ble_eq_true rfl) (Nat.le_of_ble_eq_true rfl) zcX4_init_23 (fun q23 H hP hD hS => ?_)
  have hP : va_P (dC, dI) vwCl [(h0, .inr (4, [.ref q7, .ref q15, .null, .null])), (q7, .inl (cI, 25, .inl (fun _ => 0))), (q15, .inl (cI, 25, .inl (fun _ => 0))), (q23, .inl (cI, 25, .inl (fun _ => 0)))] H := hP
  have hD : va_D A [(h0, .inr (4, [.ref q7, .ref q15, .null, .null])), (q7, .inl (cI, 25, .inl (fun _ => 0))), (q15, .inl (cI, 25, .inl (fun _ => 0))), (q23, .inl (cI, 25, .inl (fun _ => 0)))] := hD
  refine W.widen (k := 3) (n := 75) (by omega) (by omega) ?_
  refine va_putF (D := (dC, dI)) (ci := 4) (v := .ref q23) (ty := .array .int) (C := RX4) (T := TX4) (N := 4) hx hb hts (zu_in 4 (by decide)) tyX4 tyX4_ok nmX4 hown hK hP hD hS 0 rfl rfl 2 (by decide) (hts _ (zat_in (w := .fieldLink RX4 18 "FusionRules$SquareTables" "work" "[I") (p := 188) (by decide +kernel))) (fun _ h9 => h9) rfl hin rfl (by decide +kernel) rfl rfl (Nat.le_of_ble_eq_true rfl) zcX4_init_25 (fun H locs hP hD hS => ?_)
  have hP : va_P (dC, dI) vwCl [(h0, .inr (4, [.ref q7, .ref q15, .ref q23, .null])), (q7, .inl (cI, 25, .inl (fun _ => 0))), (q15, .inl (cI, 25, .inl (fun _ => 0))), (q23, .inl (cI, 25, .inl (fun _ => 0)))] H := hP
  have hD : va_D A [(h0, .inr (4, [.ref q7, .ref q15, .ref q23, .null])), (q7, .inl (cI, 25, .inl (fun _ => 0))), (q15, .inl (cI, 25, .inl (fun _ => 0))), (q23, .inl (cI, 25, .inl (fun _ => 0)))] := hD
  refine lv_aload_n hx hb zcX4_init_28 rfl (lv_at hl 0 rfl) ?_
  refine lv_bipush (v := 25) hx hb zcX4_init_29 (by decide) ?_
  refine zc_new_int (N := 25) hx hb (hts _ (zat_in (w := .arrayClass .int) (p := 139) (by decide +kernel))) hK hP hD hS hA (by decide) (by decide) (Nat.le_of_ble_eq_true rfl) (Nat.le_of_ble_eq_true rfl) (Nat.le_of_ble_eq_true rfl) zcX4_init_31 (fun q31 H hP hD hS => ?_)
  have hP : va_P (dC, dI) vwCl [(h0, .inr (4, [.ref q7, .ref q15, .ref q23, .null])), (q7, .inl (cI, 25, .inl (fun _ => 0))), (q15, .inl (cI, 25, .inl (fun _ => 0))), (q23, .inl (cI, 25, .inl (fun _ => 0))), (q31, .inl (cI, 25, .inl (fun _ => 0)))] H := hP
  have hD : va_D A [(h0, .inr (4, [.ref q7, .ref q15, .ref q23, .null])), (q7, .inl (cI, 25, .inl (fun _ => 0))), (q15, .inl (cI, 25, .inl (fun _ => 0))), (q23, .inl (cI, 25, .inl (fun _ => 0))), (q31, .inl (cI, 25, .inl (fun _ => 0)))] := hD
  refine W.widen (k := 4) (n := 100) (by omega) (by omega) ?_
  refine va_putF (D := (dC, dI)) (ci := 4) (v := .ref q31) (ty := .array .int) (C := RX4) (T := TX4) (N := 4) hx hb hts (zu_in 4 (by decide)) tyX4 tyX4_ok nmX4 hown hK hP hD hS 0 rfl rfl 3 (by decide) (hts _ (zat_in (w := .fieldLink RX4 21 "FusionRules$SquareTables" "cube" "[I") (p := 189) (by decide +kernel))) (fun _ h9 => h9) rfl hin rfl (by decide +kernel) rfl rfl (Nat.le_of_ble_eq_true rfl) zcX4_init_33 (fun H locs hP hD hS => ?_)
  have hP : va_P (dC, dI) vwCl [(h0, .inr (4, [.ref q7, .ref q15, .ref q23, .ref q31])), (q7, .inl (cI, 25, .inl (fun _ => 0))), (q15, .inl (cI, 25, .inl (fun _ => 0))), (q23, .inl (cI, 25, .inl (fun _ => 0))), (q31, .inl (cI, 25, .inl (fun _ => 0)))] H := hP
  have hD : va_D A [(h0, .inr (4, [.ref q7, .ref q15, .ref q23, .ref q31])), (q7, .inl (cI, 25, .inl (fun _ => 0))), (q15, .inl (cI, 25, .inl (fun _ => 0))), (q23, .inl (cI, 25, .inl (fun _ => 0))), (q31, .inl (cI, 25, .inl (fun _ => 0)))] := hD
  exact W.vret hx hb hr (fun t ht hW => ⟨⟨(), rfl, trivial, q7, q15, q23, q31, by rw [ht]; exact hP, va_K.moved hW.alike hK, hD⟩, hS.F ht⟩) hS.2.2 zcX4_init_36
