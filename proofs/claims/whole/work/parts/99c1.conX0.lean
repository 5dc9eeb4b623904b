/-! a constructor -/
theorem zcX0_init_0 : decode cX0_init 0 = .ok (.aload_n 0, 1) := by decide +kernel
theorem zcX0_init_1 : decode cX0_init 1 = .ok (.invokespecial 3, 3) := by decide +kernel
theorem zcX0_init_4 : decode cX0_init 4 = .ok (.aload_n 0, 1) := by decide +kernel
theorem zcX0_init_5 : decode cX0_init 5 = .ok (.iconst 0, 1) := by decide +kernel
theorem zcX0_init_6 : decode cX0_init 6 = .ok (.putfield 9, 3) := by decide +kernel
theorem zcX0_init_9 : decode cX0_init 9 = .ok (.aload_n 0, 1) := by decide +kernel
theorem zcX0_init_10 : decode cX0_init 10 = .ok (.bipush 25, 2) := by decide +kernel
theorem zcX0_init_12 : decode cX0_init 12 = .ok (.newarray .int, 2) := by decide +kernel
theorem zcX0_init_14 : decode cX0_init 14 = .ok (.putfield 15, 3) := by decide +kernel
theorem zcX0_init_17 : decode cX0_init 17 = .ok (.aload_n 0, 1) := by decide +kernel
theorem zcX0_init_18 : decode cX0_init 18 = .ok (.iconst 5, 1) := by decide +kernel
theorem zcX0_init_19 : decode cX0_init 19 = .ok (.newarray .int, 2) := by decide +kernel
theorem zcX0_init_21 : decode cX0_init 21 = .ok (.putfield 19, 3) := by decide +kernel
theorem zcX0_init_24 : decode cX0_init 24 = .ok (.aload_n 0, 1) := by decide +kernel
theorem zcX0_init_25 : decode cX0_init 25 = .ok (.iconst 5, 1) := by decide +kernel
theorem zcX0_init_26 : decode cX0_init 26 = .ok (.newarray .int, 2) := by decide +kernel
theorem zcX0_init_28 : decode cX0_init 28 = .ok (.putfield 22, 3) := by decide +kernel
theorem zcX0_init_31 : decode cX0_init 31 = .ok (.aload_n 0, 1) := by decide +kernel
theorem zcX0_init_32 : decode cX0_init 32 = .ok (.bipush 125, 2) := by decide +kernel
theorem zcX0_init_34 : decode cX0_init 34 = .ok (.newarray .int, 2) := by decide +kernel
theorem zcX0_init_36 : decode cX0_init 36 = .ok (.putfield 25, 3) := by decide +kernel
theorem zcX0_init_39 : decode cX0_init 39 = .ok (.return_, 1) := by decide +kernel
theorem zg_X0 : GoodIn zwG (.code yX0_init cX0_init 1 none :: zwG) := fun w hw => zg_of (by rcases List.mem_cons.mp hw with rfl | hw; exact zat_in (p := 159) (by decide +kernel); exact hw)
set_option maxHeartbeats 40000000 in
set_option maxRecDepth 100000 in
theorem zi_X0 (l : Launch) (dC : Nat → ClassId) (dI : Nat → Nat → Nat) (cI cB cL : ClassId) (h0 : Nat) (sz : Nat) : Met l yX0_init (.code yX0_init cX0_init 1 none :: zwG) ({ frames := 1, cells := 4, slots := 160, locals := 12 }) (va_Pc [.ref h0] (fun U => U.heap.size = sz ∧ va_P (dC, dI) vwCl [(h0, .inr (0, [.int 0, .null, .null, .null, .null]))] U.heap ∧ va_K (dC, dI) vwCl [(cI, .int), (cB, .byte), (cL, .long)] U ∧ va_D (fun _ => True) [(h0, .inr (0, [.int 0, .null, .null, .null, .null]))])) (va_Qv (fun _ : Unit => True) (fun _ t => ∃ (q12 q19 q26 q34 : Nat), va_P (dC, dI) vwCl [(h0, .inr (0, [.int 0, .ref q12, .ref q19, .ref q26, .ref q34])), (q12, .inl (cI, 25, .inl (fun _ => 0))), (q19, .inl (cI, 5, .inl (fun _ => 0))), (q26, .inl (cI, 5, .inl (fun _ => 0))), (q34, .inl (cI, 125, .inl (fun _ => 0)))] t.heap ∧ va_K (dC, dI) vwCl [(cI, .int), (cB, .byte), (cL, .long)] t ∧ va_D (va_A [(h0, .inr (0, [.int 0, .null, .null, .null, .null]))] sz) [(h0, .inr (0, [.int 0, .ref q12, .ref q19, .ref q26, .ref q34])), (q12, .inl (cI, 25, .inl (fun _ => 0))), (q19, .inl (cI, 5, .inl (fun _ => 0))), (q26, .inl (cI, 5, .inl (fun _ => 0))), (q34, .inl (cI, 125, .inl (fun _ => 0)))]) (va_A [(h0, .inr (0, [.int 0, .null, .null, .null, .null]))] sz)) 4 160 (va_A [(h0, .inr (0, [.int 0, .null, .null, .null, .null]))] sz) := by
  refine Met.ofW (cc := cX0_init) (maxL := 1) (ret := none) (by decide) rfl ?_
  intro p e s m args below meth c s₁ B hml hv
  obtain ⟨rfl, hsz, hP, hK, hD0⟩ := hv
  have hx := B.exec
  have hb := B.bytes
  have hr := B.returns
  have hts : ∀ w ∈ zwG, w.before _ s = true := fun w hw => atoms_spec (ws := .code yX0_init cX0_init 1 none :: zwG) B.pre w (List.mem_cons_of_mem _ hw)
  have hown : s.vm.findClass RX0 = some m.cls := findClass_of_methodNamed B.named
  have hlocks := B.notSynchronized
  have hin : meth.name = "<init>" := (name_of_methodNamed B.named B.method).1
  subst hsz
  have hD := hD0.self (sz := s.heap.size)
  generalize hAe : va_A [(h0, .inr (0, [.int 0, .null, .null, .null, .null]))] s.heap.size = A at hD ⊢
  have hA : ∀ q : Nat, s.heap.size ≤ q → A q := fun q h => by rw [← hAe]; exact Or.inr h
  have hS : va_S A s.heap s.heap [] := va_S.rf
  have hl := lv_entry ([.ref h0]) (n := 1) (Nat.le_of_ble_eq_true rfl)
  rw [lg_entry_eq]
  generalize (lg_sl ([.ref h0]) ++ List.replicate (1 - (lg_sl ([.ref h0])).length) Slot.unset).toArray = ls at hl ⊢
  have hl : lv_has ls 1 [(0, .ref h0)] := hl
  refine lv_aload_n hx hb zcX0_init_0 rfl (lv_at hl 0 rfl) ?_
  refine W.objInit hx hb hown (hts _ (zat_in (w := .methodLink RX0 3 Lib.objectInit) (p := 160) (by decide +kernel))) (hts _ (zat_in (w := .instanceMethod Lib.objectInit) (p := 86) (by decide +kernel))) (hts _ (zat_in (w := .code Lib.objectInit ⟨#[0xb1]⟩ 1 none) (p := 87) (by decide +kernel))) rfl (by rw [hml]; exact hl.1) rfl zcX0_init_1 (Nat.le_of_ble_eq_true rfl) (Nat.le_of_ble_eq_true rfl) ?_
  refine W.eq (g2 := F0 m 4 ls []) rfl ?_
  refine lv_aload_n hx hb zcX0_init_4 rfl (lv_at hl 0 rfl) ?_
  refine lv_iconst (v := 0) hx hb zcX0_init_5 (by decide) ?_
  refine va_put (D := (dC, dI)) (ci := 0) (v := .int 0) (ty := .int) (C := RX0) (T := TX0) (N := 5) hx hb hts (zu_in 0 (by decide)) tyX0 tyX0_ok nmX0 hown hK hP hD hS 0 rfl rfl 0 (by decide) (hts _ (zat_in (w := .fieldLink RX0 9 "FusionRules$Characters" "found" "I") (p := 161) (by decide +kernel))) (fun _ h9 => h9) rfl (by decide +kernel) rfl rfl (Nat.le_of_ble_eq_true rfl) zcX0_init_6 (fun H locs hP hD hS => ?_)
  have hP : va_P (dC, dI) vwCl [(h0, .inr (0, [.int 0, .null, .null, .null, .null]))] H := hP
  have hD : va_D A [(h0, .inr (0, [.int 0, .null, .null, .null, .null]))] := hD
  refine lv_aload_n hx hb zcX0_init_9 rfl (lv_at hl 0 rfl) ?_
  refine lv_bipush (v := 25) hx hb zcX0_init_10 (by decide) ?_
  refine zc_new_int (N := 25) hx hb (hts _ (zat_in (w := .arrayClass .int) (p := 139) (by decide +kernel))) hK hP hD hS hA (by decide) (by decide) (Nat.le_of_ble_eq_true rfl) (Nat.le_of_ble_eq_true rfl) (Nat.le_of_ble_eq_true rfl) zcX0_init_12 (fun q12 H hP hD hS => ?_)
  have hP : va_P (dC, dI) vwCl [(h0, .inr (0, [.int 0, .null, .null, .null, .null])), (q12, .inl (cI, 25, .inl (fun _ => 0)))] H := hP
  have hD : va_D A [(h0, .inr (0, [.int 0, .null, .null, .null, .null])), (q12, .inl (cI, 25, .inl (fun _ => 0)))] := hD
  refine W.widen (k := 1) (n := 25) (by omega) (by omega) ?_
  refine va_putF (D := (dC, dI)) (ci := 0) (v := .ref q12) (ty := .array .int) (C := RX0) (T := TX0) (N := 5) hx hb hts (zu_in 0 (by decide)) tyX0 tyX0_ok nmX0 hown hK hP hD hS 0 rfl rfl 1 (by decide) (hts _ (zat_in (w := .fieldLink RX0 15 "FusionRules$Characters" "rows" "[I") (p := 163) (by decide +kernel))) (fun _ h9 => h9) rfl hin rfl (by decide +kernel) rfl rfl (Nat.le_of_ble_eq_true rfl) zcX0_init_14 (fun H locs hP hD hS => ?_)
  have hP : va_P (dC, dI) vwCl [(h0, .inr (0, [.int 0, .ref q12, .null, .null, .null])), (q12, .inl (cI, 25, .inl (fun _ => 0)))] H := hP
  have hD : va_D A [(h0, .inr (0, [.int 0, .ref q12, .null, .null, .null])), (q12, .inl (cI, 25, .inl (fun _ => 0)))] := hD
  refine lv_aload_n hx hb zcX0_init_17 rfl (lv_at hl 0 rfl) ?_
  refine lv_iconst (v := 5) hx hb zcX0_init_18 (by decide) ?_
  refine zc_new_int (N := 5) hx hb (hts _ (zat_in (w := .arrayClass .int) (p := 139) (by decide +kernel))) hK hP hD hS hA (by decide) (by decide) (Nat.le_of_ble_eq_true rfl) (Nat.le_of_ble_eq_true rfl) (Nat.le_of_ble_eq_true rfl) zcX0_init_19 (fun q19 H hP hD hS => ?_)
  have hP : va_P (dC, dI) vwCl [(h0, .inr (0, [.int 0, .ref q12, .null, .null, .null])), (q12, .inl (cI, 25, .inl (fun _ => 0))), (q19, .inl (cI, 5, .inl (fun _ => 0)))] H := hP
  have hD : va_D A [(h0, .inr (0, [.int 0, .ref q12, .null, .null, .null])), (q12, .inl (cI, 25, .inl (fun _ => 0))), (q19, .inl (cI, 5, .inl (fun _ => 0)))] := hD
  refine W.widen (k := 2) (n := 30) (by omega) (by omega) ?_
  refine va_putF (D := (dC, dI)) (ci := 0) (v := .ref q19) (ty := .array .int) (C := RX0) (T := TX0) (N := 5) hx hb hts (zu_in 0 (by decide)) tyX0 tyX0_ok nmX0 hown hK hP hD hS 0 rfl rfl 2 (by decide) (hts _ (zat_in (w := .fieldLink RX0 19 "FusionRules$Characters" "chosen" "[I") (p := 164) (by decide +kernel))) (fun _ h9 => h9) rfl hin rfl (by decide +kernel) rfl rfl (Nat.le_of_ble_eq_true rfl) zcX0_init_21 (fun H locs hP hD hS => ?_)
  have hP : va_P (dC, dI) vwCl [(h0, .inr (0, [.int 0, .ref q12, .ref q19, .null, .null])), (q12, .inl (cI, 25, .inl (fun _ => 0))), (q19, .inl (cI, 5, .inl (fun _ => 0)))] H := hP
  have hD : va_D A [(h0, .inr (0, [.int 0, .ref q12, .ref q19, .null, .null])), (q12, .inl (cI, 25, .inl (fun _ => 0))), (q19, .inl (cI, 5, .inl (fun _ => 0)))] := hD
  refine lv_aload_n hx hb zcX0_init_24 rfl (lv_at hl 0 rfl) ?_
  refine lv_iconst (v := 5) hx hb zcX0_init_25 (by decide) ?_
  refine zc_new_int (N := 5) hx hb (hts _ (zat_in (w := .arrayClass .int) (p := 139) (by decide +kernel))) hK hP hD hS hA (by decide) (by decide) (Nat.le_of_ble_eq_true rfl) (Nat.le_of_ble_eq_true rfl) (Nat.le_of_ble_eq_true rfl) zcX0_init_26 (fun q26 H hP hD hS => ?_)
  have hP : va_P (dC, dI) vwCl [(h0, .inr (0, [.int 0, .ref q12, .ref q19, .null, .null])), (q12, .inl (cI, 25, .inl (fun _ => 0))), (q19, .inl (cI, 5, .inl (fun _ => 0))), (q26, .inl (cI, 5, .inl (fun _ => 0)))] H := hP
  have hD : va_D A [(h0, .inr (0, [.int 0, .ref q12, .ref q19, .null, .null])), (q12, .inl (cI, 25, .inl (fun _ => 0))), (q19, .inl (cI, 5, .inl (fun _ => 0))), (q26, .inl (cI, 5, .inl (fun _ => 0)))] := hD
  refine W.widen (k := 3) (n := 35) (by omega) (by omega) ?_
  refine va_putF (D := (dC, dI)) (ci := 0) (v := .ref q26) (ty := .array .int) (C := RX0) (T := TX0) (N := 5) hx hb hts (zu_in 0 (by decide)) tyX0 tyX0_ok nmX0 hown hK hP hD hS 0 rfl rfl 3 (by decide) (hts _ (zat_in (w := .fieldLink RX0 22 "FusionRules$Characters" "equation" "[I") (p := 165) (by decide +kernel))) (fun _ h9 => h9) rfl hin rfl (by decide +kernel) rfl rfl (Nat.le_of_ble_eq_true rfl) zcX0_init_28 (fun H locs hP hD hS => ?_)
  have hP : va_P (dC, dI) vwCl [(h0, .inr (0, [.int 0, .ref q12, .ref q19, .ref q26, .null])), (q12, .inl (cI, 25, .inl (fun _ => 0))), (q19, .inl (cI, 5, .inl (fun _ => 0))), (q26, .inl (cI, 5, .inl (fun _ => 0)))] H := hP
  have hD : va_D A [(h0, .inr (0, [.int 0, .ref q12, .ref q19, .ref q26, .null])), (q12, .inl (cI, 25, .inl (fun _ => 0))), (q19, .inl (cI, 5, .inl (fun _ => 0))), (q26, .inl (cI, 5, .inl (fun _ => 0)))] := hD
  refine lv_aload_n hx hb zcX0_init_31 rfl (lv_at hl 0 rfl) ?_
  refine lv_bipush (v := 125) hx hb zcX0_init_32 (by decide) ?_
  refine zc_new_int (N := 125) hx hb (hts _ (zat_in (w := .arrayClass .int) (p := 139) (by decide +kernel))) hK hP hD hS hA (by decide) (by decide) (Nat.le_of_ble_eq_true rfl) (Nat.le_of_ble_eq_true rfl) (Nat.le_of_ble_eq_true rfl) zcX0_init_34 (fun q34 H hP hD hS => ?_)
  have hP : va_P (dC, dI) vwCl [(h0, .inr (0, [.int 0, .ref q12, .ref q19, .ref q26, .null])), (q12, .inl (cI, 25, .inl (fun _ => 0))), (q19, .inl (cI, 5, .inl (fun _ => 0))), (q26, .inl (cI, 5, .inl (fun _ => 0))), (q34, .inl (cI, 125, .inl (fun _ => 0)))] H := hP
  have hD : va_D A [(h0, .inr (0, [.int 0, .ref q12, .ref q19, .ref q26, .null])), (q12, .inl (cI, 25, .inl (fun _ => 0))), (q19, .inl (cI, 5, .inl (fun _ => 0))), (q26, .inl (cI, 5, .inl (fun _ => 0))), (q34, .inl (cI, 125, .inl (fun _ => 0)))] := hD
  refine W.widen (k := 4) (n := 160) (by omega) (by omega) ?_
  refine va_putF (D := (dC, dI)) (ci := 0) (v := .ref q34) (ty := .array .int) (C := RX0) (T := TX0) (N := 5) hx hb hts (zu_in 0 (by decide)) tyX0 tyX0_ok nmX0 hown hK hP hD hS 0 rfl rfl 4 (by decide) (hts _ (zat_in (w := .fieldLink RX0 25 "FusionRules$Characters" "known" "[I") (p := 166) (by decide +kernel))) (fun _ h9 => h9) rfl hin rfl (by decide +kernel) rfl rfl (Nat.le_of_ble_eq_true rfl) zcX0_init_36 (fun H locs hP hD hS => ?_)
  have hP : va_P (dC, dI) vwCl [(h0, .inr (0, [.int 0, .ref q12, .ref q19, .ref q26, .ref q34])), (q12, .inl (cI, 25, .inl (fun _ => 0))), (q19, .inl (cI, 5, .inl (fun _ => 0))), (q26, .inl (cI, 5, .inl (fun _ => 0))), (q34, .inl (cI, 125, .inl (fun _ => 0)))] H := hP
  have hD : va_D A [(h0, .inr (0, [.int 0, .ref q12, .ref q19, .ref q26, .ref q34])), (q12, .inl (cI, 25, .inl (fun _ => 0))), (q19, .inl (cI, 5, .inl (fun _ => 0))), (q26, .inl (cI, 5, .inl (fun _ => 0))), (q34, .inl (cI, 125, .inl (fun _ => 0)))] := hD
  exact W.vret hx hb hr (fun t ht hW => ⟨⟨(), rfl, trivial, q12, q19, q26, q34, by rw [ht]; exact hP, va_K.moved hW.alike hK, hD⟩, hS.F ht⟩) hS.2.2 zcX0_init_39
