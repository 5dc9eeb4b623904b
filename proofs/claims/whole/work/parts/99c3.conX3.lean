/-! a constructor -/
theorem zcX3_init_0 : decode cX3_init 0 = .ok (.aload_n 0, 1) := by decide +kernel
theorem zcX3_init_1 : decode cX3_init 1 = .ok (.invokespecial 3, 3) := by decide +kernel
theorem zcX3_init_4 : decode cX3_init 4 = .ok (.aload_n 0, 1) := by decide +kernel
theorem zcX3_init_5 : decode cX3_init 5 = .ok (.bipush 60, 2) := by decide +kernel
theorem zcX3_init_7 : decode cX3_init 7 = .ok (.newarray .byte, 2) := by decide +kernel
theorem zcX3_init_9 : decode cX3_init 9 = .ok (.putfield 9, 3) := by decide +kernel
theorem zcX3_init_12 : decode cX3_init 12 = .ok (.aload_n 0, 1) := by decide +kernel
theorem zcX3_init_13 : decode cX3_init 13 = .ok (.iconst 0, 1) := by decide +kernel
theorem zcX3_init_14 : decode cX3_init 14 = .ok (.putfield 15, 3) := by decide +kernel
theorem zcX3_init_17 : decode cX3_init 17 = .ok (.aload_n 0, 1) := by decide +kernel
theorem zcX3_init_18 : decode cX3_init 18 = .ok (.iconst 5, 1) := by decide +kernel
theorem zcX3_init_19 : decode cX3_init 19 = .ok (.newarray .int, 2) := by decide +kernel
theorem zcX3_init_21 : decode cX3_init 21 = .ok (.putfield 19, 3) := by decide +kernel
theorem zcX3_init_24 : decode cX3_init 24 = .ok (.aload_n 0, 1) := by decide +kernel
theorem zcX3_init_25 : decode cX3_init 25 = .ok (.iconst 0, 1) := by decide +kernel
theorem zcX3_init_26 : decode cX3_init 26 = .ok (.putfield 23, 3) := by decide +kernel
theorem zcX3_init_29 : decode cX3_init 29 = .ok (.aload_n 0, 1) := by decide +kernel
theorem zcX3_init_30 : decode cX3_init 30 = .ok (.iconst 0, 1) := by decide +kernel
theorem zcX3_init_31 : decode cX3_init 31 = .ok (.putfield 26, 3) := by decide +kernel
theorem zcX3_init_34 : decode cX3_init 34 = .ok (.aload_n 0, 1) := by decide +kernel
theorem zcX3_init_35 : decode cX3_init 35 = .ok (.bipush 125, 2) := by decide +kernel
theorem zcX3_init_37 : decode cX3_init 37 = .ok (.newarray .int, 2) := by decide +kernel
theorem zcX3_init_39 : decode cX3_init 39 = .ok (.putfield 29, 3) := by decide +kernel
theorem zcX3_init_42 : decode cX3_init 42 = .ok (.return_, 1) := by decide +kernel
theorem zg_X3 : GoodIn zwG (.code yX3_init cX3_init 1 none :: zwG) := fun w hw => zg_of (by rcases List.mem_cons.mp hw with rfl | hw; exact zat_in (p := 203) (by decide +kernel); exact hw)
set_option maxHeartbeats 40000000 in
set_option maxRecDepth 100000 in
theorem zi_X3 (l : Launch) (dC : Nat → ClassId) (dI : Nat → Nat → Nat) (cI cB cL : ClassId) (h0 : Nat) (sz : Nat) : Met l yX3_init (.code yX3_init cX3_init 1 none :: zwG) ({ frames := 1, cells := 3, slots := 190, locals := 12 }) (va_Pc [.ref h0] (fun U => U.heap.size = sz ∧ va_P (dC, dI) vwCl [(h0, .inr (3, [.null, .int 0, .null, .int 0, .int 0, .null]))] U.heap ∧ va_K (dC, dI) vwCl [(cI, .int), (cB, .byte), (cL, .long)] U ∧ va_D (fun _ => True) [(h0, .inr (3, [.null, .int 0, .null, .int 0, .int 0, .null]))])) (va_Qv (fun _ : Unit => True) (fun _ t => ∃ (q7 q19 q37 : Nat), va_P (dC, dI) vwCl [(h0, .inr (3, [.ref q7, .int 0, .ref q19, .int 0, .int 0, .ref q37])), (q7, .inl (cB, 60, .inl (fun _ => 0))), (q19, .inl (cI, 5, .inl (fun _ => 0))), (q37, .inl (cI, 125, .inl (fun _ => 0)))] t.heap ∧ va_K (dC, dI) vwCl [(cI, .int), (cB, .byte), (cL, .long)] t ∧ va_D (va_A [(h0, .inr (3, [.null, .int 0, .null, .int 0, .int 0, .null]))] sz) [(h0, .inr (3, [.ref q7, .int 0, .ref q19, .int 0, .int 0, .ref q37])), (q7, .inl (cB, 60, .inl (fun _ => 0))), (q19, .inl (cI, 5, .inl (fun _ => 0))), (q37, .inl (cI, 125, .inl (fun _ => 0)))]) (va_A [(h0, .inr (3, [.null, .int 0, .null, .int 0, .int 0, .null]))] sz)) 3 190 (va_A [(h0, .inr (3, [.null, .int 0, .null, .int 0, .int 0, .null]))] sz) := by
  refine Met.ofW (cc := cX3_init) (maxL := 1) (ret := none) (by decide) rfl ?_
  intro p e s m args below meth c s₁ B hml hv
  obtain ⟨rfl, hsz, hP, hK, hD0⟩ := hv
  have hx := B.exec
  have hb := B.bytes
  have hr := B.returns
  have hts : ∀ w ∈ zwG, w.before _ s = true := fun w hw => atoms_spec (ws := .code yX3_init cX3_init 1 none :: zwG) B.pre w (List.mem_cons_of_mem _ hw)
  have hown : s.vm.findClass RX3 = some m.cls := findClass_of_methodNamed B.named
  have hlocks := B.notSynchronized
  have hin : meth.name = "<init>" := (name_of_methodNamed B.named B.method).1
  subst hsz
  have hD := hD0.self (sz := s.heap.size)
  generalize hAe : va_A [(h0, .inr (3, [.null, .int 0, .null, .int 0, .int 0, .null]))] s.heap.size = A at hD ⊢
  have hA : ∀ q : Nat, s.heap.size ≤ q → A q := fun q h => by rw [← hAe]; exact Or.inr h
  have hS : va_S A s.heap s.heap [] := va_S.rf
  have hl := lv_entry ([.ref h0]) (n := 1) (Nat.le_of_ble_eq_true rfl)
  rw [lg_entry_eq]
  generalize (lg_sl ([.ref h0]) ++ List.replicate (1 - (lg_sl ([.ref h0])).length) Slot.unset).toArray = ls at hl ⊢
  have hl : lv_has ls 1 [(0, .ref h0)] := hl
  refine lv_aload_n hx hb zcX3_init_0 rfl (lv_at hl 0 rfl) ?_
  refine W.objInit hx hb hown (hts _ (zat_in (w := .methodLink RX3 3 Lib.objectInit) (p := 204) (by decide +kernel))) (hts _ (zat_in (w := .instanceMethod Lib.objectInit) (p := 86) (by decide +kernel))) (hts _ (zat_in (w := .code Lib.objectInit ⟨#[0xb1]⟩ 1 none) (p := 87) (by decide +kernel))) rfl (by rw [hml]; exact hl.1) rfl zcX3_init_1 (Nat.le_of_ble_eq_true rfl) (Nat.le_of_ble_eq_true rfl) ?_
  refine W.eq (g2 := F0 m 4 ls []) rfl ?_
  refine lv_aload_n hx hb zcX3_init_4 rfl (lv_at hl 0 rfl) ?_
  refine lv_bipush (v := 60) hx hb zcX3_init_5 (by decide) ?_
  refine zc_new_byte (N := 60) hx hb (hts _ (zat_in (w := .arrayClass .byte) (p := 227) (by decide +kernel))) hK hP hD hS hA (by decide) (by decide) (Nat.le_of_ble_eq_true rfl) (Nat.le_of_ble_eq_true rfl) (Nat.le_of_ble_eq_true rfl) zcX3_init_7 (fun q7 H hP hD hS => ?_)
  have hP : va_P (dC, dI) vwCl [(h0, .inr (3, [.null, .int 0, .null, .int 0, .int 0, .null])), (q7, .inl (cB, 60, .inl (fun _ => 0)))] H := hP
  have hD : va_D A [(h0, .inr (3, [.null, .int 0, .null, .int 0, .int 0, .null])), (q7, .inl (cB, 60, .inl (fun _ => 0)))] := hD
  refine W.widen (k := 1) (n := 60) (by omega) (by omega) ?_
  refine va_putF (D := (dC, dI)) (ci := 3) (v := .ref q7) (ty := .array .byte) (C := RX3) (T := TX3) (N := 6) hx hb hts (zu_in 3 (by decide)) tyX3 tyX3_ok nmX3 hown hK hP hD hS 0 rfl rfl 0 (by decide) (hts _ (zat_in (w := .fieldLink RX3 9 "FusionRules$Reader" "bytes" "[B") (p := 205) (by decide +kernel))) (fun _ h9 => h9) rfl hin rfl (by decide +kernel) rfl rfl (Nat.le_of_ble_eq_true rfl) zcX3_init_9 (fun H locs hP hD hS => ?_)
  have hP : va_P (dC, dI) vwCl [(h0, .inr (3, [.ref q7, .int 0, .null, .int 0, .int 0, .null])), (q7, .inl (cB, 60, .inl (fun _ => 0)))] H := hP
  have hD : va_D A [(h0, .inr (3, [.ref q7, .int 0, .null, .int 0, .int 0, .null])), (q7, .inl (cB, 60, .inl (fun _ => 0)))] := hD
  refine lv_aload_n hx hb zcX3_init_12 rfl (lv_at hl 0 rfl) ?_
  refine lv_iconst (v := 0) hx hb zcX3_init_13 (by decide) ?_
  refine va_put (D := (dC, dI)) (ci := 3) (v := .int 0) (ty := .int) (C := RX3) (T := TX3) (N := 6) hx hb hts (zu_in 3 (by decide)) tyX3 tyX3_ok nmX3 hown hK hP hD hS 0 rfl rfl 1 (by decide) (hts _ (zat_in (w := .fieldLink RX3 15 "FusionRules$Reader" "length" "I") (p := 207) (by decide +kernel))) (fun _ h9 => h9) rfl (by decide +kernel) rfl rfl (Nat.le_of_ble_eq_true rfl) zcX3_init_14 (fun H locs hP hD hS => ?_)
  have hP : va_P (dC, dI) vwCl [(h0, .inr (3, [.ref q7, .int 0, .null, .int 0, .int 0, .null])), (q7, .inl (cB, 60, .inl (fun _ => 0)))] H := hP
  have hD : va_D A [(h0, .inr (3, [.ref q7, .int 0, .null, .int 0, .int 0, .null])), (q7, .inl (cB, 60, .inl (fun _ => 0)))] := hD
  refine lv_aload_n hx hb zcX3_init_17 rfl (lv_at hl 0 rfl) ?_
  refine lv_iconst (v := 5) hx hb zcX3_init_18 (by decide) ?_
  refine zc_new_int (N := 5) hx hb (hts _ (zat_in (w := .arrayClass .int) (p := 139) (by decide +kernel))) hK hP hD hS hA (by decide) (by decide) (Nat.le_of_ble_eq_true rfl) (Nat.le_of_ble_eq_true rfl) (Nat.le_of_ble_eq_true rfl) zcX3_init_19 (fun q19 H hP hD hS => ?_)
  have hP : va_P (dC, dI) vwCl [(h0, .inr (3, [.ref q7, .int 0, .null, .int 0, .int 0, .null])), (q7, .inl (cB, 60, .inl (fun _ => 0))), (q19, .inl (cI, 5, .inl (fun _ => 0)))] H := hP
  have hD : va_D A [(h0, .inr (3, [.ref q7, .int 0, .null, .int 0, .int 0, .null])), (q7, .inl (cB, 60, .inl (fun _ => 0))), (q19, .inl (cI, 5, .inl (fun _ => 0)))] := hD
  refine W.widen (k := 2) (n := 65) (by omega) (by omega) ?_
  refine va_putF (D := (dC, dI)) (ci := 3) (v := .ref q19) (ty := .array .int) (C := RX3) (T := TX3) (N := 6) hx hb hts (zu_in 3 (by decide)) tyX3 tyX3_ok nmX3 hown hK hP hD hS 0 rfl rfl 2 (by decide) (hts _ (zat_in (w := .fieldLink RX3 19 "FusionRules$Reader" "sum" "[I") (p := 209) (by decide +kernel))) (fun _ h9 => h9) rfl hin rfl (by decide +kernel) rfl rfl (Nat.le_of_ble_eq_true rfl) zcX3_init_21 (fun H locs hP hD hS => ?_)
  have hP : va_P (dC, dI) vwCl [(h0, .inr (3, [.ref q7, .int 0, .ref q19, .int 0, .int 0, .null])), (q7, .inl (cB, 60, .inl (fun _ => 0))), (q19, .inl (cI, 5, .inl (fun _ => 0)))] H := hP
  have hD : va_D A [(h0, .inr (3, [.ref q7, .int 0, .ref q19, .int 0, .int 0, .null])), (q7, .inl (cB, 60, .inl (fun _ => 0))), (q19, .inl (cI, 5, .inl (fun _ => 0)))] := hD
  refine lv_aload_n hx hb zcX3_init_24 rfl (lv_at hl 0 rfl) ?_
  refine lv_iconst (v := 0) hx hb zcX3_init_25 (by decide) ?_
  refine va_put (D := (dC, dI)) (ci := 3) (v := .int 0) (ty := .int) (C := RX3) (T := TX3) (N := 6) hx hb hts (zu_in 3 (by decide)) tyX3 tyX3_ok nmX3 hown hK hP hD hS 0 rfl rfl 3 (by decide) (hts _ (zat_in (w := .fieldLink RX3 23 "FusionRules$Reader" "terms" "I") (p := 211) (by decide +kernel))) (fun _ h9 => h9) rfl (by decide +kernel) rfl rfl (Nat.le_of_ble_eq_true rfl) zcX3_init_26 (fun H locs hP hD hS => ?_)
  have hP : va_P (dC, dI) vwCl [(h0, .inr (3, [.ref q7, .int 0, .ref q19, .int 0, .int 0, .null])), (q7, .inl (cB, 60, .inl (fun _ => 0))), (q19, .inl (cI, 5, .inl (fun _ => 0)))] H := hP
  have hD : va_D A [(h0, .inr (3, [.ref q7, .int 0, .ref q19, .int 0, .int 0, .null])), (q7, .inl (cB, 60, .inl (fun _ => 0))), (q19, .inl (cI, 5, .inl (fun _ => 0)))] := hD
  refine lv_aload_n hx hb zcX3_init_29 rfl (lv_at hl 0 rfl) ?_
  refine lv_iconst (v := 0) hx hb zcX3_init_30 (by decide) ?_
  refine va_put (D := (dC, dI)) (ci := 3) (v := .int 0) (ty := .int) (C := RX3) (T := TX3) (N := 6) hx hb hts (zu_in 3 (by decide)) tyX3 tyX3_ok nmX3 hown hK hP hD hS 0 rfl rfl 4 (by decide) (hts _ (zat_in (w := .fieldLink RX3 26 "FusionRules$Reader" "place" "I") (p := 212) (by decide +kernel))) (fun _ h9 => h9) rfl (by decide +kernel) rfl rfl (Nat.le_of_ble_eq_true rfl) zcX3_init_31 (fun H locs hP hD hS => ?_)
  have hP : va_P (dC, dI) vwCl [(h0, .inr (3, [.ref q7, .int 0, .ref q19, .int 0, .int 0, .null])), (q7, .inl (cB, 60, .inl (fun _ => 0))), (q19, .inl (cI, 5, .inl (fun _ => 0)))] H := hP
  have hD : va_D A [(h0, .inr (3, [.ref q7, .int 0, .ref q19, .int 0, .int 0, .null])), (q7, .inl (cB, 60, .inl (fun _ => 0))), (q19, .inl (cI, 5, .inl (fun _ => 0)))] := hD
  refine lv_aload_n hx hb zcX3_init_34 rfl (lv_at hl 0 rfl) ?_
  refine lv_bipush (v := 125) hx hb zcX3_init_35 (by decide) ?_
  refine zc_new_int (N := 125) hx hb (hts _ (zat_in (w := .arrayClass .int) (p := 139) (by decide +kernel))) hK hP hD hS hA (by decide) (by decide) (Nat.le_of_ble_eq_true rfl) (Nat.le_of_ble_eq_true rfl) (Nat.le_of_ble_eq_true rfl) zcX3_init_37 (fun q37 H hP hD hS => ?_)
  have hP : va_P (dC, dI) vwCl [(h0, .inr (3, [.ref q7, .int 0, .ref q19, .int 0, .int 0, .null])), (q7, .inl (cB, 60, .inl (fun _ => 0))), (q19, .inl (cI, 5, .inl (fun _ => 0))), (q37, .inl (cI, 125, .inl (fun _ => 0)))] H := hP
  have hD : va_D A [(h0, .inr (3, [.ref q7, .int 0, .ref q19, .int 0, .int 0, .null])), (q7, .inl (cB, 60, .inl (fun _ => 0))), (q19, .inl (cI, 5, .inl (fun _ => 0))), (q37, .inl (cI, 125, .inl (fun _ => 0)))] := hD
  refine W.widen (k := 3) (n := 190) (by omega) (by omega) ?_
  refine va_putF (D := (dC, dI)) (ci := 3) (v := .ref q37) (ty := .array .int) (C := RX3) (T := TX3) (N := 6) hx hb hts (zu_in 3 (by decide)) tyX3 tyX3_ok nmX3 hown hK hP hD hS 0 rfl rfl 5 (by decide) (hts _ (zat_in (w := .fieldLink RX3 29 "FusionRules$Reader" "draft" "[I") (p := 213) (by decide +kernel))) (fun _ h9 => h9) rfl hin rfl (by decide +kernel) rfl rfl (Nat.le_of_ble_eq_true rfl) zcX3_init_39 (fun H locs hP hD hS => ?_)
  have hP : va_P (dC, dI) vwCl [(h0, .inr (3, [.ref q7, .int 0, .ref q19, .int 0, .int 0, .ref q37])), (q7, .inl (cB, 60, .inl (fun _ => 0))), (q19, .inl (cI, 5, .inl (fun _ => 0))), (q37, .inl (cI, 125, .inl (fun _ => 0)))] H := hP
  have hD : va_D A [(h0, .inr (3, [.ref q7, .int 0, .ref q19, .int 0, .int 0, .ref q37])), (q7, .inl (cB, 60, .inl (fun _ => 0))), (q19, .inl (cI, 5, .inl (fun _ => 0))), (q37, .inl (cI, 125, .inl (fun _ => 0)))] := hD
  exact W.vret hx hb hr (fun t ht hW => ⟨⟨(), rfl, trivial, q7, q19, q37, by rw [ht]; exact hP, va_K.moved hW.alike hK, hD⟩, hS.F ht⟩) hS.2.2 zcX3_init_42
