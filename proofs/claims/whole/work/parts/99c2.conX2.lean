/-! a constructor -/
theorem zcX2_init_0 : decode cX2_init 0 = .ok (.aload_n 0, 1) := by decide +kernel
theorem zcX2_init_1 : decode cX2_init 1 = .ok (.invokespecial 3, 3) := by decide +kernel
theorem zcX2_init_4 : decode cX2_init 4 = .ok (.aload_n 0, 1) := by decide +kernel
theorem zcX2_init_5 : decode cX2_init 5 = .ok (.iconst 0, 1) := by decide +kernel
theorem zcX2_init_6 : decode cX2_init 6 = .ok (.putfield 9, 3) := by decide +kernel
theorem zcX2_init_9 : decode cX2_init 9 = .ok (.aload_n 0, 1) := by decide +kernel
theorem zcX2_init_10 : decode cX2_init 10 = .ok (.iconst 2, 1) := by decide +kernel
theorem zcX2_init_11 : decode cX2_init 11 = .ok (.putfield 15, 3) := by decide +kernel
theorem zcX2_init_14 : decode cX2_init 14 = .ok (.aload_n 0, 1) := by decide +kernel
theorem zcX2_init_15 : decode cX2_init 15 = .ok (.iconst 0, 1) := by decide +kernel
theorem zcX2_init_16 : decode cX2_init 16 = .ok (.putfield 18, 3) := by decide +kernel
theorem zcX2_init_19 : decode cX2_init 19 = .ok (.aload_n 0, 1) := by decide +kernel
theorem zcX2_init_20 : decode cX2_init 20 = .ok (.bipush 125, 2) := by decide +kernel
theorem zcX2_init_22 : decode cX2_init 22 = .ok (.newarray .int, 2) := by decide +kernel
theorem zcX2_init_24 : decode cX2_init 24 = .ok (.putfield 21, 3) := by decide +kernel
theorem zcX2_init_27 : decode cX2_init 27 = .ok (.aload_n 0, 1) := by decide +kernel
theorem zcX2_init_28 : decode cX2_init 28 = .ok (.bipush 20, 2) := by decide +kernel
theorem zcX2_init_30 : decode cX2_init 30 = .ok (.newarray .int, 2) := by decide +kernel
theorem zcX2_init_32 : decode cX2_init 32 = .ok (.putfield 25, 3) := by decide +kernel
theorem zcX2_init_35 : decode cX2_init 35 = .ok (.aload_n 0, 1) := by decide +kernel
theorem zcX2_init_36 : decode cX2_init 36 = .ok (.bipush 25, 2) := by decide +kernel
theorem zcX2_init_38 : decode cX2_init 38 = .ok (.newarray .int, 2) := by decide +kernel
theorem zcX2_init_40 : decode cX2_init 40 = .ok (.putfield 28, 3) := by decide +kernel
theorem zcX2_init_43 : decode cX2_init 43 = .ok (.aload_n 0, 1) := by decide +kernel
theorem zcX2_init_44 : decode cX2_init 44 = .ok (.iconst 5, 1) := by decide +kernel
theorem zcX2_init_45 : decode cX2_init 45 = .ok (.newarray .int, 2) := by decide +kernel
theorem zcX2_init_47 : decode cX2_init 47 = .ok (.putfield 31, 3) := by decide +kernel
theorem zcX2_init_50 : decode cX2_init 50 = .ok (.aload_n 0, 1) := by decide +kernel
theorem zcX2_init_51 : decode cX2_init 51 = .ok (.bipush 8, 2) := by decide +kernel
theorem zcX2_init_53 : decode cX2_init 53 = .ok (.newarray .int, 2) := by decide +kernel
theorem zcX2_init_55 : decode cX2_init 55 = .ok (.putfield 34, 3) := by decide +kernel
theorem zcX2_init_58 : decode cX2_init 58 = .ok (.aload_n 0, 1) := by decide +kernel
theorem zcX2_init_59 : decode cX2_init 59 = .ok (.bipush 8, 2) := by decide +kernel
theorem zcX2_init_61 : decode cX2_init 61 = .ok (.newarray .int, 2) := by decide +kernel
theorem zcX2_init_63 : decode cX2_init 63 = .ok (.putfield 37, 3) := by decide +kernel
theorem zcX2_init_66 : decode cX2_init 66 = .ok (.aload_n 0, 1) := by decide +kernel
theorem zcX2_init_67 : decode cX2_init 67 = .ok (.iconst 0, 1) := by decide +kernel
theorem zcX2_init_68 : decode cX2_init 68 = .ok (.putfield 40, 3) := by decide +kernel
theorem zcX2_init_71 : decode cX2_init 71 = .ok (.return_, 1) := by decide +kernel
theorem zg_X2 : GoodIn zwG (.code yX2_init cX2_init 1 none :: zwG) := fun w hw => zg_of (by rcases List.mem_cons.mp hw with rfl | hw; exact zat_in (p := 92) (by decide +kernel); exact hw)
set_option maxHeartbeats 40000000 in
set_option maxRecDepth 100000 in
theorem zi_X2 (l : Launch) (dC : Nat → ClassId) (dI : Nat → Nat → Nat) (cI cB cL : ClassId) (h0 : Nat) (sz : Nat) : Met l yX2_init (.code yX2_init cX2_init 1 none :: zwG) ({ frames := 1, cells := 6, slots := 191, locals := 12 }) (va_Pc [.ref h0] (fun U => U.heap.size = sz ∧ va_P (dC, dI) vwCl [(h0, .inr (2, [.int 0, .int 0, .int 0, .null, .null, .null, .null, .null, .null, .int 0]))] U.heap ∧ va_K (dC, dI) vwCl [(cI, .int), (cB, .byte), (cL, .long)] U ∧ va_D (fun _ => True) [(h0, .inr (2, [.int 0, .int 0, .int 0, .null, .null, .null, .null, .null, .null, .int 0]))])) (va_Qv (fun _ : Unit => True) (fun _ t => ∃ (q22 q30 q38 q45 q53 q61 : Nat), va_P (dC, dI) vwCl [(h0, .inr (2, [.int 0, .int 2, .int 0, .ref q22, .ref q30, .ref q38, .ref q45, .ref q53, .ref q61, .int 0])), (q22, .inl (cI, 125, .inl (fun _ => 0))), (q30, .inl (cI, 20, .inl (fun _ => 0))), (q38, .inl (cI, 25, .inl (fun _ => 0))), (q45, .inl (cI, 5, .inl (fun _ => 0))), (q53, .inl (cI, 8, .inl (fun _ => 0))), (q61, .inl (cI, 8, .inl (fun _ => 0)))] t.heap ∧ va_K (dC, dI) vwCl [(cI, .int), (cB, .byte), (cL, .long)] t ∧ va_D (va_A [(h0, .inr (2, [.int 0, .int 0, .int 0, .null, .null, .null, .null, .null, .null, .int 0]))] sz) [(h0, .inr (2, [.int 0, .int 2, .int 0, .ref q22, .ref q30, .ref q38, .ref q45, .ref q53, .ref q61, .int 0])), (q22, .inl (cI, 125, .inl (fun _ => 0))), (q30, .inl (cI, 20, .inl (fun _ => 0))), (q38, .inl (cI, 25, .inl (fun _ => 0))), (q45, .inl (cI, 5, .inl (fun _ => 0))), (q53, .inl (cI, 8, .inl (fun _ => 0))), (q61, .inl (cI, 8, .inl (fun _ => 0)))]) (va_A [(h0, .inr (2, [.int 0, .int 0, .int 0, .null, .null, .null, .null, .null, .null, .int 0]))] sz)) 6 191 (va_A [(h0, .inr (2, [.int 0, .int 0, .int 0, .null, .null, .null, .null, .null, .null, .int 0]))] sz) := by
  refine Met.ofW (cc := cX2_init) (maxL := 1) (ret := none) (by decide) rfl ?_
  intro p e s m args below meth c s₁ B hml hv
  obtain ⟨rfl, hsz, hP, hK, hD0⟩ := hv
  have hx := B.exec
  have hb := B.bytes
  have hr := B.returns
  have hts : ∀ w ∈ zwG, w.before _ s = true := fun w hw => atoms_spec (ws := .code yX2_init cX2_init 1 none :: zwG) B.pre w (List.mem_cons_of_mem _ hw)
  have hown : s.vm.findClass RX2 = some m.cls := findClass_of_methodNamed B.named
  have hlocks := B.notSynchronized
  have hin : meth.name = "<init>" := (name_of_methodNamed B.named B.method).1
  subst hsz
  have hD := hD0.self (sz := s.heap.size)
  generalize hAe : va_A [(h0, .inr (2, [.int 0, .int 0, .int 0, .null, .null, .null, .null, .null, .null, .int 0]))] s.heap.size = A at hD ⊢
  have hA : ∀ q : Nat, s.heap.size ≤ q → A q := fun q h => by rw [← hAe]; exact Or.inr h
  have hS : va_S A s.heap s.heap [] := va_S.rf
  have hl := lv_entry ([.ref h0]) (n := 1) (Nat.le_of_ble_eq_true rfl)
  rw [lg_entry_eq]
  generalize (lg_sl ([.ref h0]) ++ List.replicate (1 - (lg_sl ([.ref h0])).length) Slot.unset).toArray = ls at hl ⊢
  have hl : lv_has ls 1 [(0, .ref h0)] := hl
  refine lv_aload_n hx hb zcX2_init_0 rfl (lv_at hl 0 rfl) ?_
  refine W.objInit hx hb hown (hts _ (zat_in (w := .methodLink RX2 3 Lib.objectInit) (p := 93) (by decide +kernel))) (hts _ (zat_in (w := .instanceMethod Lib.objectInit) (p := 86) (by decide +kernel))) (hts _ (zat_in (w := .code Lib.objectInit ⟨#[0xb1]⟩ 1 none) (p := 87) (by decide +kernel))) rfl (by rw [hml]; exact hl.1) rfl zcX2_init_1 (Nat.le_of_ble_eq_true rfl) (Nat.le_of_ble_eq_true rfl) ?_
  refine W.eq (g2 := F0 m 4 ls []) rfl ?_
  refine lv_aload_n hx hb zcX2_init_4 rfl (lv_at hl 0 rfl) ?_
  refine lv_iconst (v := 0) hx hb zcX2_init_5 (by decide) ?_
  refine va_put (D := (dC, dI)) (ci := 2) (v := .int 0) (ty := .int) (C := RX2) (T := TX2) (N := 10) hx hb hts (zu_in 2 (by decide)) tyX2 tyX2_ok nmX2 hown hK hP hD hS 0 rfl rfl 0 (by decide) (hts _ (zat_in (w := .fieldLink RX2 9 "FusionRules$Held" "kind" "I") (p := 94) (by decide +kernel))) (fun _ h9 => h9) rfl (by decide +kernel) rfl rfl (Nat.le_of_ble_eq_true rfl) zcX2_init_6 (fun H locs hP hD hS => ?_)
  have hP : va_P (dC, dI) vwCl [(h0, .inr (2, [.int 0, .int 0, .int 0, .null, .null, .null, .null, .null, .null, .int 0]))] H := hP
  have hD : va_D A [(h0, .inr (2, [.int 0, .int 0, .int 0, .null, .null, .null, .null, .null, .null, .int 0]))] := hD
  refine lv_aload_n hx hb zcX2_init_9 rfl (lv_at hl 0 rfl) ?_
  refine lv_iconst (v := 2) hx hb zcX2_init_10 (by decide) ?_
  refine va_put (D := (dC, dI)) (ci := 2) (v := .int 2) (ty := .int) (C := RX2) (T := TX2) (N := 10) hx hb hts (zu_in 2 (by decide)) tyX2 tyX2_ok nmX2 hown hK hP hD hS 0 rfl rfl 1 (by decide) (hts _ (zat_in (w := .fieldLink RX2 15 "FusionRules$Held" "size" "I") (p := 97) (by decide +kernel))) (fun _ h9 => h9) rfl (by decide +kernel) rfl rfl (Nat.le_of_ble_eq_true rfl) zcX2_init_11 (fun H locs hP hD hS => ?_)
  have hP : va_P (dC, dI) vwCl [(h0, .inr (2, [.int 0, .int 2, .int 0, .null, .null, .null, .null, .null, .null, .int 0]))] H := hP
  have hD : va_D A [(h0, .inr (2, [.int 0, .int 2, .int 0, .null, .null, .null, .null, .null, .null, .int 0]))] := hD
  refine lv_aload_n hx hb zcX2_init_14 rfl (lv_at hl 0 rfl) ?_
  refine lv_iconst (v := 0) hx hb zcX2_init_15 (by decide) ?_
  refine va_put (D := (dC, dI)) (ci := 2) (v := .int 0) (ty := .int) (C := RX2) (T := TX2) (N := 10) hx hb hts (zu_in 2 (by decide)) tyX2 tyX2_ok nmX2 hown hK hP hD hS 0 rfl rfl 2 (by decide) (hts _ (zat_in (w := .fieldLink RX2 18 "FusionRules$Held" "figure" "I") (p := 100) (by decide +kernel))) (fun _ h9 => h9) rfl (by decide +kernel) rfl rfl (Nat.le_of_ble_eq_true rfl) zcX2_init_16 (fun H locs hP hD hS => ?_)
  have hP : va_P (dC, dI) vwCl [(h0, .inr (2, [.int 0, .int 2, .int 0, .null, .null, .null, .null, .null, .null, .int 0]))] H := hP
  have hD : va_D A [(h0, .inr (2, [.int 0, .int 2, .int 0, .null, .null, .null, .null, .null, .null, .int 0]))] := hD
  refine lv_aload_n hx hb zcX2_init_19 rfl (lv_at hl 0 rfl) ?_
  refine lv_bipush (v := 125) hx hb zcX2_init_20 (by decide) ?_
  refine zc_new_int (N := 125) hx hb (hts _ (zat_in (w := .arrayClass .int) (p := 139) (by decide +kernel))) hK hP hD hS hA (by decide) (by decide) (Nat.le_of_ble_eq_true rfl) (Nat.le_of_ble_eq_true rfl) (Nat.le_of_ble_eq_true rfl) zcX2_init_22 (fun q22 H hP hD hS => ?_)
  have hP : va_P (dC, dI) vwCl [(h0, .inr (2, [.int 0, .int 2, .int 0, .null, .null, .null, .null, .null, .null, .int 0])), (q22, .inl (cI, 125, .inl (fun _ => 0)))] H := hP
  have hD : va_D A [(h0, .inr (2, [.int 0, .int 2, .int 0, .null, .null, .null, .null, .null, .null, .int 0])), (q22, .inl (cI, 125, .inl (fun _ => 0)))] := hD
  refine W.widen (k := 1) (n := 125) (by omega) (by omega) ?_
  refine va_putF (D := (dC, dI)) (ci := 2) (v := .ref q22) (ty := .array .int) (C := RX2) (T := TX2) (N := 10) hx hb hts (zu_in 2 (by decide)) tyX2 tyX2_ok nmX2 hown hK hP hD hS 0 rfl rfl 3 (by decide) (hts _ (zat_in (w := .fieldLink RX2 21 "FusionRules$Held" "told" "[I") (p := 103) (by decide +kernel))) (fun _ h9 => h9) rfl hin rfl (by decide +kernel) rfl rfl (Nat.le_of_ble_eq_true rfl) zcX2_init_24 (fun H locs hP hD hS => ?_)
  have hP : va_P (dC, dI) vwCl [(h0, .inr (2, [.int 0, .int 2, .int 0, .ref q22, .null, .null, .null, .null, .null, .int 0])), (q22, .inl (cI, 125, .inl (fun _ => 0)))] H := hP
  have hD : va_D A [(h0, .inr (2, [.int 0, .int 2, .int 0, .ref q22, .null, .null, .null, .null, .null, .int 0])), (q22, .inl (cI, 125, .inl (fun _ => 0)))] := hD
  refine lv_aload_n hx hb zcX2_init_27 rfl (lv_at hl 0 rfl) ?_
  refine lv_bipush (v := 20) hx hb zcX2_init_28 (by decide) ?_
  refine zc_new_int (N := 20) hx hb (hts _ (zat_in (w := .arrayClass .int) (p := 139) (by decide +kernel))) hK hP hD hS hA (by decide) (by decide) (Nat.le_of_ble_eq_true rfl) (Nat.le_of_ble_eq_true rfl) (Nat.le_of_ble_eq_true rfl) zcX2_init_30 (fun q30 H hP hD hS => ?_)
  have hP : va_P (dC, dI) vwCl [(h0, .inr (2, [.int 0, .int 2, .int 0, .ref q22, .null, .null, .null, .null, .null, .int 0])), (q22, .inl (cI, 125, .inl (fun _ => 0))), (q30, .inl (cI, 20, .inl (fun _ => 0)))] H := hP
  have hD : va_D A [(h0, .inr (2, [.int 0, .int 2, .int 0, .ref q22, .null, .null, .null, .null, .null, .int 0])), (q22, .inl (cI, 125, .inl (fun _ => 0))), (q30, .inl (cI, 20, .inl (fun _ => 0)))] := hD
  refine W.widen (k := 2) (n := 145) (by omega) (by omega) ?_
  refine va_putF (D := (dC, dI)) (ci := 2) (v := .ref q30) (ty := .array .int) (C := RX2) (T := TX2) (N := 10) hx hb hts (zu_in 2 (by decide)) tyX2 tyX2_ok nmX2 hown hK hP hD hS 0 rfl rfl 4 (by decide) (hts _ (zat_in (w := .fieldLink RX2 25 "FusionRules$Held" "numbers" "[I") (p := 106) (by decide +kernel))) (fun _ h9 => h9) rfl hin rfl (by decide +kernel) rfl rfl (Nat.le_of_ble_eq_true rfl) zcX2_init_32 (fun H locs hP hD hS => ?_)
  have hP : va_P (dC, dI) vwCl [(h0, .inr (2, [.int 0, .int 2, .int 0, .ref q22, .ref q30, .null, .null, .null, .null, .int 0])), (q22, .inl (cI, 125, .inl (fun _ => 0))), (q30, .inl (cI, 20, .inl (fun _ => 0)))] H := hP
  have hD : va_D A [(h0, .inr (2, [.int 0, .int 2, .int 0, .ref q22, .ref q30, .null, .null, .null, .null, .int 0])), (q22, .inl (cI, 125, .inl (fun _ => 0))), (q30, .inl (cI, 20, .inl (fun _ => 0)))] := hD
  refine lv_aload_n hx hb zcX2_init_35 rfl (lv_at hl 0 rfl) ?_
  refine lv_bipush (v := 25) hx hb zcX2_init_36 (by decide) ?_
  refine zc_new_int (N := 25) hx hb (hts _ (zat_in (w := .arrayClass .int) (p := 139) (by decide +kernel))) hK hP hD hS hA (by decide) (by decide) (Nat.le_of_ble_eq_true rfl) (Nat.le_of_ble_eq_true rfl) (Nat.le_of_ble_eq_true rfl) zcX2_init_38 (fun q38 H hP hD hS => ?_)
  have hP : va_P (dC, dI) vwCl [(h0, .inr (2, [.int 0, .int 2, .int 0, .ref q22, .ref q30, .null, .null, .null, .null, .int 0])), (q22, .inl (cI, 125, .inl (fun _ => 0))), (q30, .inl (cI, 20, .inl (fun _ => 0))), (q38, .inl (cI, 25, .inl (fun _ => 0)))] H := hP
  have hD : va_D A [(h0, .inr (2, [.int 0, .int 2, .int 0, .ref q22, .ref q30, .null, .null, .null, .null, .int 0])), (q22, .inl (cI, 125, .inl (fun _ => 0))), (q30, .inl (cI, 20, .inl (fun _ => 0))), (q38, .inl (cI, 25, .inl (fun _ => 0)))] := hD
  refine W.widen (k := 3) (n := 170) (by omega) (by omega) ?_
  refine va_putF (D := (dC, dI)) (ci := 2) (v := .ref q38) (ty := .array .int) (C := RX2) (T := TX2) (N := 10) hx hb hts (zu_in 2 (by decide)) tyX2 tyX2_ok nmX2 hown hK hP hD hS 0 rfl rfl 5 (by decide) (hts _ (zat_in (w := .fieldLink RX2 28 "FusionRules$Held" "first" "[I") (p := 108) (by decide +kernel))) (fun _ h9 => h9) rfl hin rfl (by decide +kernel) rfl rfl (Nat.le_of_ble_eq_true rfl) zcX2_init_40 (fun H locs hP hD hS => ?_)
  have hP : va_P (dC, dI) vwCl [(h0, .inr (2, [.int 0, .int 2, .int 0, .ref q22, .ref q30, .ref q38, .null, .null, .null, .int 0])), (q22, .inl (cI, 125, .inl (fun _ => 0))), (q30, .inl (cI, 20, .inl (fun _ => 0))), (q38, .inl (cI, 25, .inl (fun _ => 0)))] H := hP
  have hD : va_D A [(h0, .inr (2, [.int 0, .int 2, .int 0, .ref q22, .ref q30, .ref q38, .null, .null, .null, .int 0])), (q22, .inl (cI, 125, .inl (fun _ => 0))), (q30, .inl (cI, 20, .inl (fun _ => 0))), (q38, .inl (cI, 25, .inl (fun _ => 0)))] := hD
  refine lv_aload_n hx hb zcX2_init_43 rfl (lv_at hl 0 rfl) ?_
  refine lv_iconst (v := 5) hx hb zcX2_init_44 (by decide) ?_
  refine zc_new_int (N := 5) hx hb (hts _ (zat_in (w := .arrayClass .int) (p := 139) (by decide +kernel))) hK hP hD hS hA (by decide) (by decide) (Nat.le_of_ble_eq_true rfl) (Nat.le_of_ble_eq_true rfl) (Nat.le_of_ble_eq_true rfl) zcX2_init_45 (fun q45 H hP hD hS => ?_)
  have hP : va_P (dC, dI) vwCl [(h0, .inr (2, [.int 0, .int 2, .int 0, .ref q22, .ref q30, .ref q38, .null, .null, .null, .int 0])), (q22, .inl (cI, 125, .inl (fun _ => 0))), (q30, .inl (cI, 20, .inl (fun _ => 0))), (q38, .inl (cI, 25, .inl (fun _ => 0))), (q45, .inl (cI, 5, .inl (fun _ => 0)))] H := hP
  have hD : va_D A [(h0, .inr (2, [.int 0, .int 2, .int 0, .ref q22, .ref q30, .ref q38, .null, .null, .null, .int 0])), (q22, .inl (cI, 125, .inl (fun _ => 0))), (q30, .inl (cI, 20, .inl (fun _ => 0))), (q38, .inl (cI, 25, .inl (fun _ => 0))), (q45, .inl (cI, 5, .inl (fun _ => 0)))] := hD
  refine W.widen (k := 4) (n := 175) (by omega) (by omega) ?_
  refine va_putF (D := (dC, dI)) (ci := 2) (v := .ref q45) (ty := .array .int) (C := RX2) (T := TX2) (N := 10) hx hb hts (zu_in 2 (by decide)) tyX2 tyX2_ok nmX2 hown hK hP hD hS 0 rfl rfl 6 (by decide) (hts _ (zat_in (w := .fieldLink RX2 31 "FusionRules$Held" "twists" "[I") (p := 110) (by decide +kernel))) (fun _ h9 => h9) rfl hin rfl (by decide +kernel) rfl rfl (Nat.le_of_ble_eq_true rfl) zcX2_init_47 (fun H locs hP hD hS => ?_)
  have hP : va_P (dC, dI) vwCl [(h0, .inr (2, [.int 0, .int 2, .int 0, .ref q22, .ref q30, .ref q38, .ref q45, .null, .null, .int 0])), (q22, .inl (cI, 125, .inl (fun _ => 0))), (q30, .inl (cI, 20, .inl (fun _ => 0))), (q38, .inl (cI, 25, .inl (fun _ => 0))), (q45, .inl (cI, 5, .inl (fun _ => 0)))] H := hP
  have hD : va_D A [(h0, .inr (2, [.int 0, .int 2, .int 0, .ref q22, .ref q30, .ref q38, .ref q45, .null, .null, .int 0])), (q22, .inl (cI, 125, .inl (fun _ => 0))), (q30, .inl (cI, 20, .inl (fun _ => 0))), (q38, .inl (cI, 25, .inl (fun _ => 0))), (q45, .inl (cI, 5, .inl (fun _ => 0)))] := hD
  refine lv_aload_n hx hb zcX2_init_50 rfl (lv_at hl 0 rfl) ?_
  refine lv_bipush (v := 8) hx hb zcX2_init_51 (by decide) ?_
  refine zc_new_int (N := 8) hx hb (hts _ (zat_in (w := .arrayClass .int) (p := 139) (by decide +kernel))) hK hP hD hS hA (by decide) (by decide) (Nat.le_of_ble_eq_true rfl) (Nat.le_of_ble_eq_true rfl) (Nat.le_of_ble_eq_true rfl) zcX2_init_53 (fun q53 H hP hD hS => ?_)
  have hP : va_P (dC, dI) vwCl [(h0, .inr (2, [.int 0, .int 2, .int 0, .ref q22, .ref q30, .ref q38, .ref q45, .null, .null, .int 0])), (q22, .inl (cI, 125, .inl (fun _ => 0))), (q30, .inl (cI, 20, .inl (fun _ => 0))), (q38, .inl (cI, 25, .inl (fun _ => 0))), (q45, .inl (cI, 5, .inl (fun _ => 0))), (q53, .inl (cI, 8, .inl (fun _ => 0)))] H := hP
  have hD : va_D A [(h0, .inr (2, [.int 0, .int 2, .int 0, .ref q22, .ref q30, .ref q38, .ref q45, .null, .null, .int 0])), (q22, .inl (cI, 125, .inl (fun _ => 0))), (q30, .inl (cI, 20, .inl (fun _ => 0))), (q38, .inl (cI, 25, .inl (fun _ => 0))), (q45, .inl (cI, 5, .inl (fun _ => 0))), (q53, .inl (cI, 8, .inl (fun _ => 0)))] := hD
  refine W.widen (k := 5) (n := 183) (by omega) (by omega) ?_
  refine va_putF (D := (dC, dI)) (ci := 2) (v := .ref q53) (ty := .array .int) (C := RX2) (T := TX2) (N := 10) hx hb hts (zu_in 2 (by decide)) tyX2 tyX2_ok nmX2 hown hK hP hD hS 0 rfl rfl 7 (by decide) (hts _ (zat_in (w := .fieldLink RX2 34 "FusionRules$Held" "planWhat" "[I") (p := 112) (by decide +kernel))) (fun _ h9 => h9) rfl hin rfl (by decide +kernel) rfl rfl (Nat.le_of_ble_eq_true rfl) zcX2_init_55 (fun H locs hP hD hS => ?_)
  have hP : va_P (dC, dI) vwCl [(h0, .inr (2, [.int 0, .int 2, .int 0, .ref q22, .ref q30, .ref q38, .ref q45, .ref q53, .null, .int 0])), (q22, .inl (cI, 125, .inl (fun _ => 0))), (q30, .inl (cI, 20, .inl (fun _ => 0))), (q38, .inl (cI, 25, .inl (fun _ => 0))), (q45, .inl (cI, 5, .inl (fun _ => 0))), (q53, .inl (cI, 8, .inl (fun _ => 0)))] H := hP
  have hD : va_D A [(h0, .inr (2, [.int 0, .int 2, .int 0, .ref q22, .ref q30, .ref q38, .ref q45, .ref q53, .null, .int 0])), (q22, .inl (cI, 125, .inl (fun _ => 0))), (q30, .inl (cI, 20, .inl (fun _ => 0))), (q38, .inl (cI, 25, .inl (fun _ => 0))), (q45, .inl (cI, 5, .inl (fun _ => 0))), (q53, .inl (cI, 8, .inl (fun _ => 0)))] := hD
  refine lv_aload_n hx hb zcX2_init_58 rfl (lv_at hl 0 rfl) ?_
  refine lv_bipush (v := 8) hx hb zcX2_init_59 (by decide) ?_
  refine zc_new_int (N := 8) hx hb (hts _ (zat_in (w := .arrayClass .int) (p := 139) (by decide +kernel))) hK hP hD hS hA (by decide) (by decide) (Nat.le_of_ble_eq_true rfl) (Nat.le_of_ble_eq_true rfl) (Nat.le_of_ble_eq_true rfl) zcX2_init_61 (fun q61 H hP hD hS => ?_)
  have hP : va_P (dC, dI) vwCl [(h0, .inr (2, [.int 0, .int 2, .int 0, .ref q22, .ref q30, .ref q38, .ref q45, .ref q53, .null, .int 0])), (q22, .inl (cI, 125, .inl (fun _ => 0))), (q30, .inl (cI, 20, .inl (fun _ => 0))), (q38, .inl (cI, 25, .inl (fun _ => 0))), (q45, .inl (cI, 5, .inl (fun _ => 0))), (q53, .inl (cI, 8, .inl (fun _ => 0))), (q61, .inl (cI, 8, .inl (fun _ => 0)))] H := hP
  have hD : va_D A [(h0, .inr (2, [.int 0, .int 2, .int 0, .ref q22, .ref q30, .ref q38, .ref q45, .ref q53, .null, .int 0])), (q22, .inl (cI, 125, .inl (fun _ => 0))), (q30, .inl (cI, 20, .inl (fun _ => 0))), (q38, .inl (cI, 25, .inl (fun _ => 0))), (q45, .inl (cI, 5, .inl (fun _ => 0))), (q53, .inl (cI, 8, .inl (fun _ => 0))), (q61, .inl (cI, 8, .inl (fun _ => 0)))] := hD
  refine W.widen (k := 6) (n := 191) (by omega) (by omega) ?_
  refine va_putF (D := (dC, dI)) (ci := 2) (v := .ref q61) (ty := .array .int) (C := RX2) (T := TX2) (N := 10) hx hb hts (zu_in 2 (by decide)) tyX2 tyX2_ok nmX2 hown hK hP hD hS 0 rfl rfl 8 (by decide) (hts _ (zat_in (w := .fieldLink RX2 37 "FusionRules$Held" "planBy" "[I") (p := 114) (by decide +kernel))) (fun _ h9 => h9) rfl hin rfl (by decide +kernel) rfl rfl (Nat.le_of_ble_eq_true rfl) zcX2_init_63 (fun H locs hP hD hS => ?_)
  have hP : va_P (dC, dI) vwCl [(h0, .inr (2, [.int 0, .int 2, .int 0, .ref q22, .ref q30, .ref q38, .ref q45, .ref q53, .ref q61, .int 0])), (q22, .inl (cI, 125, .inl (fun _ => 0))), (q30, .inl (cI, 20, .inl (fun _ => 0))), (q38, .inl (cI, 25, .inl (fun _ => 0))), (q45, .inl (cI, 5, .inl (fun _ => 0))), (q53, .inl (cI, 8, .inl (fun _ => 0))), (q61, .inl (cI, 8, .inl (fun _ => 0)))] H := hP
  have hD : va_D A [(h0, .inr (2, [.int 0, .int 2, .int 0, .ref q22, .ref q30, .ref q38, .ref q45, .ref q53, .ref q61, .int 0])), (q22, .inl (cI, 125, .inl (fun _ => 0))), (q30, .inl (cI, 20, .inl (fun _ => 0))), (q38, .inl (cI, 25, .inl (fun _ => 0))), (q45, .inl (cI, 5, .inl (fun _ => 0))), (q53, .inl (cI, 8, .inl (fun _ => 0))), (q61, .inl (cI, 8, .inl (fun _ => 0)))] := hD
  refine lv_aload_n hx hb zcX2_init_66 rfl (lv_at hl 0 rfl) ?_
  refine lv_iconst (v := 0) hx hb zcX2_init_67 (by decide) ?_
  refine va_put (D := (dC, dI)) (ci := 2) (v := .int 0) (ty := .int) (C := RX2) (T := TX2) (N := 10) hx hb hts (zu_in 2 (by decide)) tyX2 tyX2_ok nmX2 hown hK hP hD hS 0 rfl rfl 9 (by decide) (hts _ (zat_in (w := .fieldLink RX2 40 "FusionRules$Held" "rows" "I") (p := 116) (by decide +kernel))) (fun _ h9 => h9) rfl (by decide +kernel) rfl rfl (Nat.le_of_ble_eq_true rfl) zcX2_init_68 (fun H locs hP hD hS => ?_)
  have hP : va_P (dC, dI) vwCl [(h0, .inr (2, [.int 0, .int 2, .int 0, .ref q22, .ref q30, .ref q38, .ref q45, .ref q53, .ref q61, .int 0])), (q22, .inl (cI, 125, .inl (fun _ => 0))), (q30, .inl (cI, 20, .inl (fun _ => 0))), (q38, .inl (cI, 25, .inl (fun _ => 0))), (q45, .inl (cI, 5, .inl (fun _ => 0))), (q53, .inl (cI, 8, .inl (fun _ => 0))), (q61, .inl (cI, 8, .inl (fun _ => 0)))] H := hP
  have hD : va_D A [(h0, .inr (2, [.int 0, .int 2, .int 0, .ref q22, .ref q30, .ref q38, .ref q45, .ref q53, .ref q61, .int 0])), (q22, .inl (cI, 125, .inl (fun _ => 0))), (q30, .inl (cI, 20, .inl (fun _ => 0))), (q38, .inl (cI, 25, .inl (fun _ => 0))), (q45, .inl (cI, 5, .inl (fun _ => 0))), (q53, .inl (cI, 8, .inl (fun _ => 0))), (q61, .inl (cI, 8, .inl (fun _ => 0)))] := hD
  exact W.vret hx hb hr (fun t ht hW => ⟨⟨(), rfl, trivial, q22, q30, q38, q45, q53, q61, by rw [ht]; exact hP, va_K.moved hW.alike hK, hD⟩, hS.F ht⟩) hS.2.2 zcX2_init_71
