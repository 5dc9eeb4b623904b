/-! a constructor -/
theorem zcX1_init_0 : decode cX1_init 0 = .ok (.aload_n 0, 1) := by decide +kernel
theorem zcX1_init_1 : decode cX1_init 1 = .ok (.invokespecial 3, 3) := by decide +kernel
theorem zcX1_init_4 : decode cX1_init 4 = .ok (.aload_n 0, 1) := by decide +kernel
theorem zcX1_init_5 : decode cX1_init 5 = .ok (.iconst 1, 1) := by decide +kernel
theorem zcX1_init_6 : decode cX1_init 6 = .ok (.putfield 9, 3) := by decide +kernel
theorem zcX1_init_9 : decode cX1_init 9 = .ok (.aload_n 0, 1) := by decide +kernel
theorem zcX1_init_10 : decode cX1_init 10 = .ok (.bipush 125, 2) := by decide +kernel
theorem zcX1_init_12 : decode cX1_init 12 = .ok (.newarray .int, 2) := by decide +kernel
theorem zcX1_init_14 : decode cX1_init 14 = .ok (.putfield 15, 3) := by decide +kernel
theorem zcX1_init_17 : decode cX1_init 17 = .ok (.return_, 1) := by decide +kernel
theorem zg_X1 : GoodIn zwG (.code yX1_init cX1_init 1 none :: zwG) := fun w hw => zg_of (by rcases List.mem_cons.mp hw with rfl | hw; exact zat_in (p := 144) (by decide +kernel); exact hw)
set_option maxHeartbeats 40000000 in
set_option maxRecDepth 100000 in
theorem zi_X1 (l : Launch) (dC : Nat → ClassId) (dI : Nat → Nat → Nat) (cI cB cL : ClassId) (h0 : Nat) (sz : Nat) : Met l yX1_init (.code yX1_init cX1_init 1 none :: zwG) ({ frames := 1, cells := 1, slots := 125, locals := 12 }) (va_Pc [.ref h0] (fun U => U.heap.size = sz ∧ va_P (dC, dI) vwCl [(h0, .inr (1, [.int 0, .null]))] U.heap ∧ va_K (dC, dI) vwCl [(cI, .int), (cB, .byte), (cL, .long)] U ∧ va_D (fun _ => True) [(h0, .inr (1, [.int 0, .null]))])) (va_Qv (fun _ : Unit => True) (fun _ t => ∃ (q12 : Nat), va_P (dC, dI) vwCl [(h0, .inr (1, [.int 1, .ref q12])), (q12, .inl (cI, 125, .inl (fun _ => 0)))] t.heap ∧ va_K (dC, dI) vwCl [(cI, .int), (cB, .byte), (cL, .long)] t ∧ va_D (va_A [(h0, .inr (1, [.int 0, .null]))] sz) [(h0, .inr (1, [.int 1, .ref q12])), (q12, .inl (cI, 125, .inl (fun _ => 0)))]) (va_A [(h0, .inr (1, [.int 0, .null]))] sz)) 1 125 (va_A [(h0, .inr (1, [.int 0, .null]))] sz) := by
  refine Met.ofW (cc := cX1_init) (maxL := 1) (ret := none) (by decide) rfl ?_
  intro p e s m args below meth c s₁ B hml hv
  obtain ⟨rfl, hsz, hP, hK, hD0⟩ := hv
  have hx := B.exec
  have hb := B.bytes
  have hr := B.returns
  have hts : ∀ w ∈ zwG, w.before _ s = true := fun w hw => atoms_spec (ws := .code yX1_init cX1_init 1 none :: zwG) B.pre w (List.mem_cons_of_mem _ hw)
  have hown : s.vm.findClass RX1 = some m.cls := findClass_of_methodNamed B.named
  have hlocks := B.notSynchronized
  have hin : meth.name = "<init>" := (name_of_methodNamed B.named B.method).1
  subst hsz
  have hD := hD0.self (sz := s.heap.size)
  generalize hAe : va_A [(h0, .inr (1, [.int 0, .null]))] s.heap.size = A at hD ⊢
  have hA : ∀ q : Nat, s.heap.size ≤ q → A q := fun q h => by rw [← hAe]; exact Or.inr h
  have hS : va_S A s.heap s.heap [] := va_S.rf
  have hl := lv_entry ([.ref h0]) (n := 1) (Nat.le_of_ble_eq_true rfl)
  rw [lg_entry_eq]
  generalize (lg_sl ([.ref h0]) ++ List.replicate (1 - (lg_sl ([.ref h0])).length) Slot.unset).toArray = ls at hl ⊢
  have hl : lv_has ls 1 [(0, .ref h0)] := hl
  refine lv_aload_n hx hb zcX1_init_0 rfl (lv_at hl 0 rfl) ?_
  refine W.objInit hx hb hown (hts _ (zat_in (w := .methodLink RX1 3 Lib.objectInit) (p := 145) (by decide +kernel))) (hts _ (zat_in (w := .instanceMethod Lib.objectInit) (p := 86) (by decide +kernel))) (hts _ (zat_in (w := .code Lib.objectInit ⟨#[0xb1]⟩ 1 none) (p := 87) (by decide +kernel))) rfl (by rw [hml]; exact hl.1) rfl zcX1_init_1 (Nat.le_of_ble_eq_true rfl) (Nat.le_of_ble_eq_true rfl) ?_
  refine W.eq (g2 := F0 m 4 ls []) rfl ?_
  refine lv_aload_n hx hb zcX1_init_4 rfl (lv_at hl 0 rfl) ?_
  refine lv_iconst (v := 1) hx hb zcX1_init_5 (by decide) ?_
  refine va_put (D := (dC, dI)) (ci := 1) (v := .int 1) (ty := .int) (C := RX1) (T := TX1) (N := 2) hx hb hts (zu_in 1 (by decide)) tyX1 tyX1_ok nmX1 hown hK hP hD hS 0 rfl rfl 0 (by decide) (hts _ (zat_in (w := .fieldLink RX1 9 "FusionRules$Fusion" "size" "I") (p := 146) (by decide +kernel))) (fun _ h9 => h9) rfl (by decide +kernel) rfl rfl (Nat.le_of_ble_eq_true rfl) zcX1_init_6 (fun H locs hP hD hS => ?_)
  have hP : va_P (dC, dI) vwCl [(h0, .inr (1, [.int 1, .null]))] H := hP
  have hD : va_D A [(h0, .inr (1, [.int 1, .null]))] := hD
  refine lv_aload_n hx hb zcX1_init_9 rfl (lv_at hl 0 rfl) ?_
  refine lv_bipush (v := 125) hx hb zcX1_init_10 (by decide) ?_
  refine zc_new_int (N := 125) hx hb (hts _ (zat_in (w := .arrayClass .int) (p := 139) (by decide +kernel))) hK hP hD hS hA (by decide) (by decide) (Nat.le_of_ble_eq_true rfl) (Nat.le_of_ble_eq_true rfl) (Nat.le_of_ble_eq_true rfl) zcX1_init_12 (fun q12 H hP hD hS => ?_)
  have hP : va_P (dC, dI) vwCl [(h0, .inr (1, [.int 1, .null])), (q12, .inl (cI, 125, .inl (fun _ => 0)))] H := hP
  have hD : va_D A [(h0, .inr (1, [.int 1, .null])), (q12, .inl (cI, 125, .inl (fun _ => 0)))] := hD
  refine W.widen (k := 1) (n := 125) (by omega) (by omega) ?_
  refine va_putF (D := (dC, dI)) (ci := 1) (v := .ref q12) (ty := .array .int) (C := RX1) (T := TX1) (N := 2) hx hb hts (zu_in 1 (by decide)) tyX1 tyX1_ok nmX1 hown hK hP hD hS 0 rfl rfl 1 (by decide) (hts _ (zat_in (w := .fieldLink RX1 15 "FusionRules$Fusion" "often" "[I") (p := 148) (by decide +kernel))) (fun _ h9 => h9) rfl hin rfl (by decide +kernel) rfl rfl (Nat.le_of_ble_eq_true rfl) zcX1_init_14 (fun H locs hP hD hS => ?_)
  have hP : va_P (dC, dI) vwCl [(h0, .inr (1, [.int 1, .ref q12])), (q12, .inl (cI, 125, .inl (fun _ => 0)))] H := hP
  have hD : va_D A [(h0, .inr (1, [.int 1, .ref q12])), (q12, .inl (cI, 125, .inl (fun _ => 0)))] := hD
  exact W.vret hx hb hr (fun t ht hW => ⟨⟨(), rfl, trivial, q12, by rw [ht]; exact hP, va_K.moved hW.alike hK, hD⟩, hS.F ht⟩) hS.2.2 zcX1_init_17
