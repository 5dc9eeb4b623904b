/-! the fill of the lists' sizes -/
theorem zcJ7_fill_53178_0 : decode cJ7_fill_53178 0 = .ok (.iconst 0, 1) := by decide +kernel
theorem zcJ7_fill_53178_1 : decode cJ7_fill_53178 1 = .ok (.istore_n 2, 1) := by decide +kernel
theorem zcJ7_fill_53178_2 : decode cJ7_fill_53178 2 = .ok (.aload_n 0, 1) := by decide +kernel
theorem zcJ7_fill_53178_3 : decode cJ7_fill_53178 3 = .ok (.arraylength, 1) := by decide +kernel
theorem zcJ7_fill_53178_4 : decode cJ7_fill_53178 4 = .ok (.istore_n 3, 1) := by decide +kernel
theorem zcJ7_fill_53178_5 : decode cJ7_fill_53178 5 = .ok (.iload_n 2, 1) := by decide +kernel
theorem zcJ7_fill_53178_6 : decode cJ7_fill_53178 6 = .ok (.iload_n 3, 1) := by decide +kernel
theorem zcJ7_fill_53178_7 : decode cJ7_fill_53178 7 = .ok (.if_icmp .ge 13, 3) := by decide +kernel
theorem zcJ7_fill_53178_10 : decode cJ7_fill_53178 10 = .ok (.aload_n 0, 1) := by decide +kernel
theorem zcJ7_fill_53178_11 : decode cJ7_fill_53178 11 = .ok (.iload_n 2, 1) := by decide +kernel
theorem zcJ7_fill_53178_12 : decode cJ7_fill_53178 12 = .ok (.iload_n 1, 1) := by decide +kernel
theorem zcJ7_fill_53178_13 : decode cJ7_fill_53178 13 = .ok (.iastore, 1) := by decide +kernel
theorem zcJ7_fill_53178_14 : decode cJ7_fill_53178 14 = .ok (.iinc 2 1, 3) := by decide +kernel
theorem zcJ7_fill_53178_17 : decode cJ7_fill_53178 17 = .ok (.goto (-12), 3) := by decide +kernel
theorem zcJ7_fill_53178_20 : decode cJ7_fill_53178 20 = .ok (.return_, 1) := by decide +kernel
theorem zg_fill : GoodIn zwG (.code yJ7_fill_53178 cJ7_fill_53178 4 none :: zwG) := fun w hw => zg_of (by rcases List.mem_cons.mp hw with rfl | hw; exact zat_in (p := 230) (by decide +kernel); exact hw)
set_option maxHeartbeats 40000000 in
set_option maxRecDepth 100000 in
theorem zi_fill (l : Launch) (dC : Nat → ClassId) (dI : Nat → Nat → Nat) (cI cB cL : ClassId) (h0 : Nat) (sz : Nat) : Met l yJ7_fill_53178 (.code yJ7_fill_53178 cJ7_fill_53178 4 none :: zwG) ({ frames := 1, cells := 0, slots := 0, locals := 12 }) (va_Pc [.ref h0, .int (-11)] (fun U => U.heap.size = sz ∧ va_P (dC, dI) vwCl [(h0, .inl (cI, 4, .inl (fun _ => 0)))] U.heap ∧ va_K (dC, dI) vwCl [(cI, .int), (cB, .byte), (cL, .long)] U ∧ va_D (fun _ => True) [(h0, .inl (cI, 4, .inl (fun _ => 0)))])) (va_Qv (fun _ : Unit => True) (fun _ t => va_P (dC, dI) vwCl [(h0, .inl (cI, 4, .inl (upd (upd (upd (upd (fun _ => 0) 0 (-11)) 1 (-11)) 2 (-11)) 3 (-11))))] t.heap ∧ va_K (dC, dI) vwCl [(cI, .int), (cB, .byte), (cL, .long)] t ∧ va_D (va_A [(h0, .inl (cI, 4, .inl (fun _ => 0)))] sz) [(h0, .inl (cI, 4, .inl (upd (upd (upd (upd (fun _ => 0) 0 (-11)) 1 (-11)) 2 (-11)) 3 (-11))))]) (va_A [(h0, .inl (cI, 4, .inl (fun _ => 0)))] sz)) 0 0 (va_A [(h0, .inl (cI, 4, .inl (fun _ => 0)))] sz) := by
  refine Met.ofW (cc := cJ7_fill_53178) (maxL := 4) (ret := none) (by decide) rfl ?_
  intro p e s m args below meth c s₁ B hml hv
  obtain ⟨rfl, hsz, hP, hK, hD0⟩ := hv
  have hx := B.exec
  have hb := B.bytes
  have hr := B.returns
  have hlocks := B.notSynchronized
  subst hsz
  have hD := hD0.self (sz := s.heap.size)
  generalize hAe : va_A [(h0, .inl (cI, 4, .inl (fun _ => 0)))] s.heap.size = A at hD ⊢
  have hA : ∀ q : Nat, s.heap.size ≤ q → A q := fun q h => by rw [← hAe]; exact Or.inr h
  have hS : va_S A s.heap s.heap [] := va_S.rf
  have hl := lv_entry ([.ref h0, .int (-11)]) (n := 4) (Nat.le_of_ble_eq_true rfl)
  rw [lg_entry_eq]
  generalize (lg_sl ([.ref h0, .int (-11)]) ++ List.replicate (4 - (lg_sl ([.ref h0, .int (-11)])).length) Slot.unset).toArray = ls at hl ⊢
  have hl : lv_has ls 4 [(0, .ref h0), (1, .int (-11))] := hl
  refine lv_iconst (v := 0) hx hb zcJ7_fill_53178_0 (by decide) ?_
  refine lv_istore_n (lv' := [(2, .int 0), (0, .ref h0), (1, .int (-11))]) hx hb zcJ7_fill_53178_1 rfl hl (by decide) rfl (fun ls hl => ?_)
  refine lv_aload_n hx hb zcJ7_fill_53178_2 rfl (lv_at hl 1 rfl) ?_
  refine va_alen hx hb hK hP 0 0 rfl rfl (v := 4) (by decide) zcJ7_fill_53178_3 ?_
  refine lv_istore_n (lv' := [(3, .int 4), (2, .int 0), (0, .ref h0), (1, .int (-11))]) hx hb zcJ7_fill_53178_4 rfl hl (by decide) rfl (fun ls hl => ?_)
  refine lv_iload_n hx hb zcJ7_fill_53178_5 rfl (lv_at hl 1 rfl) ?_
  refine lv_iload_n hx hb zcJ7_fill_53178_6 rfl (lv_at hl 0 rfl) ?_
  refine lv_icmp_ge (tgt := 20) hx hb zcJ7_fill_53178_7 (by decide) (fun c9 => absurd c9 (by decide)) (fun c9 => ?_)
  refine lv_aload_n hx hb zcJ7_fill_53178_10 rfl (lv_at hl 2 rfl) ?_
  refine lv_iload_n hx hb zcJ7_fill_53178_11 rfl (lv_at hl 1 rfl) ?_
  refine lv_iload_n hx hb zcJ7_fill_53178_12 rfl (lv_at hl 3 rfl) ?_
  refine va_iast hx hb hK hP hD hS 0 0 rfl rfl (i := 0) (x := (-11)) (by unfold vp_in; decide) zcJ7_fill_53178_13 (fun H locs hP hD hS => ?_)
  have hP : va_P (dC, dI) vwCl [(h0, .inl (cI, 4, .inl (upd (fun _ => 0) 0 (-11))))] H := hP
  have hD : va_D A [(h0, .inl (cI, 4, .inl (upd (fun _ => 0) 0 (-11))))] := hD
  refine lv_iinc (v := 1) (lv' := [(2, .int 1), (3, .int 4), (0, .ref h0), (1, .int (-11))]) hx hb zcJ7_fill_53178_14 hl (k := 1) rfl (by decide) (by decide) rfl (fun ls hl => ?_)
  refine lv_goto (tgt := 5) hx hb zcJ7_fill_53178_17 (by decide) ?_
  refine lv_iload_n hx hb zcJ7_fill_53178_5 rfl (lv_at hl 0 rfl) ?_
  refine lv_iload_n hx hb zcJ7_fill_53178_6 rfl (lv_at hl 1 rfl) ?_
  refine lv_icmp_ge (tgt := 20) hx hb zcJ7_fill_53178_7 (by decide) (fun c9 => absurd c9 (by decide)) (fun c9 => ?_)
  refine lv_aload_n hx hb zcJ7_fill_53178_10 rfl (lv_at hl 2 rfl) ?_
  refine lv_iload_n hx hb zcJ7_fill_53178_11 rfl (lv_at hl 0 rfl) ?_
  refine lv_iload_n hx hb zcJ7_fill_53178_12 rfl (lv_at hl 3 rfl) ?_
  refine va_iast hx hb hK hP hD hS 0 0 rfl rfl (i := 1) (x := (-11)) (by unfold vp_in; decide) zcJ7_fill_53178_13 (fun H locs hP hD hS => ?_)
  have hP : va_P (dC, dI) vwCl [(h0, .inl (cI, 4, .inl (upd (upd (fun _ => 0) 0 (-11)) 1 (-11))))] H := hP
  have hD : va_D A [(h0, .inl (cI, 4, .inl (upd (upd (fun _ => 0) 0 (-11)) 1 (-11))))] := hD
  refine lv_iinc (v := 2) (lv' := [(2, .int 2), (3, .int 4), (0, .ref h0), (1, .int (-11))]) hx hb zcJ7_fill_53178_14 hl (k := 0) rfl (by decide) (by decide) rfl (fun ls hl => ?_)
  refine lv_goto (tgt := 5) hx hb zcJ7_fill_53178_17 (by decide) ?_
  refine lv_iload_n hx hb zcJ7_fill_53178_5 rfl (lv_at hl 0 rfl) ?_
  refine lv_iload_n hx hb zcJ7_fill_53178_6 rfl (lv_at hl 1 rfl) ?_
  refine lv_icmp_ge (tgt := 20) hx hb zcJ7_fill_53178_7 (by decide) (fun c9 => absurd c9 (by decide)) (fun c9 => ?_)
  refine lv_aload_n hx hb zcJ7_fill_53178_10 rfl (lv_at hl 2 rfl) ?_
  refine lv_iload_n hx hb zcJ7_fill_53178_11 rfl (lv_at hl 0 rfl) ?_
  refine lv_iload_n hx hb zcJ7_fill_53178_12 rfl (lv_at hl 3 rfl) ?_
  refine va_iast hx hb hK hP hD hS 0 0 rfl rfl (i := 2) (x := (-11)) (by unfold vp_in; decide) zcJ7_fill_53178_13 (fun H locs hP hD hS => ?_)
  have hP : va_P (dC, dI) vwCl [(h0, .inl (cI, 4, .inl (upd (upd (upd (fun _ => 0) 0 (-11)) 1 (-11)) 2 (-11))))] H := hP
  have hD : va_D A [(h0, .inl (cI, 4, .inl (upd (upd (upd (fun _ => 0) 0 (-11)) 1 (-11)) 2 (-11))))] := hD
  refine lv_iinc (v := 3) (lv' := [(2, .int 3), (3, .int 4), (0, .ref h0), (1, .int (-11))]) hx hb zcJ7_fill_53178_14 hl (k := 0) rfl (by decide) (by decide) rfl (fun ls hl => ?_)
  refine lv_goto (tgt := 5) hx hb zcJ7_fill_53178_17 (by decide) ?_
  refine lv_iload_n hx hb zcJ7_fill_53178_5 rfl (lv_at hl 0 rfl) ?_
  refine lv_iload_n hx hb zcJ7_fill_53178_6 rfl (lv_at hl 1 rfl) ?_
  refine lv_icmp_ge (tgt := 20) hx hb zcJ7_fill_53178_7 (by decide) (fun c9 => absurd c9 (by decide)) (fun c9 => ?_)
  refine lv_aload_n hx hb zcJ7_fill_53178_10 rfl (lv_at hl 2 rfl) ?_
  refine lv_iload_n hx hb zcJ7_fill_53178_11 rfl (lv_at hl 0 rfl) ?_
  refine lv_iload_n hx hb zcJ7_fill_53178_12 rfl (lv_at hl 3 rfl) ?_
  refine va_iast hx hb hK hP hD hS 0 0 rfl rfl (i := 3) (x := (-11)) (by unfold vp_in; decide) zcJ7_fill_53178_13 (fun H locs hP hD hS => ?_)
  have hP : va_P (dC, dI) vwCl [(h0, .inl (cI, 4, .inl (upd (upd (upd (upd (fun _ => 0) 0 (-11)) 1 (-11)) 2 (-11)) 3 (-11))))] H := hP
  have hD : va_D A [(h0, .inl (cI, 4, .inl (upd (upd (upd (upd (fun _ => 0) 0 (-11)) 1 (-11)) 2 (-11)) 3 (-11))))] := hD
  refine lv_iinc (v := 4) (lv' := [(2, .int 4), (3, .int 4), (0, .ref h0), (1, .int (-11))]) hx hb zcJ7_fill_53178_14 hl (k := 0) rfl (by decide) (by decide) rfl (fun ls hl => ?_)
  refine lv_goto (tgt := 5) hx hb zcJ7_fill_53178_17 (by decide) ?_
  refine lv_iload_n hx hb zcJ7_fill_53178_5 rfl (lv_at hl 0 rfl) ?_
  refine lv_iload_n hx hb zcJ7_fill_53178_6 rfl (lv_at hl 1 rfl) ?_
  refine lv_icmp_ge (tgt := 20) hx hb zcJ7_fill_53178_7 (by decide) (fun c9 => ?_) (fun c9 => absurd (by decide) c9)
  exact W.vret hx hb hr (fun t ht hW => ⟨⟨(), rfl, trivial, by rw [ht]; exact hP, va_K.moved hW.alike hK, hD⟩, hS.F ht⟩) hS.2.2 zcJ7_fill_53178_20
