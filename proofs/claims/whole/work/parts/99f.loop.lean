/-! the law's loop, as a run of the machine -/
set_option maxHeartbeats 40000000 in
theorem whole_loop {p : Program} {e : Env} {s : State} {m : MethodId} {below : List Frame} {meth : Method} {c : Code} (l : Launch) {b L : Nat} {xs : Nat → Int32} (Hops : lawOps) (hL : L ≤ 3072) (hx : p.tables.exec = Jvm.exec) (hb : c.code = code) (hr : meth.sig.returnType = ret) (hml : c.maxLocals = 4) (hown : s.vm.findClass R_law = some m.cls) (hts0 : ∀ w ∈ lw_tbl, w.before #[Value.ref b] s = true) (hX : va_X b L xs s s.heap) (hbl : b < s.heap.size) (hlocks : meth.locks = false) {dC : Nat → ClassId} {dI : Nat → Nat → Nat} {cI cB cL : ClassId} (hK : va_K (dC, dI) vwCl [(cI, .int), (cB, .byte), (cL, .long)] s) {q : Nat → Nat} {H : Heap} (hP : va_P (dC, dI) vwCl (zws q cI cB cL (zmu0 L xs)) H) (hD : va_D (fun q : Nat => s.heap.size ≤ q) (zws q cI cB cL (zmu0 L xs))) (hS : va_S (fun q : Nat => s.heap.size ≤ q) s.heap H []) {x0 m0 : Nat} (e0 : q 0 = x0) (e39 : q 39 = m0) (e99 : q 99 = b) {ls : Array Slot} (hl : lv_has ls 4 [(3, .int 0), (2, .ref m0), (1, .ref x0), (0, .ref b)]) : W p l e room_1 s m #[Value.ref b] below meth c H [] 600000 7302250 (lw_Z below #[Value.ref b] s) (F0 m 18 ls []) := by
  have hts : ∀ w ∈ zwG, w.before #[Value.ref b] s = true := fun w hw => hts0 w (zwG_tbl hw)
  have hge : ∀ k, k < 58 → s.heap.size ≤ q k := fun k hk => hD.2 k _ (zws_at hk)
  have hq : zinj q := fun i j hi hj h => hD.1 i j _ _ (zws_at hi) (zws_at hj) h
  have hbA : ¬ zA q b := fun h => by
    obtain ⟨k, hk, h⟩ := h
    have := hge k hk
    omega
  have hnw : ∀ w ∈ znw, va_Nw w s := fun w hw => by
    have h := hts0 w (znw_c w hw)
    obtain ⟨r, _, rfl⟩ := List.mem_map.mp hw
    exact va_Nw.of rfl h
  have hw : zWd dC dI q cI cB cL L xs s (zmu0 L xs) H [] := by
    refine ⟨hP, ⟨hS.1, fun a h1 h2 => hS.2.1 a h1 (by show ¬ s.heap.size ≤ a; omega), fun q h => by cases h⟩, zmu0_rng hL, zmu0_scr⟩
  have hy : zHy p room_1 s m #[Value.ref b] c 193 40 600000 7302250 dC dI q cI cB cL L b xs := ⟨hx, hb, hml, hown, hts, hnw, hK, hq, Nat.le_of_ble_eq_true rfl, Nat.le_of_ble_eq_true rfl, Nat.le_of_ble_eq_true rfl, Nat.le_of_ble_eq_true rfl, hX, hbl, hbA, e99⟩
  have h98 : zmu0 L xs 98 0 = (L : Int) := zmu0_scr.1
  have run := law_run Hops 4000 0 (zmu0 L xs) zmu0_Rel (by omega) (by omega) (by omega) (by omega)
  have hR : zRt p l e room_1 s m #[Value.ref b] below meth c 600000 7302250 (lw_Z below #[Value.ref b] s) dC dI q cI cB cL L xs 193 (fun r _ => r = 1) := by
    intro r u H' locs ls' pc h1 hw' _ _ _ _ hdg
    subst h1
    refine va_forget (fun a ha => ?_) ?_
    · obtain ⟨k, hk, h⟩ := hw'.2.1.2.2 a ha
      rw [← h]
      exact hge k hk
    · exact lw_ret hx hb hr hlocks hdg
  have go := sL (z := 193) (d := 40) (by omega) hy (fun z2 as μ P h h1 h2 h3 h4 h5 => ⟨39, rfl, sM l hq hbA e99 39 z2 as μ P h1 h.1 h3 h4 h5 h.2⟩) hR run
  refine go H [] ls hw ?_ zst_nil
  refine ⟨rfl, ?_, ?_⟩
  · have e : zasc q [(2, 99), (2, 0), (2, 39), (0, 0)] = [(0, .ref b), (1, .ref x0), (2, .ref m0), (3, .int 0)] := by
      rw [← e0, ← e39, ← e99]
      rfl
    rw [e]
    exact lv_sub hl [3, 2, 1, 0] rfl
  · intro v hv
    simp only [List.mem_cons, List.not_mem_nil, or_false] at hv
    rcases hv with rfl | rfl | rfl | rfl
    · exact ⟨fun h => (by cases h), fun h => (by cases h)⟩
    · exact ⟨fun h => (by cases h), fun h => (by cases h)⟩
    · exact ⟨fun h => (by cases h), fun h => (by cases h)⟩
    · exact ⟨fun _ => (by unfold zi32; omega), fun h => (by cases h)⟩
