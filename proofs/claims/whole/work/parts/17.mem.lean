/-! fields, arrays, switches -/
theorem zcl_at {ci : Nat} (h : ci < 7) : vwCl[ci]? = some (zcl ci) := by
  rcases (show ci = 0 ∨ ci = 1 ∨ ci = 2 ∨ ci = 3 ∨ ci = 4 ∨ ci = 5 ∨ ci = 6 by omega) with rfl | rfl | rfl | rfl | rfl | rfl | rfl <;> rfl
theorem zcl_ws {ci : Nat} (h : ci < 7) : ∀ w ∈ u_ws (zcl ci).1 (zcl ci).2.1 (zcl ci).2.2, w ∈ zwG := by
  intro w hw
  have h1 := List.all_eq_true.mp zvw_c _ (List.mem_of_getElem? (zcl_at h))
  have h2 := List.all_eq_true.mp h1 w hw
  rw [Bool.and_eq_true, decide_eq_true_eq] at h2
  exact List.mem_filter.mpr h2
theorem zcl_ty {ci : Nat} (h : ci < 7) : ∃ ty : Nat → FieldType, (∀ k, k < (zcl ci).2.2 → parseFieldDescriptor ((zcl ci).2.1 k).2.2.1 = some (ty k)) ∧ ∀ a, a < (zcl ci).2.2 → ∀ b, b < (zcl ci).2.2 → a ≠ b → ((zcl ci).2.1 a).2.1 ≠ ((zcl ci).2.1 b).2.1 := by
  rcases (show ci = 0 ∨ ci = 1 ∨ ci = 2 ∨ ci = 3 ∨ ci = 4 ∨ ci = 5 ∨ ci = 6 by omega) with rfl | rfl | rfl | rfl | rfl | rfl | rfl
  · exact ⟨tyX0, tyX0_ok, nmX0⟩
  · exact ⟨tyX1, tyX1_ok, nmX1⟩
  · exact ⟨tyX2, tyX2_ok, nmX2⟩
  · exact ⟨tyX3, tyX3_ok, nmX3⟩
  · exact ⟨tyX4, tyX4_ok, nmX4⟩
  · exact ⟨tyX5, tyX5_ok, nmX5⟩
  · exact ⟨tyX6, tyX6_ok, nmX6⟩
theorem zT_obj {a : Int} (h : zT a = 3) : ∃ k : Nat, k < 58 ∧ a = (k : Int) := zS_nat (by omega) (by omega)
theorem zT_arr {a : Int} (h : zT a < 3) : ∃ k : Nat, k < 58 ∧ a = (k : Int) := zS_nat (by omega) (by omega)
theorem zT_scr {a : Int} (h : zT a = 4) : a = 99 := by
  unfold zT zS at h
  by_cases h1 : a = 99
  · exact h1
  · exfalso
    rw [if_neg h1] at h
    by_cases h2 : 0 ≤ a
    · rw [if_pos h2, List.getD_eq_getElem?_getD] at h
      cases e : zSH[a.toNat]? with
      | none => rw [e] at h; exact absurd h (by decide)
      | some v =>
        rw [e] at h
        have h3 := List.all_eq_true.mp zcok_c _ (List.mem_of_getElem? e)
        unfold zcok at h3
        simp only [Option.getD_some] at h
        rw [if_neg (by omega), decide_eq_true_eq] at h3
        omega
    · rw [if_neg h2] at h; exact absurd h (by decide)
/-- an object's field -/
theorem zG_sp {ex : Nat} {a : Int} (h : ¬ zG ex a = -9) : ∃ k : Nat, k < 58 ∧ a = (k : Int) ∧ zT k = 3 ∧ zN k = ((ex / 32 : Nat) : Int) ∧ ex / 32 < 7 ∧ (zS k).2.2.length = (zcl (ex / 32)).2.2 ∧ ex % 32 < (zS k).2.2.length ∧ (zS k).2.2[ex % 32]? = some (zG ex a) ∧ (zG ex a = -1 → ((zcl (ex / 32)).2.1 (ex % 32)).2.2 = ("I", false)) ∧ (zG ex a = -2 → ((zcl (ex / 32)).2.1 (ex % 32)).2.2 = ("Z", false)) := by
  have hg : zG ex a = if (zS a).1 = 3 ∧ (zS a).2.1 = ((ex / 32 : Nat) : Int) then (zS a).2.2.getD (ex % 32) (-9) else -9 := rfl
  by_cases e : (zS a).1 = 3 ∧ (zS a).2.1 = ((ex / 32 : Nat) : Int)
  · rw [if_pos e] at hg
    obtain ⟨k, hk, rfl⟩ := zT_obj e.1
    have h3 := zS_ok hk
    unfold zcok at h3
    rw [if_pos e.1] at h3
    simp only [Bool.and_eq_true, decide_eq_true_eq, List.all_eq_true, List.mem_range] at h3
    obtain ⟨⟨h4, h5⟩, h6, h7⟩ := h3
    rw [e.2] at h4 h5 h6 h7
    have hl : ex % 32 < (zS k).2.2.length := by
      rcases Nat.lt_or_ge (ex % 32) (zS k).2.2.length with q | q
      · exact q
      · exfalso; apply h; rw [hg, List.getD_eq_getElem?_getD, List.getElem?_eq_none q]; rfl
    have hgk : (zS k).2.2[ex % 32]? = some (zG ex k) := by
      rw [hg, List.getD_eq_getElem?_getD, List.getElem?_eq_getElem hl]; rfl
    have h8 := h7 (ex % 32) hl
    have hg0 : (zS k).2.2.getD (ex % 32) 0 = zG ex k := by rw [List.getD_eq_getElem?_getD, hgk]; rfl
    rw [hg0] at h8
    have hn : (((ex / 32 : Nat) : Int)).toNat = ex / 32 := by omega
    rw [hn] at h6 h8
    refine ⟨k, hk, rfl, e.1, e.2, by omega, h6, hl, hgk, fun q => ?_, fun q => ?_⟩
    · rw [if_pos q, decide_eq_true_eq] at h8; exact h8
    · rw [if_neg (by omega), if_pos q, decide_eq_true_eq] at h8; exact h8
  · rw [if_neg e] at hg; exact absurd hg h
theorem zFL_at {o i ex : Nat} (h : zFL.any (fun q => q.1 == o && (q.2.1 == i && (32 * q.2.2.1 + q.2.2.2.1 == ex))) = true) : zfw o i (ex / 32) (ex % 32) ∈ zwG := by
  obtain ⟨x, hx, hq⟩ := List.any_eq_true.mp h
  have h2 := List.all_eq_true.mp zFL_c x hx
  simp only [Bool.and_eq_true, decide_eq_true_eq, beq_iff_eq] at hq h2
  obtain ⟨h3, h4, h5⟩ := hq
  have h6 := zat_in h2.1
  rw [h3, h4] at h6
  have e1 : ex / 32 = x.2.2.1 := by omega
  have e2 : ex % 32 = x.2.2.2.1 := by omega
  rw [e1, e2]
  exact h6
theorem sv_getfield {p : Program} {l : Launch} {e : Env} {R : Room} {s : State} {m : MethodId} {args : Array Value} {below : List Frame} {meth : Method} {c : Code} {cells slots : Nat} {Qw : State → Prop} {dC : Nat → ClassId} {dI : Nat → Nat → Nat} {q : Nat → Nat} {cI cB cL : ClassId} {L : Nat} {xs : Nat → Int32} (hx : p.tables.exec = Jvm.exec) {cc : ByteArray} (hb : c.code = cc) {pc n : Nat} {lv st : List zV} {μ : zM} {K : List zV → List zV → zM → Prop} {o i ex : Nat} (hown : s.vm.findClass (zcN o) = some m.cls) (hts : ∀ w ∈ zwG, w.before args s = true) (hKK : va_K (dC, dI) vwCl [(cI, .int), (cB, .byte), (cL, .long)] s) (hF : zFL.any (fun q => q.1 == o && (q.2.1 == i && (32 * q.2.2.1 + q.2.2.2.1 == ex))) = true) (hd : decode cc pc = .ok (.getfield i, 3)) (hK : ∀ lv st μ, K lv st μ → zGo p l e R s m args below meth c cells slots Qw dC dI q cI cB cL L xs n (pc + 3) lv st μ) (h : zU 2 st (fun a r => zGet (zG ex a) a ex μ (fun v => K lv (v :: r) μ))) : zGo p l e R s m args below meth c cells slots Qw dC dI q cI cB cL L xs n pc lv st μ := by
  intro H locs ls hw hl hs
  rcases st with _ | ⟨⟨t1, a⟩, r⟩
  · exact h.elim
  obtain ⟨h1, h3⟩ := h
  subst h1
  have hn : ¬ zG ex a = -9 := by
    intro z
    unfold zGet at h3
    rw [z, if_neg (by omega)] at h3
    exact h3.1 rfl
  obtain ⟨k, hk, rfl, hT, hN, h7, hlen, hlt, hat, -, -⟩ := zG_sp hn
  have he : (zws q cI cB cL μ)[k]? = some (q k, .inr (ex / 32, (zS k).2.2.zipIdx.map (zfl q μ k))) := by
    rw [zws_at hk, zcell_o hT, hN]; rfl
  have hv : ((zS k).2.2.zipIdx.map (zfl q μ k))[ex % 32]? = some (zfl q μ k (zG ex k, ex % 32)) := by
    rw [List.getElem?_map, List.getElem?_zipIdx, hat]
    simp
  refine va_get (D := (dC, dI)) (ci := ex / 32) (C := (zcl (ex / 32)).1) (T := (zcl (ex / 32)).2.1) (N := (zcl (ex / 32)).2.2) hx hb hts (zcl_ws h7) hown hKK hw.1 k he (zcl_at h7) (ex % 32) (by omega) (hts _ (zFL_at hF)) (fun _ h9 => h9) hv hd ?_
  unfold zGet at h3
  by_cases hg : 0 ≤ zG ex k
  · rw [if_pos hg] at h3
    have e : zfl q μ k (zG ex k, ex % 32) = ztr q (2, zG ex k) := by unfold zfl; rw [if_pos hg]; rfl
    rw [e]
    exact hK _ _ _ h3 H locs ls hw hl (zst_r (zst_tl hs))
  · rw [if_neg hg] at h3
    have e : zfl q μ k (zG ex k, ex % 32) = ztr q (0, μ k ((ex % 32 : Nat) : Int)) := by unfold zfl; rw [if_neg hg]; rfl
    rw [e]
    exact hK _ _ _ h3.2 H locs ls hw hl (zst_i ((hw.2.2.1 k _).2 (by omega)) (zst_tl hs))
theorem sv_putfield {p : Program} {l : Launch} {e : Env} {R : Room} {s : State} {m : MethodId} {args : Array Value} {below : List Frame} {meth : Method} {c : Code} {cells slots : Nat} {Qw : State → Prop} {dC : Nat → ClassId} {dI : Nat → Nat → Nat} {q : Nat → Nat} {cI cB cL : ClassId} {L : Nat} {xs : Nat → Int32} (hx : p.tables.exec = Jvm.exec) {cc : ByteArray} (hb : c.code = cc) {pc n : Nat} {lv st : List zV} {μ : zM} {K : List zV → List zV → zM → Prop} {o i ex : Nat} (hown : s.vm.findClass (zcN o) = some m.cls) (hts : ∀ w ∈ zwG, w.before args s = true) (hKK : va_K (dC, dI) vwCl [(cI, .int), (cB, .byte), (cL, .long)] s) (hq : zinj q) (hF : zFL.any (fun q => q.1 == o && (q.2.1 == i && (32 * q.2.2.1 + q.2.2.2.1 == ex))) = true) (hd : decode cc pc = .ok (.putfield i, 3)) (hK : ∀ lv st μ, K lv st μ → zGo p l e R s m args below meth c cells slots Qw dC dI q cI cB cL L xs n (pc + 3) lv st μ) (h : zD 0 2 st (fun a v r => zPut (zG ex a) a ex v μ (fun μ => K lv r μ))) : zGo p l e R s m args below meth c cells slots Qw dC dI q cI cB cL L xs n pc lv st μ := by
  intro H locs ls hw hl hs
  rcases st with _ | ⟨⟨t1, v⟩, _ | ⟨⟨t2, a⟩, r⟩⟩
  · exact h.elim
  · exact h.elim
  obtain ⟨h1, h2, h3, h4⟩ := h
  subst h1; subst h2
  have iv := zst_hi hs
  have hn : ¬ zG ex a = -9 := by omega
  obtain ⟨k, hk, rfl, hT, hN, h7, hlen, hlt, hat, hi, hz⟩ := zG_sp hn
  obtain ⟨ty, hty, hnm⟩ := zcl_ty h7
  have he : (zws q cI cB cL μ)[k]? = some (q k, .inr (ex / 32, (zS k).2.2.zipIdx.map (zfl q μ k))) := by
    rw [zws_at hk, zcell_o hT, hN]; rfl
  have hneg : ¬ 0 ≤ zG ex k := by omega
  have hfld : ((zS k).2.2.zipIdx.map (zfl q μ k)).set (ex % 32) (.int (Int32.ofInt v)) = (zS k).2.2.zipIdx.map (zfl q (zu μ k ((ex % 32 : Nat) : Int) v) k) := by
    apply List.ext_getElem?
    intro j
    by_cases hj : j = ex % 32
    · subst hj
      rw [List.getElem?_set_self (by simpa using hlt), List.getElem?_map, List.getElem?_zipIdx, hat]
      simp only [Option.map_some, Nat.zero_add, zfl, if_neg hneg, zu_at]
    · rw [List.getElem?_set_ne (Ne.symm hj), List.getElem?_map, List.getElem?_map, List.getElem?_zipIdx]
      cases (zS k).2.2[j]? with
      | none => rfl
      | some w =>
        simp only [Option.map_some, Nat.zero_add, zfl]
        rw [zu_ne (by omega)]
  have hset : (zws q cI cB cL μ).set k (q k, .inr (ex / 32, ((zS k).2.2.zipIdx.map (zfl q μ k)).set (ex % 32) (.int (Int32.ofInt v)))) = zws q cI cB cL (zu μ k ((ex % 32 : Nat) : Int) v) := by
    rw [hfld, ← zws_set (μ := μ) (μ' := zu μ k ((ex % 32 : Nat) : Int) v) hk (fun j hj i => zu_ne (by omega)), zcell_o hT, hN]
    rfl
  have hrng : zrng (zu μ k ((ex % 32 : Nat) : Int) v) := zu_rng hw.2.2.1 (fun z => by omega) (fun _ => iv)
  have kk : ∀ (H1 : Heap) (locs1 : List Loc), va_P (dC, dI) vwCl ((zws q cI cB cL μ).set k (q k, .inr (ex / 32, ((zS k).2.2.zipIdx.map (zfl q μ k)).set (ex % 32) (.int (Int32.ofInt v))))) H1 → va_D (zA q) ((zws q cI cB cL μ).set k (q k, .inr (ex / 32, ((zS k).2.2.zipIdx.map (zfl q μ k)).set (ex % 32) (.int (Int32.ofInt v))))) → va_S (zA q) s.heap H1 locs1 → W p l e R s m args below meth c H1 locs1 cells slots Qw (F0 m (pc + 3) ls (r.map (ztr q))) := by
    intro H1 locs1 q1 q2 q3
    rw [hset] at q1
    exact hK _ _ _ h4 H1 locs1 ls ⟨q1, q3, hrng, zu_scr hk hw.2.2.2⟩ hl (zst_tl (zst_tl hs))
  rcases h3 with h3 | ⟨h3, h5⟩
  · have hdesc := hi h3
    exact va_put (D := (dC, dI)) (ci := ex / 32) (C := (zcl (ex / 32)).1) (T := (zcl (ex / 32)).2.1) (N := (zcl (ex / 32)).2.2) (ty := .int) hx hb hts (zcl_ws h7) ty hty hnm hown hKK hw.1 (zws_D hq) hw.2.1 k he (zcl_at h7) (ex % 32) (by omega) (hts _ (zFL_at hF)) (fun _ h9 => h9) (by rw [hdesc]) (by rw [hdesc]; decide +kernel) rfl rfl (by simpa using hlt) hd kk
  · have hdesc := hz h3
    have hnar : narrow .boolean (.int (Int32.ofInt v)) = .int (Int32.ofInt v) := by rcases h5 with rfl | rfl <;> decide +kernel
    have hfit : fits .boolean (.int (Int32.ofInt v)) = true := by rcases h5 with rfl | rfl <;> decide +kernel
    exact va_put (D := (dC, dI)) (ci := ex / 32) (C := (zcl (ex / 32)).1) (T := (zcl (ex / 32)).2.1) (N := (zcl (ex / 32)).2.2) (ty := .boolean) hx hb hts (zcl_ws h7) ty hty hnm hown hKK hw.1 (zws_D hq) hw.2.1 k he (zcl_at h7) (ex % 32) (by omega) (hts _ (zFL_at hF)) (fun _ h9 => h9) (by rw [hdesc]) (by rw [hdesc]; decide +kernel) hnar hfit (by simpa using hlt) hd kk
theorem sv_iaload {p : Program} {l : Launch} {e : Env} {R : Room} {s : State} {m : MethodId} {args : Array Value} {below : List Frame} {meth : Method} {c : Code} {cells slots : Nat} {Qw : State → Prop} {dC : Nat → ClassId} {dI : Nat → Nat → Nat} {q : Nat → Nat} {cI cB cL : ClassId} {L : Nat} {xs : Nat → Int32} (hx : p.tables.exec = Jvm.exec) {cc : ByteArray} (hb : c.code = cc) {pc n : Nat} {lv st : List zV} {μ : zM} {K : List zV → List zV → zM → Prop} {b : Nat} (hKK : va_K (dC, dI) vwCl [(cI, .int), (cB, .byte), (cL, .long)] s) (hX : va_X b L xs s s.heap) (hbl : b < s.heap.size) (hbA : ¬ zA q b) (hq9 : q 99 = b) (hd : decode cc pc = .ok (.iaload, 1)) (hK : ∀ lv st μ, K lv st μ → zGo p l e R s m args below meth c cells slots Qw dC dI q cI cB cL L xs n (pc + 1) lv st μ) (h : zD 0 2 st (fun a j r => zAld 0 a j μ (fun v => K lv ((0, v) :: r) μ))) : zGo p l e R s m args below meth c cells slots Qw dC dI q cI cB cL L xs n pc lv st μ := by
  intro H locs ls hw hl hs
  rcases st with _ | ⟨⟨t1, j⟩, _ | ⟨⟨t2, a⟩, r⟩⟩
  · exact h.elim
  · exact h.elim
  obtain ⟨h1, h2, h3⟩ := h
  subst h1; subst h2
  have ij := zst_hi hs
  unfold zAld at h3
  by_cases hT : zT a = 0
  · rw [if_pos hT] at h3
    obtain ⟨h4, h5, h6⟩ := h3
    obtain ⟨k, hk, rfl⟩ := zT_arr (a := a) (by omega)
    have he : (zws q cI cB cL μ)[k]? = some (q k, _) := zws_at hk
    rw [zcell_i hT] at he
    refine va_iald hx hb hKK hw.1 k 0 he rfl (zo_in ij h4 (by have := zN_pos hk; omega)) hd ?_
    have hk2 := hK _ _ _ h6 H locs ls hw hl (zst_i ((hw.2.2.1 k j).2 (by omega)) (zst_tl (zst_tl hs)))
    have e1 : ((Int32.ofInt j).toNatClampNeg : Int) = j := by rw [zo_nat ij]; omega
    rw [e1]
    exact hk2
  · rw [if_neg hT] at h3
    obtain ⟨-, h4, h5, h6, h7⟩ := h3
    have e9 := zT_scr h4
    subst e9
    have hrd := hw.2.2.2.2 j h5 (by rw [← hw.2.2.2.1]; exact h6)
    have hin : vp_in (Int32.ofInt j) L := zo_in ij h5 (by rw [← hw.2.2.2.1]; exact h6)
    show W p l e R s m args below meth c H locs cells slots Qw (F0 m pc ls (.int (Int32.ofInt j) :: .ref (q 99) :: r.map (ztr q)))
    rw [hq9]
    refine va_sld hx hb hX hbl hbA hw.2.1 hin hd ?_
    rw [zo_nat ij]
    have hk := hK _ _ _ h7 H locs ls hw hl (zst_i ((hw.2.2.1 99 j).2 (by decide)) (zst_tl (zst_tl hs)))
    have e2 : ztr q (0, μ 99 j) = .int (xs j.toNat) := by show Value.int (Int32.ofInt (μ 99 j)) = _; rw [hrd, Int32.ofInt_toInt]
    rw [List.map_cons, e2] at hk
    exact hk
theorem sv_baload {p : Program} {l : Launch} {e : Env} {R : Room} {s : State} {m : MethodId} {args : Array Value} {below : List Frame} {meth : Method} {c : Code} {cells slots : Nat} {Qw : State → Prop} {dC : Nat → ClassId} {dI : Nat → Nat → Nat} {q : Nat → Nat} {cI cB cL : ClassId} {L : Nat} {xs : Nat → Int32} (hx : p.tables.exec = Jvm.exec) {cc : ByteArray} (hb : c.code = cc) {pc n : Nat} {lv st : List zV} {μ : zM} {K : List zV → List zV → zM → Prop} {b : Nat} (hKK : va_K (dC, dI) vwCl [(cI, .int), (cB, .byte), (cL, .long)] s) (hX : va_X b L xs s s.heap) (hbl : b < s.heap.size) (hbA : ¬ zA q b) (hq9 : q 99 = b) (hd : decode cc pc = .ok (.baload, 1)) (hK : ∀ lv st μ, K lv st μ → zGo p l e R s m args below meth c cells slots Qw dC dI q cI cB cL L xs n (pc + 1) lv st μ) (h : zD 0 2 st (fun a j r => zAld 1 a j μ (fun v => K lv ((0, v) :: r) μ))) : zGo p l e R s m args below meth c cells slots Qw dC dI q cI cB cL L xs n pc lv st μ := by
  intro H locs ls hw hl hs
  rcases st with _ | ⟨⟨t1, j⟩, _ | ⟨⟨t2, a⟩, r⟩⟩
  · exact h.elim
  · exact h.elim
  obtain ⟨h1, h2, h3⟩ := h
  subst h1; subst h2
  have ij := zst_hi hs
  unfold zAld at h3
  by_cases hT : zT a = 1
  · rw [if_pos hT] at h3
    obtain ⟨h4, h5, h6⟩ := h3
    obtain ⟨k, hk, rfl⟩ := zT_arr (a := a) (by omega)
    have he : (zws q cI cB cL μ)[k]? = some (q k, _) := zws_at hk
    rw [zcell_b hT] at he
    refine va_bald hx hb hKK hw.1 k 1 he rfl (zo_in ij h4 (by have := zN_pos hk; omega)) hd ?_
    have hk2 := hK _ _ _ h6 H locs ls hw hl (zst_i ((hw.2.2.1 k j).2 (by omega)) (zst_tl (zst_tl hs)))
    have e1 : ((Int32.ofInt j).toNatClampNeg : Int) = j := by rw [zo_nat ij]; omega
    rw [e1]
    exact hk2
  · rw [if_neg hT] at h3
    exact absurd h3.1 (by decide)
theorem sv_laload {p : Program} {l : Launch} {e : Env} {R : Room} {s : State} {m : MethodId} {args : Array Value} {below : List Frame} {meth : Method} {c : Code} {cells slots : Nat} {Qw : State → Prop} {dC : Nat → ClassId} {dI : Nat → Nat → Nat} {q : Nat → Nat} {cI cB cL : ClassId} {L : Nat} {xs : Nat → Int32} (hx : p.tables.exec = Jvm.exec) {cc : ByteArray} (hb : c.code = cc) {pc n : Nat} {lv st : List zV} {μ : zM} {K : List zV → List zV → zM → Prop} {b : Nat} (hKK : va_K (dC, dI) vwCl [(cI, .int), (cB, .byte), (cL, .long)] s) (hX : va_X b L xs s s.heap) (hbl : b < s.heap.size) (hbA : ¬ zA q b) (hq9 : q 99 = b) (hd : decode cc pc = .ok (.laload, 1)) (hK : ∀ lv st μ, K lv st μ → zGo p l e R s m args below meth c cells slots Qw dC dI q cI cB cL L xs n (pc + 1) lv st μ) (h : zD 0 2 st (fun a j r => zAld 2 a j μ (fun v => K lv ((1, v) :: r) μ))) : zGo p l e R s m args below meth c cells slots Qw dC dI q cI cB cL L xs n pc lv st μ := by
  intro H locs ls hw hl hs
  rcases st with _ | ⟨⟨t1, j⟩, _ | ⟨⟨t2, a⟩, r⟩⟩
  · exact h.elim
  · exact h.elim
  obtain ⟨h1, h2, h3⟩ := h
  subst h1; subst h2
  have ij := zst_hi hs
  unfold zAld at h3
  by_cases hT : zT a = 2
  · rw [if_pos hT] at h3
    obtain ⟨h4, h5, h6⟩ := h3
    obtain ⟨k, hk, rfl⟩ := zT_arr (a := a) (by omega)
    have he : (zws q cI cB cL μ)[k]? = some (q k, _) := zws_at hk
    rw [zcell_l hT] at he
    refine va_lald hx hb hKK hw.1 k 2 he rfl (zo_in ij h4 (by have := zN_pos hk; omega)) hd ?_
    have hk2 := hK _ _ _ h6 H locs ls hw hl (zst_l ((hw.2.2.1 k j).1 (by omega)) (zst_tl (zst_tl hs)))
    have e1 : ((Int32.ofInt j).toNatClampNeg : Int) = j := by rw [zo_nat ij]; omega
    rw [e1]
    exact hk2
  · rw [if_neg hT] at h3
    exact absurd h3.1 (by decide)
theorem sv_iastore {p : Program} {l : Launch} {e : Env} {R : Room} {s : State} {m : MethodId} {args : Array Value} {below : List Frame} {meth : Method} {c : Code} {cells slots : Nat} {Qw : State → Prop} {dC : Nat → ClassId} {dI : Nat → Nat → Nat} {q : Nat → Nat} {cI cB cL : ClassId} {L : Nat} {xs : Nat → Int32} (hx : p.tables.exec = Jvm.exec) {cc : ByteArray} (hb : c.code = cc) {pc n : Nat} {lv st : List zV} {μ : zM} {K : List zV → List zV → zM → Prop} (hKK : va_K (dC, dI) vwCl [(cI, .int), (cB, .byte), (cL, .long)] s) (hq : zinj q) (hd : decode cc pc = .ok (.iastore, 1)) (hK : ∀ lv st μ, K lv st μ → zGo p l e R s m args below meth c cells slots Qw dC dI q cI cB cL L xs n (pc + 1) lv st μ) (h : zY 0 st (fun a j v r => zAst 0 a j (v) μ (fun μ => K lv r μ))) : zGo p l e R s m args below meth c cells slots Qw dC dI q cI cB cL L xs n pc lv st μ := by
  intro H locs ls hw hl hs
  rcases st with _ | ⟨⟨t1, v⟩, _ | ⟨⟨t2, j⟩, _ | ⟨⟨t3, a⟩, r⟩⟩⟩
  · exact h.elim
  · exact h.elim
  · exact h.elim
  obtain ⟨h1, h2, h3, hT, h4, h5, h6⟩ := h
  subst h1; subst h2; subst h3
  have iv := zst_hi hs
  have ij := zst_hi (zst_tl hs)
  obtain ⟨k, hk, rfl⟩ := zT_arr (a := a) (by omega)
  have he : (zws q cI cB cL μ)[k]? = some (q k, _) := zws_at hk
  rw [zcell_i hT] at he
  have hf : upd (fun i : Nat => Int32.ofInt (μ k i)) j.toNat (Int32.ofInt (v)) = (fun i : Nat => Int32.ofInt (zu μ k j (v) k i)) := by
    funext i
    unfold upd
    by_cases e : i = j.toNat
    · rw [if_pos e]
      have e2 : (i : Int) = j := by omega
      rw [e2, zu_at]
    · rw [if_neg e, zu_ne (by omega)]
  have hset : (zws q cI cB cL μ).set k (q k, .inl (cI, (zN k).toNat, .inl (upd (fun i : Nat => Int32.ofInt (μ k i)) j.toNat (Int32.ofInt (v))))) = zws q cI cB cL (zu μ k j (v)) := by
    rw [hf, ← zws_set (μ := μ) (μ' := zu μ k j (v)) hk (fun j2 hj i => zu_ne (by omega)), zcell_i hT]
  refine va_iast hx hb hKK hw.1 (zws_D hq) hw.2.1 k 0 he rfl (zo_in ij h4 (by have := zN_pos hk; omega)) hd (fun H1 locs1 q1 q2 q3 => ?_)
  rw [zo_nat ij] at q1
  rw [hset] at q1
  exact hK _ _ _ h6 H1 locs1 ls ⟨q1, q3, zu_rng hw.2.2.1 (fun z => by omega) (fun z => iv), zu_scr hk hw.2.2.2⟩ hl (zst_tl (zst_tl (zst_tl hs)))
theorem sv_bastore {p : Program} {l : Launch} {e : Env} {R : Room} {s : State} {m : MethodId} {args : Array Value} {below : List Frame} {meth : Method} {c : Code} {cells slots : Nat} {Qw : State → Prop} {dC : Nat → ClassId} {dI : Nat → Nat → Nat} {q : Nat → Nat} {cI cB cL : ClassId} {L : Nat} {xs : Nat → Int32} (hx : p.tables.exec = Jvm.exec) {cc : ByteArray} (hb : c.code = cc) {pc n : Nat} {lv st : List zV} {μ : zM} {K : List zV → List zV → zM → Prop} (hKK : va_K (dC, dI) vwCl [(cI, .int), (cB, .byte), (cL, .long)] s) (hq : zinj q) (hd : decode cc pc = .ok (.bastore, 1)) (hK : ∀ lv st μ, K lv st μ → zGo p l e R s m args below meth c cells slots Qw dC dI q cI cB cL L xs n (pc + 1) lv st μ) (h : zY 0 st (fun a j v r => zAst 1 a j (zb v) μ (fun μ => K lv r μ))) : zGo p l e R s m args below meth c cells slots Qw dC dI q cI cB cL L xs n pc lv st μ := by
  intro H locs ls hw hl hs
  rcases st with _ | ⟨⟨t1, v⟩, _ | ⟨⟨t2, j⟩, _ | ⟨⟨t3, a⟩, r⟩⟩⟩
  · exact h.elim
  · exact h.elim
  · exact h.elim
  obtain ⟨h1, h2, h3, hT, h4, h5, h6⟩ := h
  subst h1; subst h2; subst h3
  have iv := zst_hi hs
  have ij := zst_hi (zst_tl hs)
  obtain ⟨k, hk, rfl⟩ := zT_arr (a := a) (by omega)
  have he : (zws q cI cB cL μ)[k]? = some (q k, _) := zws_at hk
  rw [zcell_b hT] at he
  have hf : upd (fun i : Nat => Int32.ofInt (μ k i)) j.toNat (Int32.ofInt (zb v)) = (fun i : Nat => Int32.ofInt (zu μ k j (zb v) k i)) := by
    funext i
    unfold upd
    by_cases e : i = j.toNat
    · rw [if_pos e]
      have e2 : (i : Int) = j := by omega
      rw [e2, zu_at]
    · rw [if_neg e, zu_ne (by omega)]
  have hset : (zws q cI cB cL μ).set k (q k, .inl (cB, (zN k).toNat, .inl (upd (fun i : Nat => Int32.ofInt (μ k i)) j.toNat (Int32.ofInt (zb v))))) = zws q cI cB cL (zu μ k j (zb v)) := by
    rw [hf, ← zws_set (μ := μ) (μ' := zu μ k j (zb v)) hk (fun j2 hj i => zu_ne (by omega)), zcell_b hT]
  refine va_bast hx hb hKK hw.1 (zws_D hq) hw.2.1 k 1 he rfl (zo_in ij h4 (by have := zN_pos hk; omega)) hd (fun H1 locs1 q1 q2 q3 => ?_)
  rw [zo_nat ij, zo_byte iv] at q1
  rw [hset] at q1
  exact hK _ _ _ h6 H1 locs1 ls ⟨q1, q3, zu_rng hw.2.2.1 (fun z => by omega) (fun z => zb_in _), zu_scr hk hw.2.2.2⟩ hl (zst_tl (zst_tl (zst_tl hs)))
theorem sv_lastore {p : Program} {l : Launch} {e : Env} {R : Room} {s : State} {m : MethodId} {args : Array Value} {below : List Frame} {meth : Method} {c : Code} {cells slots : Nat} {Qw : State → Prop} {dC : Nat → ClassId} {dI : Nat → Nat → Nat} {q : Nat → Nat} {cI cB cL : ClassId} {L : Nat} {xs : Nat → Int32} (hx : p.tables.exec = Jvm.exec) {cc : ByteArray} (hb : c.code = cc) {pc n : Nat} {lv st : List zV} {μ : zM} {K : List zV → List zV → zM → Prop} (hKK : va_K (dC, dI) vwCl [(cI, .int), (cB, .byte), (cL, .long)] s) (hq : zinj q) (hd : decode cc pc = .ok (.lastore, 1)) (hK : ∀ lv st μ, K lv st μ → zGo p l e R s m args below meth c cells slots Qw dC dI q cI cB cL L xs n (pc + 1) lv st μ) (h : zY 1 st (fun a j v r => zAst 2 a j (v) μ (fun μ => K lv r μ))) : zGo p l e R s m args below meth c cells slots Qw dC dI q cI cB cL L xs n pc lv st μ := by
  intro H locs ls hw hl hs
  rcases st with _ | ⟨⟨t1, v⟩, _ | ⟨⟨t2, j⟩, _ | ⟨⟨t3, a⟩, r⟩⟩⟩
  · exact h.elim
  · exact h.elim
  · exact h.elim
  obtain ⟨h1, h2, h3, hT, h4, h5, h6⟩ := h
  subst h1; subst h2; subst h3
  have iv := zst_hl hs
  have ij := zst_hi (zst_tl hs)
  obtain ⟨k, hk, rfl⟩ := zT_arr (a := a) (by omega)
  have he : (zws q cI cB cL μ)[k]? = some (q k, _) := zws_at hk
  rw [zcell_l hT] at he
  have hf : vp_updL (fun i : Nat => Int64.ofInt (μ k i)) j.toNat (Int64.ofInt (v)) = (fun i : Nat => Int64.ofInt (zu μ k j (v) k i)) := by
    funext i
    unfold vp_updL
    by_cases e : i = j.toNat
    · rw [if_pos e]
      have e2 : (i : Int) = j := by omega
      rw [e2, zu_at]
    · rw [if_neg e, zu_ne (by omega)]
  have hset : (zws q cI cB cL μ).set k (q k, .inl (cL, (zN k).toNat, .inr (.inl (vp_updL (fun i : Nat => Int64.ofInt (μ k i)) j.toNat (Int64.ofInt (v)))))) = zws q cI cB cL (zu μ k j (v)) := by
    rw [hf, ← zws_set (μ := μ) (μ' := zu μ k j (v)) hk (fun j2 hj i => zu_ne (by omega)), zcell_l hT]
  refine va_last hx hb hKK hw.1 (zws_D hq) hw.2.1 k 2 he rfl (zo_in ij h4 (by have := zN_pos hk; omega)) hd (fun H1 locs1 q1 q2 q3 => ?_)
  rw [zo_nat ij] at q1
  rw [hset] at q1
  exact hK _ _ _ h6 H1 locs1 ls ⟨q1, q3, zu_rng hw.2.2.1 (fun z => iv) (fun z => absurd hT z), zu_scr hk hw.2.2.2⟩ hl (zst_tl (zst_tl (zst_tl hs)))
theorem sv_arraylength {p : Program} {l : Launch} {e : Env} {R : Room} {s : State} {m : MethodId} {args : Array Value} {below : List Frame} {meth : Method} {c : Code} {cells slots : Nat} {Qw : State → Prop} {dC : Nat → ClassId} {dI : Nat → Nat → Nat} {q : Nat → Nat} {cI cB cL : ClassId} {L : Nat} {xs : Nat → Int32} (hx : p.tables.exec = Jvm.exec) {cc : ByteArray} (hb : c.code = cc) {pc n : Nat} {lv st : List zV} {μ : zM} {K : List zV → List zV → zM → Prop} {b : Nat} (hKK : va_K (dC, dI) vwCl [(cI, .int), (cB, .byte), (cL, .long)] s) (hX : va_X b L xs s s.heap) (hbl : b < s.heap.size) (hbA : ¬ zA q b) (hq9 : q 99 = b) (hd : decode cc pc = .ok (.arraylength, 1)) (hK : ∀ lv st μ, K lv st μ → zGo p l e R s m args below meth c cells slots Qw dC dI q cI cB cL L xs n (pc + 1) lv st μ) (h : zU 2 st (fun a r => if zT a < 3 then K lv ((0, zN a) :: r) μ else zT a = 4 ∧ K lv ((0, μ 98 0) :: r) μ)) : zGo p l e R s m args below meth c cells slots Qw dC dI q cI cB cL L xs n pc lv st μ := by
  intro H locs ls hw hl hs
  rcases st with _ | ⟨⟨t1, a⟩, r⟩
  · exact h.elim
  obtain ⟨h1, h3⟩ := h
  subst h1
  by_cases hT : zT a < 3
  · rw [if_pos hT] at h3
    obtain ⟨k, hk, rfl⟩ := zT_arr hT
    have hp := zN_pos hk
    have hlt : zN k < 1000 := by
      have := zS_ok hk
      unfold zcok at this
      rw [if_neg (show ¬ (zS k).1 = 3 by unfold zT at hT; omega), decide_eq_true_eq] at this
      exact this.2.2
    have ev : Int32.ofNat (zN k).toNat = Int32.ofInt (zN k) := by
      rw [← Int32.ofInt_eq_ofNat]; congr 1; omega
    have hk2 := hK _ _ _ h3 H locs ls hw hl (zst_i (by unfold zi32; omega) (zst_tl hs))
    have he : (zws q cI cB cL μ)[k]? = some (q k, _) := zws_at hk
    rcases (show zT k = 0 ∨ zT k = 1 ∨ zT k = 2 by omega) with hT | hT | hT
    · rw [zcell_i hT] at he
      exact va_alen hx hb hKK hw.1 k 0 he rfl ev hd hk2
    · rw [zcell_b hT] at he
      exact va_alen hx hb hKK hw.1 k 1 he rfl ev hd hk2
    · rw [zcell_l hT] at he
      exact va_alen hx hb hKK hw.1 k 2 he rfl ev hd hk2
  · rw [if_neg hT] at h3
    have e9 := zT_scr h3.1
    subst e9
    show W p l e R s m args below meth c H locs cells slots Qw (F0 m pc ls (.ref (q 99) :: r.map (ztr q)))
    rw [hq9]
    refine va_slen hx hb hX hbl hbA hw.2.1 hd ?_
    have hk2 := hK _ _ _ h3.2 H locs ls hw hl (zst_i ((hw.2.2.1 98 0).2 (by decide)) (zst_tl hs))
    have e2 : ztr q (0, μ 98 0) = .int (Int32.ofNat L) := by show Value.int (Int32.ofInt (μ 98 0)) = _; rw [hw.2.2.2.1, Int32.ofInt_eq_ofNat]
    rw [List.map_cons, e2] at hk2
    exact hk2
