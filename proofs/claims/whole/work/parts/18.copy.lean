/-! calls, switches, copies -/
theorem zcw_sum {q : Nat → Nat} : ∀ {r : List zV}, (((r.map (ztr q)).map fun v => v.category)).sum = zcw r
  | [] => rfl
  | v :: r => by
    simp only [List.map_cons, List.sum_cons, zcw]
    rw [zcw_sum (q := q) (r := r)]
    by_cases h : v.1 = 1
    · rw [if_pos h, zcat.mpr h]
    · rw [if_neg h]
      rcases lv_cat (ztr q v) with h1 | h1
      · rw [h1]
      · exact absurd (zcat.mp h1) h
theorem zcs {q : Nat → Nat} : ∀ {r : List zV} {n : Nat}, r.length ≤ n → (((r.map (ztr q)).map fun v => v.category)).sum ≤ 2 * n
  | [], n, _ => by simp
  | v :: r, n, h => by
    simp only [List.length_cons] at h
    have := zcs (q := q) (r := r) (n := n - 1) (by omega)
    simp only [List.map_cons, List.sum_cons]
    rcases lv_cat (ztr q v) with h1 | h1 <;> omega
theorem ztab_sw {pc : Nat} {x : Int} {d : Nat} {k : Nat → Prop} : ∀ (offs : List Int) (lo : Int) (tb : List (Int × Nat)), ztab pc lo offs tb = true → zSw tb x d k → (∀ (i : Nat) (off : Int), offs[i]? = some off → x = lo + i → ∃ t : Nat, (pc : Int) + off = (t : Int) ∧ k t) ∧ ((x < lo ∨ lo + offs.length ≤ x) → k d)
  | [], lo, [], _, h => ⟨fun i off hi => by simp at hi, fun _ => h⟩
  | [], lo, _ :: _, hc, _ => by simp [ztab] at hc
  | _ :: _, lo, [], hc, _ => by simp [ztab] at hc
  | o :: os, lo, (v, t) :: tb, hc, h => by
    unfold ztab zjmp at hc
    simp only [Bool.and_eq_true, decide_eq_true_eq] at hc
    obtain ⟨⟨h1, h2⟩, h3⟩ := hc
    refine ⟨fun i off hi hx => ?_, fun hx => ?_⟩
    · cases i with
      | zero =>
        simp only [List.getElem?_cons_zero, Option.some.injEq] at hi
        exact ⟨t, by rw [← hi]; exact h2, h.1 (by omega)⟩
      | succ i =>
        simp only [List.getElem?_cons_succ] at hi
        exact (ztab_sw os (lo + 1) tb h3 (h.2 (by omega))).1 i off hi (by omega)
    · simp only [List.length_cons] at hx
      exact (ztab_sw os (lo + 1) tb h3 (h.2 (by omega))).2 (by omega)
theorem zlkp_sw {pc : Nat} {x : Int} {d : Nat} {k : Nat → Prop} {dd : Int} (hd : (pc : Int) + dd = (d : Int)) : ∀ (ps : List (Int × Int)) (tb : List (Int × Nat)), zlkp pc ps tb = true → zSw tb x d k → ∃ t : Nat, (pc : Int) + Op.lookupswitch.offset ps dd x = (t : Int) ∧ k t
  | [], [], _, h => ⟨d, hd, h⟩
  | [], _ :: _, hc, _ => by simp [zlkp] at hc
  | _ :: _, [], hc, _ => by simp [zlkp] at hc
  | (a, o) :: os, (v, t) :: tb, hc, h => by
    unfold zlkp zjmp at hc
    simp only [Bool.and_eq_true, decide_eq_true_eq] at hc
    obtain ⟨⟨h1, h2⟩, h3⟩ := hc
    rw [Op.lookupswitch.offset_cons]
    by_cases e : a = x
    · rw [if_pos e]
      exact ⟨t, h2, h.1 (by omega)⟩
    · rw [if_neg e]
      exact zlkp_sw hd os tb h3 (h.2 (by omega))
theorem sv_tableswitch {p : Program} {l : Launch} {e : Env} {R : Room} {s : State} {m : MethodId} {args : Array Value} {below : List Frame} {meth : Method} {c : Code} {cells slots : Nat} {Qw : State → Prop} {dC : Nat → ClassId} {dI : Nat → Nat → Nat} {q : Nat → Nat} {cI cB cL : ClassId} {L : Nat} {xs : Nat → Int32} (hx : p.tables.exec = Jvm.exec) {cc : ByteArray} (hb : c.code = cc) {pc n : Nat} {lv st : List zV} {μ : zM} {d0 lo hi : Int} {offs : Array Int} {tb : List (Int × Nat)} {len : Nat} {S : Nat → List zV → List zV → zM → Prop} {ex : Nat} (ht : (pc : Int) + d0 = (ex : Int)) (htab : ztab pc lo offs.toList tb = true) (hhi : hi = lo + (offs.size : Int) - 1) (hS : ∀ L2 lv st μ, S L2 lv st μ → zGo p l e R s m args below meth c cells slots Qw dC dI q cI cB cL L xs n L2 lv st μ) (hd : decode cc pc = .ok (.tableswitch d0 lo hi offs, len))  (h : zU 0 st (fun a r => zSw tb a ex (fun t => S t lv r μ))) : zGo p l e R s m args below meth c cells slots Qw dC dI q cI cB cL L xs n pc lv st μ := by
  intro H locs ls hw hl hs
  rcases st with _ | ⟨⟨t1, a⟩, r⟩
  · exact h.elim
  obtain ⟨h1, h3⟩ := h
  subst h1
  have ia := zst_hi hs
  have hs2 := zst_tl hs
  obtain ⟨k1, k2⟩ := ztab_sw offs.toList lo tb htab h3
  by_cases e : a < lo ∨ hi < a
  · refine lv_tableOut hx hb hd (by rw [zt32 ia]; exact e) ht ?_
    exact hS _ _ _ _ (k2 (by rw [Array.length_toList]; omega)) H locs ls hw hl hs2
  · have hi2 : (a - lo).toNat < offs.toList.length := by rw [Array.length_toList]; omega
    obtain ⟨t, h4, h5⟩ := k1 (a - lo).toNat _ (List.getElem?_eq_getElem hi2) (by omega)
    refine lv_tableIn hx hb hd (by rw [zt32 ia]; omega) (by rw [zt32 ia]; omega) (by rw [zt32 ia, ← Array.getElem?_toList, List.getElem?_eq_getElem hi2]) h4 ?_
    exact hS _ _ _ _ h5 H locs ls hw hl hs2
theorem sv_lookupswitch {p : Program} {l : Launch} {e : Env} {R : Room} {s : State} {m : MethodId} {args : Array Value} {below : List Frame} {meth : Method} {c : Code} {cells slots : Nat} {Qw : State → Prop} {dC : Nat → ClassId} {dI : Nat → Nat → Nat} {q : Nat → Nat} {cI cB cL : ClassId} {L : Nat} {xs : Nat → Int32} (hx : p.tables.exec = Jvm.exec) {cc : ByteArray} (hb : c.code = cc) {pc n : Nat} {lv st : List zV} {μ : zM} {d0 : Int} {ps : Array (Int × Int)} {tb : List (Int × Nat)} {len : Nat} {S : Nat → List zV → List zV → zM → Prop} {ex : Nat} (ht : (pc : Int) + d0 = (ex : Int)) (htab : zlkp pc ps.toList tb = true) (hord : (ps.toList.zip (ps.toList.drop 1)).all (fun (a, next) => a.1 < next.1) = true) (hS : ∀ L2 lv st μ, S L2 lv st μ → zGo p l e R s m args below meth c cells slots Qw dC dI q cI cB cL L xs n L2 lv st μ) (hd : decode cc pc = .ok (.lookupswitch d0 ps, len))  (h : zU 0 st (fun a r => zSw tb a ex (fun t => S t lv r μ))) : zGo p l e R s m args below meth c cells slots Qw dC dI q cI cB cL L xs n pc lv st μ := by
  intro H locs ls hw hl hs
  rcases st with _ | ⟨⟨t1, a⟩, r⟩
  · exact h.elim
  obtain ⟨h1, h3⟩ := h
  subst h1
  have ia := zst_hi hs
  obtain ⟨t, h4, h5⟩ := zlkp_sw ht ps.toList tb htab h3
  refine lv_lookup hx hb hd hord rfl (by rw [zt32 ia]; exact h4) ?_
  exact hS _ _ _ _ h5 H locs ls hw hl (zst_tl hs)
theorem zCP_at {o i : Nat} (h : zCP.any (fun q => q.1 == o && q.2.1 == i) = true) : Cond.methodLink (zcN o) i arraycopyName ∈ zwG := by
  obtain ⟨x, hx, hq⟩ := List.any_eq_true.mp h
  have h2 := zat_in (List.all_eq_true.mp zCP_c x hx)
  simp only [Bool.and_eq_true, beq_iff_eq] at hq
  rw [hq.1, hq.2] at h2
  exact h2
theorem zML_at {o i k : Nat} (h : zML.any (fun q => q.1 == o && (q.2.1 == i && q.2.2.1 == k)) = true) : Cond.methodLink (zcN o) i (zmth k) ∈ zwG := by
  obtain ⟨x, hx, hq⟩ := List.any_eq_true.mp h
  have h2 := zat_in (List.all_eq_true.mp zML_c x hx)
  simp only [Bool.and_eq_true, beq_iff_eq] at hq
  rw [hq.1, hq.2.1, hq.2.2] at h2
  exact h2
theorem sv_copy {p : Program} {l : Launch} {e : Env} {R : Room} {s : State} {m : MethodId} {args : Array Value} {below : List Frame} {meth : Method} {c : Code} {cells slots : Nat} {Qw : State → Prop} {dC : Nat → ClassId} {dI : Nat → Nat → Nat} {q : Nat → Nat} {cI cB cL : ClassId} {L : Nat} {xs : Nat → Int32} (hx : p.tables.exec = Jvm.exec) {cc : ByteArray} (hb : c.code = cc) {pc n : Nat} {lv st : List zV} {μ : zM} {K : List zV → List zV → zM → Prop} {o i : Nat} (hown : s.vm.findClass (zcN o) = some m.cls) (hts : ∀ w ∈ zwG, w.before args s = true) (hKK : va_K (dC, dI) vwCl [(cI, .int), (cB, .byte), (cL, .long)] s) (hq : zinj q) (hml : c.maxLocals = n) (hfr : 1 ≤ R.frames) (hlo : 100 ≤ R.locals) (hF : zCP.any (fun q => q.1 == o && q.2.1 == i) = true) (hd : decode cc pc = .ok (.invokestatic i, 3)) (hK : ∀ lv st μ, K lv st μ → zGo p l e R s m args below meth c cells slots Qw dC dI q cI cB cL L xs n (pc + 3) lv st μ) (h : zCopy st μ (fun st μ => K lv st μ)) : zGo p l e R s m args below meth c cells slots Qw dC dI q cI cB cL L xs n pc lv st μ := by
  intro H locs ls hw hl hs
  unfold zCopy at h
  split at h
  case h_2 => exact h.elim
  rename_i t1 nn t2 dp t3 bb t4 sp t5 aa r
  obtain ⟨⟨h1, h2, h3, h4, h5⟩, hT, hT2, p1, p2, p3, p4, p5, p6, h6⟩ := h
  subst h1; subst h2; subst h3; subst h4; subst h5
  have inn := zst_hi hs
  have idp := zst_hi (zst_tl hs)
  have isp := zst_hi (zst_tl (zst_tl (zst_tl hs)))
  have hs2 := zst_tl (zst_tl (zst_tl (zst_tl (zst_tl hs))))
  obtain ⟨ka, hka, rfl⟩ := zT_arr (a := aa) (by omega)
  obtain ⟨kb, hkb, rfl⟩ := zT_arr (a := bb) (by omega)
  have hea : (zws q cI cB cL μ)[ka]? = some (q ka, _) := zws_at hka
  have heb : (zws q cI cB cL μ)[kb]? = some (q kb, _) := zws_at hkb
  have nea := zN_pos hka
  have neb := zN_pos hkb
  have hlink := hts _ (zCP_at hF)
  have hsum : (((r.map (ztr q)).map fun v => v.category)).sum + (nativeFrameWords "java/lang/System" "arraycopy" 5 + 11) ≤ R.locals := by
    have := zcs (q := q) p6
    have e : nativeFrameWords "java/lang/System" "arraycopy" 5 = 7 := by decide
    omega
  have hml2 : c.maxLocals = ls.size := by rw [hml, hl.2.1.1]
  have fin : ∀ (H1 : Heap) (locs1 : List Loc), va_P (dC, dI) vwCl (zws q cI cB cL (zcp μ ka kb sp dp nn)) H1 → va_S (zA q) s.heap H1 locs1 → W p l e R s m args below meth c H1 locs1 cells slots Qw (F0 m (pc + 3) ls (r.map (ztr q))) := fun H1 locs1 q1 q3 => hK _ _ _ h6 H1 locs1 ls ⟨q1, q3, zcp_rng hT hw.2.2.1, zcp_scr hkb hw.2.2.2⟩ hl hs2
  have oth : ∀ j : Nat, j ≠ kb → ∀ i, zcp μ ka kb sp dp nn j i = μ j i := by
    intro j hj i
    unfold zcp
    rw [if_neg (by omega)]
  have cpy : ∀ {α : Type} (F : Int → α), va_cpy (fun i : Nat => F (μ ka i)) (fun i : Nat => F (μ kb i)) sp.toNat dp.toNat nn.toNat = fun i : Nat => F (zcp μ ka kb sp dp nn kb i) := by
    intro α F
    funext i
    unfold va_cpy zcp
    by_cases e1 : dp.toNat ≤ i ∧ i < dp.toNat + nn.toNat
    · have e2 : ((sp.toNat + (i - dp.toNat) : Nat) : Int) = sp + ((i : Int) - dp) := by omega
      rw [if_pos e1, if_pos (by omega)]
      show F (μ ka ((sp.toNat + (i - dp.toNat) : Nat) : Int)) = _
      rw [e2]
    · rw [if_neg e1, if_neg (by omega)]
  rcases hT2 with hT2 | hT2
  · have hTb : zT kb = 0 := by omega
    rw [zcell_i hT2] at hea
    rw [zcell_i hTb] at heb
    refine va_copyi hx hb hml2 hown hlink (hts _ (zsy_c _ (by simp))) (hts _ (zsy_c _ (by simp))) (hts _ (zsy_c _ (by simp))) hKK hw.1 (zws_D hq) hw.2.1 ka kb 0 0 hea heb rfl rfl rfl (zo_nn isp p1) (zo_nn idp p2) (zo_nn inn p3) (by rw [zo_nat isp, zo_nat inn]; omega) (by rw [zo_nat idp, zo_nat inn]; omega) (fun _ _ => rfl) hfr hsum hd (fun H1 locs1 q1 q2 q3 => fin H1 locs1 ?_ q3)
    rw [zo_nat isp, zo_nat idp, zo_nat inn, cpy Int32.ofInt] at q1
    rw [← zws_set (μ := μ) (μ' := zcp μ ka kb sp dp nn) hkb oth, zcell_i hTb]
    exact q1
  · have hTb : zT kb = 2 := by omega
    rw [zcell_l hT2] at hea
    rw [zcell_l hTb] at heb
    refine va_copyl hx hb hml2 hown hlink (hts _ (zsy_c _ (by simp))) (hts _ (zsy_c _ (by simp))) (hts _ (zsy_c _ (by simp))) hKK hw.1 (zws_D hq) hw.2.1 ka kb 2 2 hea heb rfl rfl rfl (zo_nn isp p1) (zo_nn idp p2) (zo_nn inn p3) (by rw [zo_nat isp, zo_nat inn]; omega) (by rw [zo_nat idp, zo_nat inn]; omega) (fun _ _ => rfl) hfr hsum hd (fun H1 locs1 q1 q2 q3 => fin H1 locs1 ?_ q3)
    rw [zo_nat isp, zo_nat idp, zo_nat inn, cpy Int64.ofInt] at q1
    rw [← zws_set (μ := μ) (μ' := zcp μ ka kb sp dp nn) hkb oth, zcell_l hTb]
    exact q1
theorem sv_mabs {p : Program} {l : Launch} {e : Env} {R : Room} {s : State} {m : MethodId} {args : Array Value} {below : List Frame} {meth : Method} {c : Code} {cells slots : Nat} {Qw : State → Prop} {dC : Nat → ClassId} {dI : Nat → Nat → Nat} {q : Nat → Nat} {cI cB cL : ClassId} {L : Nat} {xs : Nat → Int32} (hx : p.tables.exec = Jvm.exec) {cc : ByteArray} (hb : c.code = cc) {pc n : Nat} {lv st : List zV} {μ : zM} {K : List zV → List zV → zM → Prop} {o i : Nat} (hown : s.vm.findClass (zcN o) = some m.cls) (hts : ∀ w ∈ zwG, w.before args s = true) (hKK : va_K (dC, dI) vwCl [(cI, .int), (cB, .byte), (cL, .long)] s) (hml : c.maxLocals = n) (hfr : 1 ≤ R.frames) (hlo : 100 ≤ R.locals) (hce : cells ≤ R.cells) (hsl : slots ≤ R.slots) (hF : zML.any (fun q => q.1 == o && (q.2.1 == i && q.2.2.1 == 10)) = true) (hd : decode cc pc = .ok (.invokestatic i, 3)) (hK : ∀ lv st μ, K lv st μ → zGo p l e R s m args below meth c cells slots Qw dC dI q cI cB cL L xs n (pc + 3) lv st μ) (h : zU 0 st (fun a r => r.length ≤ 4 ∧ K lv ((0, if 0 ≤ a then a else zw (0 - a)) :: r) μ)) : zGo p l e R s m args below meth c cells slots Qw dC dI q cI cB cL L xs n pc lv st μ := by
  intro H locs ls hw hl hs
  rcases st with _ | ⟨⟨t1, a⟩, r⟩
  · exact h.elim
  obtain ⟨h1, h3, h4⟩ := h
  subst h1
  have ia := zst_hi hs
  have hs2 := zst_tl hs
  have hk := hK _ _ _ h4 H locs ls hw hl (zst_i (by split; exact ia; exact zw_in _) hs2)
  have e : (if (0 : Int32) ≤ Int32.ofInt a then Int32.ofInt a else 0 - Int32.ofInt a) = Int32.ofInt (if 0 ≤ a then a else zw (0 - a)) := by
    have e1 := zo_le zi0 ia
    rw [zo_0] at e1
    by_cases e2 : 0 ≤ a
    · rw [if_pos (e1.mpr e2), if_pos e2]
    · rw [if_neg (fun z => e2 (e1.mp z)), if_neg e2, ← zo_sub, zo_0]
  have hsum := zcs (q := q) h3
  refine va_mabs hx hb (by rw [hml, hl.2.1.1]) hown (hts _ (zML_at hF)) (hts _ (zat_in zMa_c.1)) (hts _ (zat_in zMa_c.2.2.1)) (hts _ (zat_in zMa_c.2.1)) hfr (by omega) hce hsl hd ?_
  rw [e]
  exact hk
theorem sv_mmin {p : Program} {l : Launch} {e : Env} {R : Room} {s : State} {m : MethodId} {args : Array Value} {below : List Frame} {meth : Method} {c : Code} {cells slots : Nat} {Qw : State → Prop} {dC : Nat → ClassId} {dI : Nat → Nat → Nat} {q : Nat → Nat} {cI cB cL : ClassId} {L : Nat} {xs : Nat → Int32} (hx : p.tables.exec = Jvm.exec) {cc : ByteArray} (hb : c.code = cc) {pc n : Nat} {lv st : List zV} {μ : zM} {K : List zV → List zV → zM → Prop} {o i : Nat} (hown : s.vm.findClass (zcN o) = some m.cls) (hts : ∀ w ∈ zwG, w.before args s = true) (hKK : va_K (dC, dI) vwCl [(cI, .int), (cB, .byte), (cL, .long)] s) (hml : c.maxLocals = n) (hfr : 1 ≤ R.frames) (hlo : 100 ≤ R.locals) (hce : cells ≤ R.cells) (hsl : slots ≤ R.slots) (hF : zML.any (fun q => q.1 == o && (q.2.1 == i && q.2.2.1 == 11)) = true) (hd : decode cc pc = .ok (.invokestatic i, 3)) (hK : ∀ lv st μ, K lv st μ → zGo p l e R s m args below meth c cells slots Qw dC dI q cI cB cL L xs n (pc + 3) lv st μ) (h : zD 0 0 st (fun a b r => r.length ≤ 4 ∧ K lv ((0, if b < a then b else a) :: r) μ)) : zGo p l e R s m args below meth c cells slots Qw dC dI q cI cB cL L xs n pc lv st μ := by
  intro H locs ls hw hl hs
  rcases st with _ | ⟨⟨t1, b⟩, _ | ⟨⟨t2, a⟩, r⟩⟩
  · exact h.elim
  · exact h.elim
  obtain ⟨h1, h2, h3, h4⟩ := h
  subst h1; subst h2
  have ib := zst_hi hs
  have ia := zst_hi (zst_tl hs)
  have hs2 := zst_tl (zst_tl hs)
  have hk := hK _ _ _ h4 H locs ls hw hl (zst_i (by split; exact ib; exact ia) hs2)
  have e : (if Int32.ofInt b < Int32.ofInt a then Int32.ofInt b else Int32.ofInt a) = Int32.ofInt (if b < a then b else a) := by
    by_cases e2 : b < a
    · rw [if_pos ((zo_lt ib ia).mpr e2), if_pos e2]
    · rw [if_neg (fun z => e2 ((zo_lt ib ia).mp z)), if_neg e2]
  have hsum := zcs (q := q) h3
  refine va_mmin hx hb (by rw [hml, hl.2.1.1]) hown (hts _ (zML_at hF)) (hts _ (zat_in zMa_c.2.2.2.1)) (hts _ (zat_in zMa_c.2.2.1)) (hts _ (zat_in zMa_c.2.2.2.2.1)) hfr (by omega) hce hsl hd ?_
  rw [e]
  exact hk
theorem sv_mminl {p : Program} {l : Launch} {e : Env} {R : Room} {s : State} {m : MethodId} {args : Array Value} {below : List Frame} {meth : Method} {c : Code} {cells slots : Nat} {Qw : State → Prop} {dC : Nat → ClassId} {dI : Nat → Nat → Nat} {q : Nat → Nat} {cI cB cL : ClassId} {L : Nat} {xs : Nat → Int32} (hx : p.tables.exec = Jvm.exec) {cc : ByteArray} (hb : c.code = cc) {pc n : Nat} {lv st : List zV} {μ : zM} {K : List zV → List zV → zM → Prop} {o i : Nat} (hown : s.vm.findClass (zcN o) = some m.cls) (hts : ∀ w ∈ zwG, w.before args s = true) (hKK : va_K (dC, dI) vwCl [(cI, .int), (cB, .byte), (cL, .long)] s) (hml : c.maxLocals = n) (hfr : 1 ≤ R.frames) (hlo : 100 ≤ R.locals) (hce : cells ≤ R.cells) (hsl : slots ≤ R.slots) (hF : zML.any (fun q => q.1 == o && (q.2.1 == i && q.2.2.1 == 12)) = true) (hd : decode cc pc = .ok (.invokestatic i, 3)) (hK : ∀ lv st μ, K lv st μ → zGo p l e R s m args below meth c cells slots Qw dC dI q cI cB cL L xs n (pc + 3) lv st μ) (h : zD 1 1 st (fun a b r => r.length ≤ 4 ∧ K lv ((1, if b < a then b else a) :: r) μ)) : zGo p l e R s m args below meth c cells slots Qw dC dI q cI cB cL L xs n pc lv st μ := by
  intro H locs ls hw hl hs
  rcases st with _ | ⟨⟨t1, b⟩, _ | ⟨⟨t2, a⟩, r⟩⟩
  · exact h.elim
  · exact h.elim
  obtain ⟨h1, h2, h3, h4⟩ := h
  subst h1; subst h2
  have ib := zst_hl hs
  have ia := zst_hl (zst_tl hs)
  have hs2 := zst_tl (zst_tl hs)
  have hk := hK _ _ _ h4 H locs ls hw hl (zst_l (by split; exact ib; exact ia) hs2)
  have e : (if Int64.ofInt b < Int64.ofInt a then Int64.ofInt b else Int64.ofInt a) = Int64.ofInt (if b < a then b else a) := by
    by_cases e2 : b < a
    · rw [if_pos ((zq_lt ib ia).mpr e2), if_pos e2]
    · rw [if_neg (fun z => e2 ((zq_lt ib ia).mp z)), if_neg e2]
  have hsum := zcs (q := q) h3
  refine va_mmin_long hx hb (by rw [hml, hl.2.1.1]) hown (hts _ (zML_at hF)) (hts _ (zat_in zMa_c.2.2.2.2.2.1)) (hts _ (zat_in zMa_c.2.2.1)) (hts _ (zat_in zMa_c.2.2.2.2.2.2)) hfr (by omega) hce hsl hd ?_
  rw [e]
  exact hk
