/-! contracts of the methods, and calls -/
def zPre (dC : Nat → ClassId) (dI : Nat → Nat → Nat) (q : Nat → Nat) (cI cB cL : ClassId) (L b : Nat) (xs : Nat → Int32) (as : List zV) (μ : zM) : Array Value → State → Prop := va_Pc (as.map (ztr q)) (fun U => va_P (dC, dI) vwCl (zws q cI cB cL μ) U.heap ∧ va_K (dC, dI) vwCl [(cI, .int), (cB, .byte), (cL, .long)] U ∧ (∀ w ∈ znw, va_Nw w U) ∧ va_X b L xs U U.heap ∧ b < U.heap.size)
def zBu (dC : Nat → ClassId) (dI : Nat → Nat → Nat) (q : Nat → Nat) (cI cB cL : ClassId) (u : zM) (t : State) : Prop := va_P (dC, dI) vwCl (zws q cI cB cL u) t.heap
def zPo (dC : Nat → ClassId) (dI : Nat → Nat → Nat) (q : Nat → Nat) (cI cB cL : ClassId) (L : Nat) (xs : Nat → Int32) (k : Nat) (P : Int → zM → Prop) : Array Value → State → Outcome → State → Prop :=
  if k = 0 then va_Qv (fun u : zM => P 0 u ∧ zrng u ∧ zscr L xs u) (zBu dC dI q cI cB cL) (zA q) else
  if k = 2 then va_Ql (fun (r : Int64) (u : zM) => (∃ v, r = Int64.ofInt v ∧ zi64 v ∧ P v u) ∧ zrng u ∧ zscr L xs u) (zBu dC dI q cI cB cL) (zA q) else
  if k = 3 then va_Qr (fun u : zM => zrng u ∧ zscr L xs u) (fun u a t => (∃ v : Int, a = q v.toNat ∧ P v u) ∧ zBu dC dI q cI cB cL u t) (zA q) else
  va_Qi (fun (r : Int32) (u : zM) => (∃ v, r = Int32.ofInt v ∧ zi32 v ∧ P v u) ∧ zrng u ∧ zscr L xs u) (zBu dC dI q cI cB cL) (zA q)
def zrm (d : Nat) : Room := { frames := d + 1, cells := 0, slots := 0, locals := 100 * (d + 1) }
def zMt (l : Launch) (dC : Nat → ClassId) (dI : Nat → Nat → Nat) (q : Nat → Nat) (cI cB cL : ClassId) (L b : Nat) (xs : Nat → Int32) (d z : Nat) (as : List zV) (μ : zM) (P : Int → zM → Prop) : Prop := Met l (zmN z) (zW z) (zrm d) (zPre dC dI q cI cB cL L b xs as μ) (zPo dC dI q cI cB cL L xs (zmK z) P) 0 0 (zA q)
theorem zPre_blind {dC : Nat → ClassId} {dI : Nat → Nat → Nat} {q : Nat → Nat} {cI cB cL : ClassId} {L b : Nat} {xs : Nat → Int32} {as : List zV} {μ : zM} : FrameBlind (zPre dC dI q cI cB cL L b xs as μ) := by
  intro a U g mk h
  obtain ⟨h1, h2, h3, h4, h5, h6⟩ := h
  exact ⟨h1, h2, va_K.moved (u := U) (U := U.calling g mk a) (Vm.Alike.refl U.vm) h3, fun w hw => (by obtain ⟨x, -, rfl⟩ := List.mem_map.mp hw; exact va_Nw.same (u := U) rfl rfl (h4 _ hw)), va_X.moved (u := U) (U := U.calling g mk a) (Vm.Alike.refl U.vm) h5, h6⟩
theorem zmw_all {z : Nat} (h : z < 193) : zmw z = true := by
  have hm : ∀ {a n : Nat}, ((List.range' a n).all zmw = true) → a ≤ z → z < a + n → zmw z = true := fun h1 h2 h3 => List.all_eq_true.mp h1 z (by rw [List.mem_range'_1]; exact ⟨h2, h3⟩)
  rcases Nat.lt_or_ge z 14 with h0 | h0
  · exact hm zmw_0 (by omega) (by omega)
  rcases Nat.lt_or_ge z 28 with h14 | h14
  · exact hm zmw_14 (by omega) (by omega)
  rcases Nat.lt_or_ge z 42 with h28 | h28
  · exact hm zmw_28 (by omega) (by omega)
  rcases Nat.lt_or_ge z 56 with h42 | h42
  · exact hm zmw_42 (by omega) (by omega)
  rcases Nat.lt_or_ge z 70 with h56 | h56
  · exact hm zmw_56 (by omega) (by omega)
  rcases Nat.lt_or_ge z 84 with h70 | h70
  · exact hm zmw_70 (by omega) (by omega)
  rcases Nat.lt_or_ge z 98 with h84 | h84
  · exact hm zmw_84 (by omega) (by omega)
  rcases Nat.lt_or_ge z 112 with h98 | h98
  · exact hm zmw_98 (by omega) (by omega)
  rcases Nat.lt_or_ge z 126 with h112 | h112
  · exact hm zmw_112 (by omega) (by omega)
  rcases Nat.lt_or_ge z 140 with h126 | h126
  · exact hm zmw_126 (by omega) (by omega)
  rcases Nat.lt_or_ge z 154 with h140 | h140
  · exact hm zmw_140 (by omega) (by omega)
  rcases Nat.lt_or_ge z 168 with h154 | h154
  · exact hm zmw_154 (by omega) (by omega)
  rcases Nat.lt_or_ge z 182 with h168 | h168
  · exact hm zmw_168 (by omega) (by omega)
  rcases Nat.lt_or_ge z 193 with h182 | h182
  · exact hm zmw_182 (by omega) (by omega)
  · omega
theorem zmw_sp {z : Nat} (h : z < 193) : Cond.code (zmN z) (zmC z) (zmL z) (zmR z) ∈ zwG ∧ (zmS z = 1 → Cond.static (zmN z) ∈ zwG) ∧ (¬ zmS z = 1 → Cond.instanceMethod (zmN z) ∈ zwG ∧ Cond.selects (zmN z).cls (zmN z) (zmN z) ∈ zwG) ∧ Cond.initialized (zmN z).cls ∈ zwG ∧ (zmN z).cls = zcN (zmO z) ∧ (parseMethodDescriptor (zmN z).desc).map (fun d => d.parameters.length) = some (zmA z + zmS z - 1) ∧ ((zmN z).cls ≠ "java/lang/invoke/MethodHandle" ∧ (zmN z).cls ≠ "java/lang/invoke/VarHandle") ∧ plainName (zmN z).cls = true ∧ zret (zmK z) (zmR z) = true ∧ zmL z ≤ 60 ∧ (zmO z < 7 ∨ zmS z = 1) ∧ (0 < zmA z ∨ zmS z = 1) := by
  have h1 := zmw_all h
  unfold zmw at h1
  simp only [Bool.and_eq_true, decide_eq_true_eq] at h1
  obtain ⟨g1, g2, g3, g4, g5, g6, g7, g8, g9, g10, g11⟩ := h1
  refine ⟨zat_in g1, fun e => ?_, fun e => ?_, zat_in g3, g4, g5, g6, g7, g8, g9, g10, g11⟩
  · rw [if_pos e] at g2; exact zat_in g2
  · rw [if_neg e, Bool.and_eq_true] at g2; exact ⟨zat_in g2.1, zat_in g2.2⟩
theorem zcN_cl {ci : Nat} (h : ci < 7) : zcN ci = (zcl ci).1 := by
  rcases (show ci = 0 ∨ ci = 1 ∨ ci = 2 ∨ ci = 3 ∨ ci = 4 ∨ ci = 5 ∨ ci = 6 by omega) with rfl | rfl | rfl | rfl | rfl | rfl | rfl <;> rfl
theorem zgood {z : Nat} (h : z < 193) : GoodIn zwG (zW z) := by
  intro w hw
  have hm : w ∈ zwG := by
    rcases List.mem_cons.mp hw with rfl | hw
    · exact (zmw_sp h).1
    · exact hw
  exact ⟨hm, zwG_good hm⟩
theorem zCL_at {o i z : Nat} (h : zCL.any (fun q => q.1 == o && (q.2.1 == i && q.2.2.1 == z)) = true) : Cond.methodLink (zcN o) i (zmN z) ∈ zwG := by
  obtain ⟨x, hx, hq⟩ := List.any_eq_true.mp h
  have h2 := zat_in (List.all_eq_true.mp zCL_c x hx)
  simp only [Bool.and_eq_true, beq_iff_eq] at hq
  rw [hq.1, hq.2.1, hq.2.2] at h2
  exact h2
theorem zNL_at {o i z : Nat} (h : zNL.any (fun q => q.1 == o && (q.2.1 == i && q.2.2 == z)) = true) : Cond.methodLinkNest (zcN o) i (zmN z) "FusionRules" ∈ znw := by
  obtain ⟨x, hx, hq⟩ := List.any_eq_true.mp h
  simp only [Bool.and_eq_true, beq_iff_eq] at hq
  refine List.mem_map.mpr ⟨x, hx, ?_⟩
  rw [hq.1, hq.2.1, hq.2.2]
theorem znw_warm {s U : State} (hW : s.WarmedH U.vm) (h : ∀ w ∈ znw, va_Nw w s) : ∀ w ∈ znw, va_Nw w U := by
  intro w hw
  have h1 := h w hw
  obtain ⟨x, -, rfl⟩ := List.mem_map.mp hw
  exact va_Nw.warmM hW h1
theorem sv_behind {p : Program} {l : Launch} {e : Env} {R : Room} {s : State} {m : MethodId} {args : Array Value} {below : List Frame} {meth : Method} {c : Code} {cells slots : Nat} {Qw : State → Prop} {dC : Nat → ClassId} {dI : Nat → Nat → Nat} {q : Nat → Nat} {cI cB cL : ClassId} {L : Nat} {xs : Nat → Int32} (hx : p.tables.exec = Jvm.exec) {cc : ByteArray} (hb : c.code = cc) {pc n : Nat} {lv : List zV} {K : List zV → List zV → zM → Prop} {P : Int → zM → Prop} {k : Nat} {rest : List zV} {ls : Array Slot} {H : Heap} {locs : List Loc} {st0 : List Value} {a : Array Value} (hK : ∀ lv st μ, K lv st μ → zGo p l e R s m args below meth c cells slots Qw dC dI q cI cB cL L xs n (pc + 3) lv st μ) (hk4 : k ≤ 4) (h : ∀ r u, P r u → K lv (zP k r rest) u) (hS : va_S (zA q) s.heap H locs) (hl : zlv q ls n lv) (hs : zst rest)
    (hr : va_Run p l e R s m args below meth c H locs cells slots 0 0 (F0 m pc ls st0) (rest.map (ztr q)) (zPo dC dI q cI cB cL L xs k P a) (zA q)) : W p l e R s m args below meth c H locs cells slots Qw (F0 m pc ls st0) := by
  have hA : ∀ x, x < H.size → zA q x → zA q x := fun _ _ h => h
  have hf : ∀ x, zA q x → zA q x := fun _ h => h
  unfold zPo at hr
  by_cases k0 : k = 0
  · rw [if_pos k0] at hr
    subst k0
    exact va_callv hr hS hA hf (fun u t H1 locs1 ht hvm hw hB hz hk2 hS2 => hK _ _ _ (h 0 u hw.1) H1 locs1 ls ⟨by rw [← ht]; exact hB, hS2, hw.2⟩ hl hs)
  · rw [if_neg k0] at hr
    by_cases k2 : k = 2
    · rw [if_pos k2] at hr
      subst k2
      refine va_calll hr hS hA hf (fun r u t H1 locs1 ht hvm hw hB hz hk2 hS2 => ?_)
      obtain ⟨⟨v, rfl, iv, hP⟩, hw2⟩ := hw
      exact hK _ _ _ (h v u hP) H1 locs1 ls ⟨by rw [← ht]; exact hB, hS2, hw2⟩ hl (zst_l iv hs)
    · rw [if_neg k2] at hr
      by_cases k3 : k = 3
      · rw [if_pos k3] at hr
        subst k3
        refine va_callr hr hS hA hf (fun u ra t H1 locs1 ht hvm hw hB hz hk2 hS2 => ?_)
        obtain ⟨⟨v, rfl, hP⟩, hB⟩ := hB
        exact hK _ _ _ (h v u hP) H1 locs1 ls ⟨by rw [← ht]; exact hB, hS2, hw⟩ hl (zst_r hs)
      · rw [if_neg k3] at hr
        have hp : ∀ r, zP k r rest = (0, r) :: rest := fun r => by
          unfold zP
          rw [if_neg (by omega), if_neg (by omega), if_neg (by omega)]
        refine va_calli hr hS hA hf (fun r u t H1 locs1 ht hvm hw hB hz hk2 hS2 => ?_)
        obtain ⟨⟨v, rfl, iv, hP⟩, hw2⟩ := hw
        have h2 := h v u hP
        rw [hp] at h2
        exact hK _ _ _ h2 H1 locs1 ls ⟨by rw [← ht]; exact hB, hS2, hw2⟩ hl (zst_i iv hs)
theorem zpre_at {s : State} {dC : Nat → ClassId} {dI : Nat → Nat → Nat} {q : Nat → Nat} {cI cB cL : ClassId} {L b : Nat} {xs : Nat → Int32} (hnw : ∀ w ∈ znw, va_Nw w s) (hKK : va_K (dC, dI) vwCl [(cI, .int), (cB, .byte), (cL, .long)] s) (hX : va_X b L xs s s.heap) (hbl : b < s.heap.size) (hbA : ¬ zA q b)  {as : List zV} {μ : zM} {H : Heap} {locs : List Loc} (hw : zWd dC dI q cI cB cL L xs s μ H locs) : ∀ U : State, U.heap = H → s.WarmedH U.vm → zPre dC dI q cI cB cL L b xs as μ (as.map (ztr q)).toArray U := by
  intro U hU hW
  have e : H[b]? = s.heap[b]? := hw.2.1.2.1 b hbl hbA
  refine ⟨rfl, by rw [hU]; exact hw.1, va_K.moved hW.alike hKK, znw_warm hW hnw, ?_, ?_⟩
  · rw [hU]; exact (hX.kept e).moved hW.alike
  · rw [hU]; exact Nat.lt_of_lt_of_le hbl hw.2.1.1
theorem sv_virt {p : Program} {l : Launch} {e : Env} {R : Room} {s : State} {m : MethodId} {args : Array Value} {below : List Frame} {meth : Method} {c : Code} {cells slots : Nat} {Qw : State → Prop} {dC : Nat → ClassId} {dI : Nat → Nat → Nat} {q : Nat → Nat} {cI cB cL : ClassId} {L : Nat} {xs : Nat → Int32} (hx : p.tables.exec = Jvm.exec) {cc : ByteArray} (hb : c.code = cc) {pc n : Nat} {lv st : List zV} {μ : zM} {K : List zV → List zV → zM → Prop} {C : Nat → List zV → zM → (Int → zM → Prop) → Prop} {tb : List (Int × Nat)} {o i z b : Nat} (hown : s.vm.findClass (zcN o) = some m.cls) (hts : ∀ w ∈ zwG, w.before args s = true) (hnw : ∀ w ∈ znw, va_Nw w s) (hKK : va_K (dC, dI) vwCl [(cI, .int), (cB, .byte), (cL, .long)] s) (hX : va_X b L xs s s.heap) (hbl : b < s.heap.size) (hbA : ¬ zA q b) (hq9 : q 99 = b) (hml : c.maxLocals = n) {d : Nat} (hfr : d + 2 ≤ R.frames) (hlo : 100 * (d + 2) ≤ R.locals) (hce : cells ≤ R.cells) (hsl : slots ≤ R.slots) (hz : z < 193) (hS0 : zmS z = 0) (htb : tb = [(((zmK z : Nat) : Int), zmA z), (((zmO z : Nat) : Int), 0)]) (hM : ∀ as μ P, C z as μ P → as.length = zmA z → (∀ v ∈ as, v.1 ≤ 2 ∧ zok v) → zrng μ → zscr L xs μ → zMt l dC dI q cI cB cL L b xs d z as μ P) (hF : zCL.any (fun q => q.1 == o && (q.2.1 == i && q.2.2.1 == z)) = true) (hd : decode cc pc = .ok (.invokevirtual i, 3)) (hK : ∀ lv st μ, K lv st μ → zGo p l e R s m args below meth c cells slots Qw dC dI q cI cB cL L xs n (pc + 3) lv st μ) (h : zVirt C z tb st μ (fun st μ => K lv st μ)) : zGo p l e R s m args below meth c cells slots Qw dC dI q cI cB cL L xs n pc lv st μ := by
  intro H locs ls hw hl hs
  subst htb
  obtain ⟨⟨h1, h2, h3⟩, h4, h5, h6, h7⟩ := h
  obtain ⟨g1, -, g3, g4, g5, g6, g7, g8, g9, g10, g11, g12⟩ := zmw_sp hz
  obtain ⟨g3a, g3b⟩ := g3 (by omega)
  have hO : zmO z < 7 := by omega
  have hlenT : (st.take (zmA z)).length = zmA z := by rw [List.length_take]; omega
  obtain ⟨v0, as', eas⟩ : ∃ v0 as', (st.take (zmA z)).reverse = v0 :: as' := by
    cases e : (st.take (zmA z)).reverse with
    | nil =>
      have := congrArg List.length e
      rw [List.length_reverse, hlenT] at this
      simp at this
      omega
    | cons v0 as' => exact ⟨v0, as', rfl⟩
  have hlen' : as'.length + 1 = zmA z := by
    have := congrArg List.length eas
    rw [List.length_reverse, hlenT] at this
    simpa using this.symm
  have etk : st.take (zmA z) = as'.reverse ++ [v0] := by
    have := congrArg List.reverse eas
    rw [List.reverse_reverse, List.reverse_cons] at this
    exact this
  have est : st = as'.reverse ++ v0 :: st.drop (zmA z) := by
    have := (List.take_append_drop (zmA z) st).symm
    rw [etk] at this
    simpa using this
  have hv0 : st.getD (zmA z - 1) (9, 0) = v0 := by
    have e : st[zmA z - 1]? = some v0 := by
      rw [est, List.getElem?_append_right (by rw [List.length_reverse]; omega), List.length_reverse]
      have : zmA z - 1 - as'.length = 0 := by omega
      rw [this]; rfl
    rw [List.getD_eq_getElem?_getD, e]; rfl
  rw [hv0] at h1 h2 h3
  obtain ⟨t0, a0⟩ := v0
  simp only at h1 h2 h3
  subst h1
  obtain ⟨k, hk, rfl⟩ := zT_obj h2
  have he : (zws q cI cB cL μ)[k]? = some (q k, .inr (zmO z, (zS k).2.2.zipIdx.map (zfl q μ k))) := by
    rw [zws_at hk, zcell_o h2, h3]; rfl
  have hrec := va_recv hKK hw.1 (zcl_at hO) he
  rw [← zcN_cl hO, ← g5] at hrec
  rw [eas] at h7
  have hM2 : zMt l dC dI q cI cB cL L b xs d z ((2, (k : Int)) :: as') μ (fun r μ' => K lv (zP (zmK z : Nat) r (st.drop (zmA z))) μ') := hM _ _ _ h7 (by rw [List.length_cons]; omega) (fun v hv => hs v (by
    have : v ∈ (st.take (zmA z)).reverse := by rw [eas]; exact hv
    exact List.mem_of_mem_take (List.mem_reverse.mp this))) hw.2.2.1 hw.2.2.2
  have hk4 : zmK z ≤ 4 := by
    unfold zret at g9
    split at g9 <;> first | omega | exact absurd g9 (by decide)
  have hW8 : 2 * (F0 m pc ls (st.map (ztr q))).monitorRoom + (((st.drop (zmA z)).map (ztr q)).map fun v => v.category).sum ≤ 8 := by
    refine lv_room ?_
    rw [zcw_sum]; exact h6
  have hr := va_runV (p := p) (l := l) (e := e) (R := R) (s := s) (m := m) (args := args) (below := below) (meth := meth) (c := c) (H := H) (locs := locs) (cells := cells) (slots := slots) (g := F0 m pc ls (st.map (ztr q))) (As := as'.map (ztr q)) (rest := (st.drop (zmA z)).map (ztr q)) (Ts := zwG) (b := q k) (nL := n) (n := zmA z - 1) ⟨hx, hb, hml, hown, hts⟩ hM2
    (bytes := zmC z) (maxL := zmL z) (ret := zmR z) (C := (zmN z).cls) ⟨callB_of (ws' := zwG) (zmA z - 1) hts (zgood hz) rfl rfl rfl (hts _ g4) (hts _ (zCL_at hF)) ⟨g7.1, g7.2, by rw [g6]; congr 1; omega⟩ ⟨by show d + 1 + 1 ≤ _; omega, by show 8 + (zmL z + 11) + 100 * (d + 1) ≤ _; omega⟩, hts _ g3a, hts _ g3b⟩
    ⟨zPre_blind, hrec, zpre_at hnw hKK hX hbl hbA hw⟩ rfl (by rw [List.length_map]; omega) hl.2.1.1 (by
      show st.map (ztr q) = _
      conv => lhs; rw [est]
      rw [List.map_append, List.map_cons, List.map_reverse]
      rfl) hW8 hd ⟨hce, hsl⟩
  exact sv_behind hx hb (k := zmK z) (rest := st.drop (zmA z)) hK hk4 (fun r u hP => hP) hw.2.1 hl (zst_drop _ hs) hr
theorem sv_stat {p : Program} {l : Launch} {e : Env} {R : Room} {s : State} {m : MethodId} {args : Array Value} {below : List Frame} {meth : Method} {c : Code} {cells slots : Nat} {Qw : State → Prop} {dC : Nat → ClassId} {dI : Nat → Nat → Nat} {q : Nat → Nat} {cI cB cL : ClassId} {L : Nat} {xs : Nat → Int32} (hx : p.tables.exec = Jvm.exec) {cc : ByteArray} (hb : c.code = cc) {pc n : Nat} {lv st : List zV} {μ : zM} {K : List zV → List zV → zM → Prop} {C : Nat → List zV → zM → (Int → zM → Prop) → Prop} {tb : List (Int × Nat)} {o i z b : Nat} (hown : s.vm.findClass (zcN o) = some m.cls) (hts : ∀ w ∈ zwG, w.before args s = true) (hnw : ∀ w ∈ znw, va_Nw w s) (hKK : va_K (dC, dI) vwCl [(cI, .int), (cB, .byte), (cL, .long)] s) (hX : va_X b L xs s s.heap) (hbl : b < s.heap.size) (hbA : ¬ zA q b) (hq9 : q 99 = b) (hml : c.maxLocals = n) {d : Nat} (hfr : d + 2 ≤ R.frames) (hlo : 100 * (d + 2) ≤ R.locals) (hce : cells ≤ R.cells) (hsl : slots ≤ R.slots) (hz : z < 193) (hS1 : zmS z = 1) (htb : tb = [(((zmK z : Nat) : Int), zmA z)]) (hM : ∀ as μ P, C z as μ P → as.length = zmA z → (∀ v ∈ as, v.1 ≤ 2 ∧ zok v) → zrng μ → zscr L xs μ → zMt l dC dI q cI cB cL L b xs d z as μ P) (hF : zCL.any (fun q => q.1 == o && (q.2.1 == i && q.2.2.1 == z)) = true ∨ zNL.any (fun q => q.1 == o && (q.2.1 == i && q.2.2 == z)) = true) (hd : decode cc pc = .ok (.invokestatic i, 3)) (hK : ∀ lv st μ, K lv st μ → zGo p l e R s m args below meth c cells slots Qw dC dI q cI cB cL L xs n (pc + 3) lv st μ) (h : zCall C z tb st μ (fun st μ => K lv st μ)) : zGo p l e R s m args below meth c cells slots Qw dC dI q cI cB cL L xs n pc lv st μ := by
  intro H locs ls hw hl hs
  subst htb
  obtain ⟨h5, h6, h7⟩ := h
  obtain ⟨g1, g2, -, g4, g5, g6, g7, g8, g9, g10, g11, g12⟩ := zmw_sp hz
  have hlenT : (st.take (zmA z)).length = zmA z := by rw [List.length_take]; omega
  have hM2 : zMt l dC dI q cI cB cL L b xs d z (st.take (zmA z)).reverse μ (fun r μ' => K lv (zP (zmK z : Nat) r (st.drop (zmA z))) μ') := hM _ _ _ h7 (by rw [List.length_reverse]; exact hlenT) (fun v hv => hs v (List.mem_of_mem_take (List.mem_reverse.mp hv))) hw.2.2.1 hw.2.2.2
  have hk4 : zmK z ≤ 4 := by
    unfold zret at g9
    split at g9 <;> first | omega | exact absurd g9 (by decide)
  have hW8 : 2 * (F0 m pc ls (st.map (ztr q))).monitorRoom + (((st.drop (zmA z)).map (ztr q)).map fun v => v.category).sum ≤ 8 := by
    refine lv_room ?_
    rw [zcw_sum]; exact h6
  have hstk : st.map (ztr q) = (((st.take (zmA z)).reverse).map (ztr q)).reverse ++ (st.drop (zmA z)).map (ztr q) := by
    rw [← List.map_reverse, List.reverse_reverse, ← List.map_append, List.take_append_drop]
  refine sv_behind hx hb (k := zmK z) (rest := st.drop (zmA z)) (a := (((st.take (zmA z)).reverse).map (ztr q)).toArray) hK hk4 (fun r u hP => hP) hw.2.1 hl (zst_drop _ hs) ?_
  rcases hF with hF | hF
  · exact va_runS (p := p) (l := l) (e := e) (R := R) (s := s) (m := m) (args := args) (below := below) (meth := meth) (c := c) (H := H) (locs := locs) (cells := cells) (slots := slots) (g := F0 m pc ls (st.map (ztr q))) (As := ((st.take (zmA z)).reverse).map (ztr q)) (rest := (st.drop (zmA z)).map (ztr q)) (Ts := zwG) (nL := n) (n := zmA z) ⟨hx, hb, hml, hown, hts⟩ hM2
      (bytes := zmC z) (maxL := zmL z) (ret := zmR z) ⟨callB_of (ws' := zwG) (zmA z) hts (zgood hz) rfl rfl rfl (hts _ g4) (hts _ (zCL_at hF)) ⟨g7.1, g7.2, by rw [g6]; congr 1; omega⟩ ⟨by show d + 1 + 1 ≤ _; omega, by show 8 + (zmL z + 11) + 100 * (d + 1) ≤ _; omega⟩, hts _ (g2 hS1)⟩
      ⟨zPre_blind, zpre_at hnw hKK hX hbl hbA hw⟩ rfl (by rw [List.length_map, List.length_reverse]; exact hlenT) hl.2.1.1 hstk hW8 hd ⟨hce, hsl⟩
  · exact va_runSN (p := p) (l := l) (e := e) (R := R) (s := s) (m := m) (args := args) (below := below) (meth := meth) (c := c) (H := H) (locs := locs) (cells := cells) (slots := slots) (g := F0 m pc ls (st.map (ztr q))) (As := ((st.take (zmA z)).reverse).map (ztr q)) (rest := (st.drop (zmA z)).map (ztr q)) (Ts := zwG) (nL := n) (n := zmA z) (host := "FusionRules") ⟨hx, hb, hml, hown, hts⟩ hM2
      (bytes := zmC z) (maxL := zmL z) (ret := zmR z) ⟨va_cnB (ws' := zwG) (zmA z) hts (zgood hz) rfl rfl rfl (hnw _ (zNL_at hF)) (hts _ g4) ⟨g7.1, g7.2, by rw [g6]; congr 1; omega⟩ ⟨by show d + 1 + 1 ≤ _; omega, by show 8 + (zmL z + 11) + 100 * (d + 1) ≤ _; omega⟩, hts _ (g2 hS1), trivial⟩
      ⟨zPre_blind, zpre_at hnw hKK hX hbl hbA hw⟩ rfl (by rw [List.length_map, List.length_reverse]; exact hlenT) hl.2.1.1 hstk hW8 hd ⟨hce, hsl⟩
