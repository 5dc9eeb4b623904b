/-! soundness: a run of the machine is a run of the JVM -/
def zHy (p : Program) (R : Room) (s : State) (m : MethodId) (args : Array Value) (c : Code) (z d cells slots : Nat) (dC : Nat → ClassId) (dI : Nat → Nat → Nat) (q : Nat → Nat) (cI cB cL : ClassId) (L b : Nat) (xs : Nat → Int32) : Prop := p.tables.exec = Jvm.exec ∧ c.code = zmC z ∧ c.maxLocals = zmL z ∧ s.vm.findClass (zcN (zmO z)) = some m.cls ∧ (∀ w ∈ zwG, w.before args s = true) ∧ (∀ w ∈ znw, va_Nw w s) ∧ va_K (dC, dI) vwCl [(cI, .int), (cB, .byte), (cL, .long)] s ∧ zinj q ∧ d + 1 ≤ R.frames ∧ 100 * (d + 1) ≤ R.locals ∧ cells ≤ R.cells ∧ slots ≤ R.slots ∧ va_X b L xs s s.heap ∧ b < s.heap.size ∧ ¬ zA q b ∧ q 99 = b
def zri (k : Nat) : Instr := if k = 0 then .return_ else if k = 2 then .lreturn else if k = 3 then .areturn else .ireturn
def zRt (p : Program) (l : Launch) (e : Env) (R : Room) (s : State) (m : MethodId) (args : Array Value) (below : List Frame) (meth : Method) (c : Code) (cells slots : Nat) (Qw : State → Prop) (dC : Nat → ClassId) (dI : Nat → Nat → Nat) (q : Nat → Nat) (cI cB cL : ClassId) (L : Nat) (xs : Nat → Int32) (z : Nat) (Q : Int → zM → Prop) : Prop := ∀ (r : Int) (u : zM) (H : Heap) (locs : List Loc) (ls : Array Slot) (pc : Nat), Q r u → zWd dC dI q cI cB cL L xs s u H locs → (zmK z = 1 → zi32 r) → (zmK z = 4 → r = 0 ∨ r = 1) → (zmK z = 2 → zi64 r) → (zmK z = 0 → r = 0) → decode (zmC z) pc = .ok (zri (zmK z), 1) → W p l e R s m args below meth c H locs cells slots Qw (F0 m pc ls ((zP (zmK z : Nat) r []).map (ztr q)))
set_option maxHeartbeats 4000000 in
theorem sO {p : Program} {l : Launch} {e : Env} {R : Room} {s : State} {m : MethodId} {args : Array Value} {below : List Frame} {meth : Method} {c : Code} {cells slots : Nat} {Qw : State → Prop} {dC : Nat → ClassId} {dI : Nat → Nat → Nat} {q : Nat → Nat} {cI cB cL : ClassId} {L : Nat} {xs : Nat → Int32} {b : Nat} {z d : Nat} (hy : zHy p R s m args c z d cells slots dC dI q cI cB cL L b xs) (hM : ∀ z2 as μ P, zC d z2 as μ P → z2 < 193 → as.length = zmA z2 → (∀ v ∈ as, v.1 ≤ 2 ∧ zok v) → zrng μ → zscr L xs μ → ∃ d2, d = d2 + 1 ∧ zMt l dC dI q cI cB cL L b xs d2 z2 as μ P) {Q : Int → zM → Prop} {S : Nat → List zV → List zV → zM → Prop} {K : List zV → List zV → zM → Prop} (hR : zRt p l e R s m args below meth c cells slots Qw dC dI q cI cB cL L xs z Q) {pc len : Nat} {op : Instr} {ex : Nat} {tb : List (Int × Nat)} {lv st : List zV} {μ : zM} (hd : decode (zmC z) pc = .ok (op, len)) (hlen : (zsw op || zlen op == len) = true) (hc : zchkO z op ex tb pc = true) (hK : ∀ lv st μ, K lv st μ → zGo p l e R s m args below meth c cells slots Qw dC dI q cI cB cL L xs (zmL z) (pc + len) lv st μ) (hS : ∀ L2 lv st μ, S L2 lv st μ → zGo p l e R s m args below meth c cells slots Qw dC dI q cI cB cL L xs (zmL z) L2 lv st μ) (h : zO (zC d) Q S op ex tb lv st μ K) : zGo p l e R s m args below meth c cells slots Qw dC dI q cI cB cL L xs (zmL z) pc lv st μ := by
  obtain ⟨hx, hb, hml, hown, hts, hnw, hKK, hq, hfr, hlo, hce, hsl, hX, hbl, hbA, hq9⟩ := hy
  cases op
  case iadd =>
    have e0 : 1 = len := by simpa [zsw, zlen] using hlen
    subst e0
    dsimp only [zO] at h
    exact sv_iadd hx hb hd hK h
  case isub =>
    have e0 : 1 = len := by simpa [zsw, zlen] using hlen
    subst e0
    dsimp only [zO] at h
    exact sv_isub hx hb hd hK h
  case imul =>
    have e0 : 1 = len := by simpa [zsw, zlen] using hlen
    subst e0
    dsimp only [zO] at h
    exact sv_imul hx hb hd hK h
  case idiv =>
    have e0 : 1 = len := by simpa [zsw, zlen] using hlen
    subst e0
    dsimp only [zO] at h
    exact sv_idiv hx hb hd hK h
  case irem =>
    have e0 : 1 = len := by simpa [zsw, zlen] using hlen
    subst e0
    dsimp only [zO] at h
    exact sv_irem hx hb hd hK h
  case ineg =>
    have e0 : 1 = len := by simpa [zsw, zlen] using hlen
    subst e0
    dsimp only [zO] at h
    exact sv_ineg hx hb hd hK h
  case iand =>
    have e0 : 1 = len := by simpa [zsw, zlen] using hlen
    subst e0
    dsimp only [zO] at h
    exact sv_iand hx hb hd hK h
  case ior =>
    have e0 : 1 = len := by simpa [zsw, zlen] using hlen
    subst e0
    dsimp only [zO] at h
    exact sv_ior hx hb hd hK h
  case ixor =>
    have e0 : 1 = len := by simpa [zsw, zlen] using hlen
    subst e0
    dsimp only [zO] at h
    exact sv_ixor hx hb hd hK h
  case ishl =>
    have e0 : 1 = len := by simpa [zsw, zlen] using hlen
    subst e0
    dsimp only [zO] at h
    exact sv_ishl hx hb hd hK h
  case ishr =>
    have e0 : 1 = len := by simpa [zsw, zlen] using hlen
    subst e0
    dsimp only [zO] at h
    exact sv_ishr hx hb hd hK h
  case iushr =>
    have e0 : 1 = len := by simpa [zsw, zlen] using hlen
    subst e0
    dsimp only [zO] at h
    exact sv_iushr hx hb hd hK h
  case ladd =>
    have e0 : 1 = len := by simpa [zsw, zlen] using hlen
    subst e0
    dsimp only [zO] at h
    exact sv_ladd hx hb hd hK h
  case lmul =>
    have e0 : 1 = len := by simpa [zsw, zlen] using hlen
    subst e0
    dsimp only [zO] at h
    exact sv_lmul hx hb hd hK h
  case land =>
    have e0 : 1 = len := by simpa [zsw, zlen] using hlen
    subst e0
    dsimp only [zO] at h
    exact sv_land hx hb hd hK h
  case lor =>
    have e0 : 1 = len := by simpa [zsw, zlen] using hlen
    subst e0
    dsimp only [zO] at h
    exact sv_lor hx hb hd hK h
  case lshl =>
    have e0 : 1 = len := by simpa [zsw, zlen] using hlen
    subst e0
    dsimp only [zO] at h
    exact sv_lshl hx hb hd hK h
  case lcmp =>
    have e0 : 1 = len := by simpa [zsw, zlen] using hlen
    subst e0
    dsimp only [zO] at h
    exact sv_lcmp hx hb hd hK h
  case i2l =>
    have e0 : 1 = len := by simpa [zsw, zlen] using hlen
    subst e0
    dsimp only [zO] at h
    exact sv_i2l hx hb hd hK h
  case l2i =>
    have e0 : 1 = len := by simpa [zsw, zlen] using hlen
    subst e0
    dsimp only [zO] at h
    exact sv_l2i hx hb hd hK h
  case i2b =>
    have e0 : 1 = len := by simpa [zsw, zlen] using hlen
    subst e0
    dsimp only [zO] at h
    exact sv_i2b hx hb hd hK h
  case dup =>
    have e0 : 1 = len := by simpa [zsw, zlen] using hlen
    subst e0
    exact sv_dup hx hb hd hK h
  case dup2 =>
    have e0 : 1 = len := by simpa [zsw, zlen] using hlen
    subst e0
    exact sv_dup2 hx hb hd hK h
  case iload_n k =>
    have e0 : 1 = len := by simpa [zsw, zlen] using hlen
    subst e0
    dsimp only [zO] at h
    exact sv_iload_n hx hb hd hK h
  case lload_n k =>
    have e0 : 1 = len := by simpa [zsw, zlen] using hlen
    subst e0
    dsimp only [zO] at h
    exact sv_lload_n hx hb hd hK h
  case aload_n k =>
    have e0 : 1 = len := by simpa [zsw, zlen] using hlen
    subst e0
    dsimp only [zO] at h
    exact sv_aload_n hx hb hd hK h
  case istore_n k =>
    have e0 : 1 = len := by simpa [zsw, zlen] using hlen
    subst e0
    dsimp only [zO] at h
    exact sv_istore_n hx hb hd hK h
  case astore_n k =>
    have e0 : 1 = len := by simpa [zsw, zlen] using hlen
    subst e0
    dsimp only [zO] at h
    exact sv_astore_n hx hb hd hK h
  case iload k =>
    have e0 : 2 = len := by simpa [zsw, zlen] using hlen
    subst e0
    dsimp only [zO] at h
    exact sv_iload hx hb hd hK h
  case lload k =>
    have e0 : 2 = len := by simpa [zsw, zlen] using hlen
    subst e0
    dsimp only [zO] at h
    exact sv_lload hx hb hd hK h
  case aload k =>
    have e0 : 2 = len := by simpa [zsw, zlen] using hlen
    subst e0
    dsimp only [zO] at h
    exact sv_aload hx hb hd hK h
  case istore k =>
    have e0 : 2 = len := by simpa [zsw, zlen] using hlen
    subst e0
    dsimp only [zO] at h
    exact sv_istore hx hb hd hK h
  case astore k =>
    have e0 : 2 = len := by simpa [zsw, zlen] using hlen
    subst e0
    dsimp only [zO] at h
    exact sv_astore hx hb hd hK h
  case lstore k =>
    have e0 : 2 = len := by simpa [zsw, zlen] using hlen
    subst e0
    dsimp only [zO] at h
    exact sv_lstore hx hb hd hK h
  case iinc k v =>
    have e0 : 3 = len := by simpa [zsw, zlen] using hlen
    subst e0
    dsimp only [zO] at h
    exact sv_iinc hx hb hd hK h
  case iconst v =>
    have e0 : 1 = len := by simpa [zsw, zlen] using hlen
    subst e0
    have hz : zi32 v := by
      simp only [zchkO, zin, Bool.and_eq_true, decide_eq_true_eq] at hc
      exact hc
    dsimp only [zO] at h
    exact sv_iconst hx hb hz hd hK h
  case bipush v =>
    have e0 : 2 = len := by simpa [zsw, zlen] using hlen
    subst e0
    simp only [zchkO, zin, Bool.and_eq_true, decide_eq_true_eq] at hc
    dsimp only [zO] at h
    exact sv_bipush hx hb hc.1 hc.2 hd hK h
  case sipush v =>
    have e0 : 3 = len := by simpa [zsw, zlen] using hlen
    subst e0
    simp only [zchkO, zin, Bool.and_eq_true, decide_eq_true_eq] at hc
    dsimp only [zO] at h
    exact sv_sipush hx hb hc.1 hc.2 hd hK h
  case lconst v =>
    have e0 : 1 = len := by simpa [zsw, zlen] using hlen
    subst e0
    dsimp only [zO] at h
    exact sv_lconst hx hb hd hK h
  case ldc i =>
    have e0 : 2 = len := by simpa [zsw, zlen] using hlen
    subst e0
    rcases tb with _ | ⟨⟨v, t⟩, _ | ⟨w, r⟩⟩
    · exact h.elim
    · simp only [zchkO, zin, Bool.and_eq_true, decide_eq_true_eq] at hc
      obtain ⟨hc1, hc2⟩ := hc
      obtain ⟨x, hx1, hq1⟩ := List.any_eq_true.mp hc2
      have h2 := zat_in (List.all_eq_true.mp zKI_c x hx1)
      simp only [Bool.and_eq_true, beq_iff_eq] at hq1
      rw [hq1.1, hq1.2.1, hq1.2.2] at h2
      exact sv_ldc hx hb hown hc1 (hts _ h2) hd hK h
    · exact h.elim
  case ldc2_w i =>
    have e0 : 3 = len := by simpa [zsw, zlen] using hlen
    subst e0
    rcases tb with _ | ⟨⟨v, t⟩, _ | ⟨w, r⟩⟩
    · exact h.elim
    · simp only [zchkO, zin, Bool.and_eq_true, decide_eq_true_eq] at hc
      obtain ⟨hc1, hc2⟩ := hc
      obtain ⟨x, hx1, hq1⟩ := List.any_eq_true.mp hc2
      have h2 := zat_in (List.all_eq_true.mp zKL_c x hx1)
      simp only [Bool.and_eq_true, beq_iff_eq] at hq1
      rw [hq1.1, hq1.2.1, hq1.2.2] at h2
      exact sv_ldc2_w hx hb hown hc1 (hts _ h2) hd hK h
    · exact h.elim
  case goto o =>
    have e0 : 3 = len := by simpa [zsw, zlen] using hlen
    subst e0
    have ht : (pc : Int) + o = (ex : Int) := by simpa [zchkO, zjmp] using hc
    exact sv_goto hx hb ht hS hd h
  case ifCond cd o =>
    have e0 : 3 = len := by simpa [zsw, zlen] using hlen
    subst e0
    have ht : (pc : Int) + o = (ex : Int) := by simpa [zchkO, zjmp] using hc
    cases cd
    case eq => exact sv_ifCond_eq hx hb ht hS hd hK h
    case ne => exact sv_ifCond_ne hx hb ht hS hd hK h
    case lt => exact sv_ifCond_lt hx hb ht hS hd hK h
    case ge => exact sv_ifCond_ge hx hb ht hS hd hK h
    case gt => exact sv_ifCond_gt hx hb ht hS hd hK h
    case le => exact sv_ifCond_le hx hb ht hS hd hK h
  case if_icmp cd o =>
    have e0 : 3 = len := by simpa [zsw, zlen] using hlen
    subst e0
    have ht : (pc : Int) + o = (ex : Int) := by simpa [zchkO, zjmp] using hc
    cases cd
    case eq => exact sv_if_icmp_eq hx hb ht hS hd hK h
    case ne => exact sv_if_icmp_ne hx hb ht hS hd hK h
    case lt => exact sv_if_icmp_lt hx hb ht hS hd hK h
    case ge => exact sv_if_icmp_ge hx hb ht hS hd hK h
    case gt => exact sv_if_icmp_gt hx hb ht hS hd hK h
    case le => exact sv_if_icmp_le hx hb ht hS hd hK h
  case getfield i =>
    have e0 : 3 = len := by simpa [zsw, zlen] using hlen
    subst e0
    exact sv_getfield hx hb hown hts hKK hc hd hK h
  case putfield i =>
    have e0 : 3 = len := by simpa [zsw, zlen] using hlen
    subst e0
    exact sv_putfield hx hb hown hts hKK hq hc hd hK h
  case iaload =>
    have e0 : 1 = len := by simpa [zsw, zlen] using hlen
    subst e0
    exact sv_iaload hx hb hKK hX hbl hbA hq9 hd hK h
  case baload =>
    have e0 : 1 = len := by simpa [zsw, zlen] using hlen
    subst e0
    exact sv_baload hx hb hKK hX hbl hbA hq9 hd hK h
  case laload =>
    have e0 : 1 = len := by simpa [zsw, zlen] using hlen
    subst e0
    exact sv_laload hx hb hKK hX hbl hbA hq9 hd hK h
  case iastore =>
    have e0 : 1 = len := by simpa [zsw, zlen] using hlen
    subst e0
    exact sv_iastore hx hb hKK hq hd hK h
  case bastore =>
    have e0 : 1 = len := by simpa [zsw, zlen] using hlen
    subst e0
    exact sv_bastore hx hb hKK hq hd hK h
  case lastore =>
    have e0 : 1 = len := by simpa [zsw, zlen] using hlen
    subst e0
    exact sv_lastore hx hb hKK hq hd hK h
  case arraylength =>
    have e0 : 1 = len := by simpa [zsw, zlen] using hlen
    subst e0
    exact sv_arraylength hx hb hKK hX hbl hbA hq9 hd hK h
  case invokevirtual i =>
    have e0 : 3 = len := by simpa [zsw, zlen] using hlen
    subst e0
    simp only [zchkO, Bool.and_eq_true, decide_eq_true_eq, beq_iff_eq] at hc
    obtain ⟨hc1, hc2, hc3, hc4⟩ := hc
    dsimp only [zO] at h
    cases d with
    | zero =>
      exfalso
      rw [hc2] at h
      exact h.2.2.2.2
    | succ d => exact sv_virt (o := zmO z) hx hb hown hts hnw hKK hX hbl hbA hq9 hml (d := d) (by omega) (by omega) hce hsl hc4 hc3 hc2 (fun as μ P h1 h2 h3 h4 h5 => by
        obtain ⟨d2, e1, e2⟩ := hM ex as μ P h1 hc4 h2 h3 h4 h5
        have e3 : d = d2 := by omega
        rw [e3]; exact e2) hc1 hd hK h
  case invokestatic i =>
    have e0 : 3 = len := by simpa [zsw, zlen] using hlen
    subst e0
    dsimp only [zO] at h
    dsimp only [zchkO] at hc
    by_cases t9 : tb = [(9, 5)]
    · rw [if_pos t9] at hc
      exact sv_copy (o := zmO z) hx hb hown hts hKK hq hml (by omega) (by omega) hc hd hK (h.1 t9)
    rw [if_neg t9] at hc
    replace h := h.2 t9
    by_cases t10 : tb = [(10, 1)]
    · rw [if_pos t10] at hc
      exact sv_mabs (o := zmO z) hx hb hown hts hKK hml (by omega) (by omega) hce hsl hc hd hK (h.1 t10)
    rw [if_neg t10] at hc
    replace h := h.2 t10
    by_cases t11 : tb = [(11, 2)]
    · rw [if_pos t11] at hc
      exact sv_mmin (o := zmO z) hx hb hown hts hKK hml (by omega) (by omega) hce hsl hc hd hK (h.1 t11)
    rw [if_neg t11] at hc
    replace h := h.2 t11
    by_cases t12 : tb = [(12, 2)]
    · rw [if_pos t12] at hc
      exact sv_mminl (o := zmO z) hx hb hown hts hKK hml (by omega) (by omega) hce hsl hc hd hK (h.1 t12)
    rw [if_neg t12] at hc
    replace h := h.2 t12
    simp only [Bool.and_eq_true, Bool.or_eq_true, decide_eq_true_eq, beq_iff_eq] at hc
    obtain ⟨hc1, hc2, hc3, hc4⟩ := hc
    cases d with
    | zero =>
      exfalso
      rw [hc2] at h
      exact h.2.2
    | succ d => exact sv_stat (o := zmO z) hx hb hown hts hnw hKK hX hbl hbA hq9 hml (d := d) (by omega) (by omega) hce hsl hc4 hc3 hc2 (fun as μ P h1 h2 h3 h4 h5 => by
        obtain ⟨d2, e1, e2⟩ := hM ex as μ P h1 hc4 h2 h3 h4 h5
        have e3 : d = d2 := by omega
        rw [e3]; exact e2) hc1 hd hK h
  case ireturn =>
    have e0 : 1 = len := by simpa [zsw, zlen] using hlen
    subst e0
    simp only [zchkO, Bool.and_eq_true, Bool.or_eq_true, beq_iff_eq] at hc
    intro H locs ls hw hl hs
    rcases st with _ | ⟨⟨t1, v⟩, r⟩
    · exact h.elim
    obtain ⟨h1, h2, h3⟩ := h
    subst h1; subst h2
    have iv := zst_hi hs
    have e1 : zri (zmK z) = .ireturn := by unfold zri; rw [if_neg (by omega), if_neg (by omega), if_neg (by omega)]
    have e2 : zP (zmK z : Nat) v [] = [(0, v)] := by unfold zP; rw [if_neg (by omega), if_neg (by omega), if_neg (by omega)]
    have k := hR v μ H locs ls pc h3.2 hw (fun _ => iv) (fun z4 => h3.1 (by omega)) (fun z4 => by omega) (fun z4 => by omega) (by rw [e1]; exact hd)
    rw [e2] at k
    exact k
  case lreturn =>
    have e0 : 1 = len := by simpa [zsw, zlen] using hlen
    subst e0
    simp only [zchkO, beq_iff_eq] at hc
    intro H locs ls hw hl hs
    rcases st with _ | ⟨⟨t1, v⟩, r⟩
    · exact h.elim
    obtain ⟨h1, h2, h3⟩ := h
    subst h1; subst h2
    have iv := zst_hl hs
    have e1 : zri (zmK z) = .lreturn := by rw [hc]; rfl
    have e2 : zP (zmK z : Nat) v [] = [(1, v)] := by rw [hc]; rfl
    have k := hR v μ H locs ls pc h3 hw (fun z4 => by omega) (fun z4 => by omega) (fun z4 => iv) (fun z4 => by omega) (by rw [e1]; exact hd)
    rw [e2] at k
    exact k
  case areturn =>
    have e0 : 1 = len := by simpa [zsw, zlen] using hlen
    subst e0
    simp only [zchkO, beq_iff_eq] at hc
    intro H locs ls hw hl hs
    rcases st with _ | ⟨⟨t1, v⟩, r⟩
    · exact h.elim
    obtain ⟨h1, h2, h3⟩ := h
    subst h1; subst h2
    have e1 : zri (zmK z) = .areturn := by rw [hc]; rfl
    have e2 : zP (zmK z : Nat) v [] = [(2, v)] := by rw [hc]; rfl
    have k := hR v μ H locs ls pc h3 hw (fun z4 => by omega) (fun z4 => by omega) (fun z4 => by omega) (fun z4 => by omega) (by rw [e1]; exact hd)
    rw [e2] at k
    exact k
  case return_ =>
    have e0 : 1 = len := by simpa [zsw, zlen] using hlen
    subst e0
    simp only [zchkO, beq_iff_eq] at hc
    intro H locs ls hw hl hs
    obtain ⟨h1, h3⟩ := h
    subst h1
    have e1 : zri (zmK z) = .return_ := by rw [hc]; rfl
    have e2 : zP (zmK z : Nat) 0 [] = [] := by rw [hc]; rfl
    have k := hR 0 μ H locs ls pc h3 hw (fun z4 => by omega) (fun z4 => by omega) (fun z4 => by omega) (fun z4 => rfl) (by rw [e1]; exact hd)
    rw [e2] at k
    exact k
  case tableswitch d0 lo hi offs =>
    simp only [zchkO, zjmp, Bool.and_eq_true, decide_eq_true_eq] at hc
    exact sv_tableswitch hx hb hc.1 hc.2.1 hc.2.2 hS hd h
  case lookupswitch d0 ps =>
    simp only [zchkO, zjmp, Bool.and_eq_true, decide_eq_true_eq] at hc
    exact sv_lookupswitch hx hb hc.1 hc.2.1 hc.2.2 hS hd h
  case nop => exact absurd hc (by simp [zchkO])
  all_goals exact False.elim h
theorem sB {p : Program} {l : Launch} {e : Env} {R : Room} {s : State} {m : MethodId} {args : Array Value} {below : List Frame} {meth : Method} {c : Code} {cells slots : Nat} {Qw : State → Prop} {dC : Nat → ClassId} {dI : Nat → Nat → Nat} {q : Nat → Nat} {cI cB cL : ClassId} {L : Nat} {xs : Nat → Int32} {b : Nat} {z d : Nat} (hy : zHy p R s m args c z d cells slots dC dI q cI cB cL L b xs) (hM : ∀ z2 as μ P, zC d z2 as μ P → z2 < 193 → as.length = zmA z2 → (∀ v ∈ as, v.1 ≤ 2 ∧ zok v) → zrng μ → zscr L xs μ → ∃ d2, d = d2 + 1 ∧ zMt l dC dI q cI cB cL L b xs d2 z2 as μ P) {Q : Int → zM → Prop} {S : Nat → List zV → List zV → zM → Prop} (hR : zRt p l e R s m args below meth c cells slots Qw dC dI q cI cB cL L xs z Q) (hS : ∀ L2 lv st μ, S L2 lv st μ → zGo p l e R s m args below meth c cells slots Qw dC dI q cI cB cL L xs (zmL z) L2 lv st μ) : ∀ (is : List zI) (pc : Nat) (lv st : List zV) (μ : zM), zchkB z pc is = true → zB (zC d) Q S is lv st μ → zGo p l e R s m args below meth c cells slots Qw dC dI q cI cB cL L xs (zmL z) pc lv st μ
  | [], _, _, _, _, _, h => h.elim
  | (op, ex, tb) :: is, pc, lv, st, μ, hc, h => by
    unfold zchkB at hc
    by_cases hn : op = .nop
    · subst hn
      simp only [decide_true, beq_iff_eq] at hc
      subst hc
      exact hS _ _ _ _ h
    · simp only [hn, decide_false] at hc
      split at hc
      · rename_i op2 len hd
        simp only [Bool.and_eq_true, decide_eq_true_eq] at hc
        obtain ⟨h1, h2, h3, h4⟩ := hc
        subst h1
        exact sO hy hM hR hd h2 h3 (fun lv st μ hk => sB hy hM hR hS is (pc + len) lv st μ h4 hk) hS h
      · exact absurd hc (by decide)
theorem zck_all {z : Nat} (h : z < 193) : zchkM z = true := by
  have hm : ∀ {a n : Nat}, ((List.range' a n).all zchkM = true) → a ≤ z → z < a + n → zchkM z = true := fun h1 h2 h3 => List.all_eq_true.mp h1 z (by rw [List.mem_range'_1]; exact ⟨h2, h3⟩)
  rcases Nat.lt_or_ge z 14 with h0 | h0
  · exact hm zck_0 (by omega) (by omega)
  rcases Nat.lt_or_ge z 28 with h14 | h14
  · exact hm zck_14 (by omega) (by omega)
  rcases Nat.lt_or_ge z 42 with h28 | h28
  · exact hm zck_28 (by omega) (by omega)
  rcases Nat.lt_or_ge z 56 with h42 | h42
  · exact hm zck_42 (by omega) (by omega)
  rcases Nat.lt_or_ge z 70 with h56 | h56
  · exact hm zck_56 (by omega) (by omega)
  rcases Nat.lt_or_ge z 84 with h70 | h70
  · exact hm zck_70 (by omega) (by omega)
  rcases Nat.lt_or_ge z 98 with h84 | h84
  · exact hm zck_84 (by omega) (by omega)
  rcases Nat.lt_or_ge z 112 with h98 | h98
  · exact hm zck_98 (by omega) (by omega)
  rcases Nat.lt_or_ge z 126 with h112 | h112
  · exact hm zck_112 (by omega) (by omega)
  rcases Nat.lt_or_ge z 140 with h126 | h126
  · exact hm zck_126 (by omega) (by omega)
  rcases Nat.lt_or_ge z 154 with h140 | h140
  · exact hm zck_140 (by omega) (by omega)
  rcases Nat.lt_or_ge z 168 with h154 | h154
  · exact hm zck_154 (by omega) (by omega)
  rcases Nat.lt_or_ge z 182 with h168 | h168
  · exact hm zck_168 (by omega) (by omega)
  rcases Nat.lt_or_ge z 193 with h182 | h182
  · exact hm zck_182 (by omega) (by omega)
  · omega
theorem zck_law : zchkM 193 = true := by
  have e : zbs.getD 193 [] = zb193 := rfl
  unfold zchkM
  rw [e, List.all_eq_true]
  intro x hx
  obtain ⟨i, hi⟩ := List.getElem?_of_mem hx
  have hl : i < 41 := (List.getElem?_eq_some_iff.mp hi).1
  have key : ∀ a n : Nat, ((zb193.drop a).take n).all (fun b => zchkB 193 b.1 b.2) = true → a ≤ i → i < a + n → zchkB 193 x.1 x.2 = true := by
    intro a n h1 h2 h3
    refine List.all_eq_true.mp h1 x (List.mem_of_getElem? (i := i - a) ?_)
    rw [List.getElem?_take, if_pos (by omega), List.getElem?_drop, show a + (i - a) = i by omega]
    exact hi
  rcases Nat.lt_or_ge i 8 with q | q
  · exact key 0 8 zckL_0 (by omega) (by omega)
  rcases Nat.lt_or_ge i 16 with q | q
  · exact key 8 8 zckL_8 (by omega) (by omega)
  rcases Nat.lt_or_ge i 24 with q | q
  · exact key 16 8 zckL_16 (by omega) (by omega)
  rcases Nat.lt_or_ge i 32 with q | q
  · exact key 24 8 zckL_24 (by omega) (by omega)
  rcases Nat.lt_or_ge i 40 with q | q
  · exact key 32 8 zckL_32 (by omega) (by omega)
  · exact key 40 1 zckL_40 (by omega) (by omega)
theorem zblk_ok {z : Nat} (hz : z ≤ 193) (L0 : Nat) : zchkB z L0 (zblk z L0) = true := by
  have hm : zchkM z = true := by
    rcases Nat.lt_or_ge z 193 with h | h
    · exact zck_all h
    · have e : z = 193 := by omega
      rw [e]; exact zck_law
  unfold zblk
  split
  · rename_i x hx
    have h1 := List.mem_of_find?_eq_some hx
    have h2 := List.find?_some hx
    simp only [beq_iff_eq] at h2
    have h3 := List.all_eq_true.mp hm x h1
    rw [← h2]; exact h3
  · rfl
theorem zlay_len {q : Nat → Nat} : ∀ (as : List zV), (lg_sl (as.map (ztr q))).length = (zlay as).length
  | [] => rfl
  | v :: r => by
    have ih := zlay_len (q := q) r
    unfold lg_sl at ih ⊢
    rw [List.map_cons, List.flatMap_cons, List.length_append, ih]
    by_cases e : v.1 = 1
    · rw [if_pos (zcat.mpr e)]
      simp only [zlay, if_pos e, List.length_cons, List.length_nil]
      omega
    · rw [if_neg (fun z => e (zcat.mp z))]
      simp only [zlay, if_neg e, List.length_cons, List.length_nil]
      omega
theorem zlay_at {q : Nat → Nat} : ∀ (as : List zV) (i j : Nat) (v : zV), (zlay as)[j]? = some v → v.1 ≤ 2 → (i + j, ztr q v) ∈ lv_args i (as.map (ztr q))
  | [], i, j, v, h, _ => by simp [zlay] at h
  | w :: r, i, j, v, h, hv => by
    rw [List.map_cons]
    unfold lv_args
    by_cases e : w.1 = 1
    · simp only [zlay, if_pos e] at h
      rw [if_pos (zcat.mpr e)]
      match j, h with
      | 0, h =>
        simp only [List.getElem?_cons_zero, Option.some.injEq] at h
        subst h
        exact List.mem_cons_self
      | 1, h =>
        simp only [List.getElem?_cons_succ, List.getElem?_cons_zero, Option.some.injEq] at h
        subst h
        exact absurd hv (by decide)
      | j + 2, h =>
        simp only [List.getElem?_cons_succ] at h
        have := zlay_at (q := q) r (i + 2) j v h hv
        rw [show i + (j + 2) = i + 2 + j by omega]
        exact List.mem_cons_of_mem _ this
    · simp only [zlay, if_neg e] at h
      rw [if_neg (fun z => e (zcat.mp z))]
      match j, h with
      | 0, h =>
        simp only [List.getElem?_cons_zero, Option.some.injEq] at h
        subst h
        exact List.mem_cons_self
      | j + 1, h =>
        simp only [List.getElem?_cons_succ] at h
        have := zlay_at (q := q) r (i + 1) j v h hv
        rw [show i + (j + 1) = i + 1 + j by omega]
        exact List.mem_cons_of_mem _ this
theorem zlay_ok : ∀ (as : List zV), (∀ v ∈ as, zok v) → ∀ v ∈ zlay as, zok v
  | [], _, v, h => by simp [zlay] at h
  | w :: r, ha, v, h => by
    have h9 : zok (9, 0) := ⟨fun q => (by cases q), fun q => (by cases q)⟩
    have hr := zlay_ok r (fun v hv => ha v (List.mem_cons_of_mem _ hv))
    unfold zlay at h
    split at h
    · rcases List.mem_cons.mp h with rfl | h
      · exact ha _ List.mem_cons_self
      · rcases List.mem_cons.mp h with rfl | h
        · exact h9
        · exact hr v h
    · rcases List.mem_cons.mp h with rfl | h
      · exact ha _ List.mem_cons_self
      · exact hr v h
theorem zent_lv {q : Nat → Nat} {z : Nat} {as : List zV} {ls : Array Slot} (hlen : (zlay as).length ≤ zmL z) (ha : ∀ v ∈ as, v.1 ≤ 2 ∧ zok v) (hl : lv_has ls (zmL z) (lv_args 0 (as.map (ztr q)))) : zlv q ls (zmL z) (zent z as) := by
  refine ⟨by unfold zent; rw [List.length_append, List.length_replicate]; omega, ⟨hl.1, hl.2.1, fun x hx => ?_⟩, fun v hv => ?_⟩
  · obtain ⟨j, w⟩ := x
    obtain ⟨v, h3, h4, rfl⟩ := zasc_mem.mp hx
    apply hl.2.2
    unfold zent at h3
    rcases Nat.lt_or_ge j (zlay as).length with hj | hj
    · rw [List.getElem?_append_left hj] at h3
      have := zlay_at (q := q) as 0 j v h3 h4
      rw [Nat.zero_add] at this
      exact this
    · rw [List.getElem?_append_right hj, List.getElem?_replicate] at h3
      split at h3
      · cases h3; exact absurd h4 (by decide)
      · cases h3
  · unfold zent at hv
    rcases List.mem_append.mp hv with h | h
    · exact zlay_ok as (fun v hv => (ha v hv).2) v h
    · have := (List.mem_replicate.mp h).2
      rw [this]
      exact ⟨fun q => (by cases q), fun q => (by cases q)⟩
/-- a run from a leader, given the calls' contracts -/
theorem sL {p : Program} {l : Launch} {e : Env} {R : Room} {s : State} {m : MethodId} {args : Array Value} {below : List Frame} {meth : Method} {c : Code} {cells slots : Nat} {Qw : State → Prop} {dC : Nat → ClassId} {dI : Nat → Nat → Nat} {q : Nat → Nat} {cI cB cL : ClassId} {L : Nat} {xs : Nat → Int32} {b : Nat} {z d : Nat} (hz : z ≤ 193) (hy : zHy p R s m args c z d cells slots dC dI q cI cB cL L b xs) (hM : ∀ z2 as μ P, zC d z2 as μ P → z2 < 193 → as.length = zmA z2 → (∀ v ∈ as, v.1 ≤ 2 ∧ zok v) → zrng μ → zscr L xs μ → ∃ d2, d = d2 + 1 ∧ zMt l dC dI q cI cB cL L b xs d2 z2 as μ P) {Q : Int → zM → Prop} (hR : zRt p l e R s m args below meth c cells slots Qw dC dI q cI cB cL L xs z Q) {L0 : Nat} {lv st : List zV} {μ : zM} (h : zR d z Q L0 lv st μ) : zGo p l e R s m args below meth c cells slots Qw dC dI q cI cB cL L xs (zmL z) L0 lv st μ := by
  rw [zR_eq] at h
  exact h (fun L0 lv st μ => zGo p l e R s m args below meth c cells slots Qw dC dI q cI cB cL L xs (zmL z) L0 lv st μ) (fun L0 lv st μ hB => sB hy hM hR (fun _ _ _ _ w => w) (zblk z L0) L0 lv st μ (zblk_ok hz L0) hB)
set_option maxHeartbeats 4000000 in
theorem sM0 (l : Launch) {dC : Nat → ClassId} {dI : Nat → Nat → Nat} {q : Nat → Nat} {cI cB cL : ClassId} {L b : Nat} {xs : Nat → Int32} (hq : zinj q) (hbA : ¬ zA q b) (hq9 : q 99 = b) (d : Nat) (hM : ∀ z2 as μ P, zC d z2 as μ P → z2 < 193 → as.length = zmA z2 → (∀ v ∈ as, v.1 ≤ 2 ∧ zok v) → zrng μ → zscr L xs μ → ∃ d2, d = d2 + 1 ∧ zMt l dC dI q cI cB cL L b xs d2 z2 as μ P) : ∀ (z : Nat) (as : List zV) (μ : zM) (P : Int → zM → Prop), z < 193 → (zlay as).length ≤ zmL z → (∀ v ∈ as, v.1 ≤ 2 ∧ zok v) → zrng μ → zscr L xs μ → zR d z P 0 (zent z as) [] μ → zMt l dC dI q cI cB cL L b xs d z as μ P := by
  intro z as μ P hz hlen ha hrng hscr h
  obtain ⟨g1, g2, g3, g4, g5, g6, g7, g8, g9, g10, g11, g12⟩ := zmw_sp hz
  unfold zMt
  refine Met.ofW (cc := zmC z) (maxL := zmL z) (ret := zmR z) g8 rfl ?_
  intro p e s m args below meth c s₁ B hml hv
  obtain ⟨rfl, hP, hKK, hnw, hX, hbl⟩ := hv
  have hx := B.exec
  have hb := B.bytes
  have hr := B.returns
  have hts0 := atoms_spec (ws := zW z) B.pre
  have hts : ∀ w ∈ zwG, w.before (as.map (ztr q)).toArray s = true := fun w hw => hts0 w (List.mem_cons_of_mem _ hw)
  have hown0 : s.vm.findClass (zmN z).cls = some m.cls := findClass_of_methodNamed B.named
  have hown : s.vm.findClass (zcN (zmO z)) = some m.cls := by rw [← g5]; exact hown0
  have hlocks := B.notSynchronized
  have hS : va_S (zA q) s.heap s.heap [] := va_S.rf
  have hl := lv_entry (as.map (ztr q)) (n := zmL z) (by rw [zlay_len]; exact hlen)
  rw [lg_entry_eq]
  generalize (lg_sl (as.map (ztr q)) ++ List.replicate (zmL z - (lg_sl (as.map (ztr q))).length) Slot.unset).toArray = ls at hl ⊢
  have hy : zHy p (headSpec (zW z) (zrm d)).room s m (as.map (ztr q)).toArray c z d 0 0 dC dI q cI cB cL L b xs := ⟨hx, hb, hml, hown, hts, hnw, hKK, hq, Nat.le_refl _, Nat.le_refl _, Nat.zero_le _, Nat.zero_le _, hX, hbl, hbA, hq9⟩
  have hR : zRt p l e (headSpec (zW z) (zrm d)).room s m (as.map (ztr q)).toArray below meth c 0 0 (MQ below (zPo dC dI q cI cB cL L xs (zmK z) P) (as.map (ztr q)).toArray s 0 0 (zA q)) dC dI q cI cB cL L xs z P := by
    intro r u H locs ls2 pc hPr hw k1 k4 k2 k0 hd
    have hk : ∀ k, zmK z = k → zret k (zmR z) = true := fun k hk => by rw [← hk]; exact g9
    have hf : ∀ x ∈ locs, zA q x.base := hw.2.1.2.2
    have hF : ∀ t : State, t.heap = H → va_F (zA q) s t := fun t ht => hw.2.1.F ht
    have hBu : ∀ t : State, t.heap = H → zBu dC dI q cI cB cL u t := fun t ht => by unfold zBu; rw [ht]; exact hw.1
    have hsc : zrng u ∧ zscr L xs u := hw.2.2
    rcases (show zmK z = 0 ∨ zmK z = 1 ∨ zmK z = 2 ∨ zmK z = 3 ∨ zmK z = 4 ∨ 5 ≤ zmK z by omega) with e | e | e | e | e | e
    · have hrt : zmR z = none := by
        have := hk 0 e
        cases er : zmR z with
        | none => rfl
        | some x => rw [er] at this; simp [zret] at this
      rw [e] at hd ⊢
      have e0 := k0 e
      subst e0
      refine W.vret (cc := zmC z) hx hb (by rw [hr, hrt]) (fun t ht hWt => ?_) hf hd hlocks
      unfold zPo
      rw [if_pos rfl]
      exact ⟨⟨u, rfl, ⟨hPr, hsc⟩, hBu t ht⟩, hF t ht⟩
    · have hrt : zmR z = some .int := by
        have := hk 1 e
        cases er : zmR z with
        | none => rw [er] at this; simp [zret] at this
        | some x => rw [er] at this; cases x <;> first | rfl | (simp [zret] at this; done)
      rw [e] at hd ⊢
      refine W.iret (cc := zmC z) (v := Int32.ofInt r) hx hb (by rw [hr, hrt]) (fun t ht hWt => ?_) hf hd hlocks
      unfold zPo
      rw [if_neg (by decide), if_neg (by decide), if_neg (by decide)]
      exact ⟨⟨_, u, rfl, ⟨⟨r, rfl, k1 e, hPr⟩, hsc⟩, hBu t ht⟩, hF t ht⟩
    · have hrt : zmR z = some .long := by
        have := hk 2 e
        cases er : zmR z with
        | none => rw [er] at this; simp [zret] at this
        | some x => rw [er] at this; cases x <;> first | rfl | (simp [zret] at this; done)
      rw [e] at hd ⊢
      refine W.lret (cc := zmC z) (v := Int64.ofInt r) hx hb (by rw [hr, hrt]) (fun t ht hWt => ?_) hf hd hlocks
      unfold zPo
      rw [if_neg (by decide), if_pos rfl]
      exact ⟨⟨_, u, rfl, ⟨⟨r, rfl, k2 e, hPr⟩, hsc⟩, hBu t ht⟩, hF t ht⟩
    · have hrt : ∃ nm, zmR z = some (.object nm) := by
        have := hk 3 e
        cases er : zmR z with
        | none => rw [er] at this; simp [zret] at this
        | some x => rw [er] at this; cases x <;> first | exact ⟨_, rfl⟩ | (simp [zret] at this; done)
      obtain ⟨nm, hrt⟩ := hrt
      rw [e] at hd ⊢
      refine W.aret (cc := zmC z) (v := .ref (q r.toNat)) hx hb (by rw [hr, hrt]) (Or.inl ⟨nm, rfl⟩) (Or.inr ⟨_, rfl⟩) (fun t ht hWt => ?_) hf hd hlocks
      unfold zPo
      rw [if_neg (by decide), if_neg (by decide), if_pos rfl]
      exact ⟨⟨u, _, rfl, hsc, ⟨r, rfl, hPr⟩, hBu t ht⟩, hF t ht⟩
    · have hrt : zmR z = some .boolean := by
        have := hk 4 e
        cases er : zmR z with
        | none => rw [er] at this; simp [zret] at this
        | some x => rw [er] at this; cases x <;> first | rfl | (simp [zret] at this; done)
      rw [e] at hd ⊢
      have h01 := k4 e
      have hnar : narrow .boolean (.int (Int32.ofInt r)) = .int (Int32.ofInt r) := by rcases h01 with rfl | rfl <;> decide +kernel
      have ir : zi32 r := by rcases h01 with rfl | rfl <;> (unfold zi32; omega)
      refine W.zret (cc := zmC z) (v := Int32.ofInt r) hx hb (by rw [hr, hrt]) hnar (fun t ht hWt => ?_) hf hd hlocks
      unfold zPo
      rw [if_neg (by decide), if_neg (by decide), if_neg (by decide)]
      exact ⟨⟨_, u, rfl, ⟨⟨r, rfl, ir, hPr⟩, hsc⟩, hBu t ht⟩, hF t ht⟩
    · exfalso
      unfold zret at g9
      split at g9 <;> first | omega | exact absurd g9 (by decide)
  exact sL (Nat.le_of_lt hz) hy hM hR h s.heap [] ls ⟨hP, hS, hrng, hscr⟩ (zent_lv hlen ha hl) zst_nil
set_option maxHeartbeats 4000000 in
/-- the contract of each method, by the depth of its calls -/
theorem sM (l : Launch) {dC : Nat → ClassId} {dI : Nat → Nat → Nat} {q : Nat → Nat} {cI cB cL : ClassId} {L b : Nat} {xs : Nat → Int32} (hq : zinj q) (hbA : ¬ zA q b) (hq9 : q 99 = b) : ∀ (d z : Nat) (as : List zV) (μ : zM) (P : Int → zM → Prop), z < 193 → (zlay as).length ≤ zmL z → (∀ v ∈ as, v.1 ≤ 2 ∧ zok v) → zrng μ → zscr L xs μ → zR d z P 0 (zent z as) [] μ → zMt l dC dI q cI cB cL L b xs d z as μ P := by
  intro d
  induction d with
  | zero => exact sM0 l hq hbA hq9 0 (fun z2 as μ P h => False.elim h)
  | succ d ih => exact sM0 l hq hbA hq9 (d + 1) (fun z2 as μ P h h1 h2 h3 h4 h5 => ⟨d, rfl, ih z2 as μ P h1 h.1 h3 h4 h5 h.2⟩)
