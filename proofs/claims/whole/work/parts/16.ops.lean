/-! one instruction of the machine is one of the kit's -/
def zWd (dC : Nat → ClassId) (dI : Nat → Nat → Nat) (q : Nat → Nat) (cI cB cL : ClassId) (L : Nat) (xs : Nat → Int32) (s : State) (μ : zM) (H : Heap) (locs : List Loc) : Prop := va_P (dC, dI) vwCl (zws q cI cB cL μ) H ∧ va_S (zA q) s.heap H locs ∧ zrng μ ∧ zscr L xs μ
def zGo (p : Program) (l : Launch) (e : Env) (R : Room) (s : State) (m : MethodId) (args : Array Value) (below : List Frame) (meth : Method) (c : Code) (cells slots : Nat) (Qw : State → Prop) (dC : Nat → ClassId) (dI : Nat → Nat → Nat) (q : Nat → Nat) (cI cB cL : ClassId) (L : Nat) (xs : Nat → Int32) (n pc : Nat) (lv st : List zV) (μ : zM) : Prop := ∀ (H : Heap) (locs : List Loc) (ls : Array Slot), zWd dC dI q cI cB cL L xs s μ H locs → zlv q ls n lv → zst st → W p l e R s m args below meth c H locs cells slots Qw (F0 m pc ls (st.map (ztr q)))
theorem sv_iload_n {p : Program} {l : Launch} {e : Env} {R : Room} {s : State} {m : MethodId} {args : Array Value} {below : List Frame} {meth : Method} {c : Code} {cells slots : Nat} {Qw : State → Prop} {dC : Nat → ClassId} {dI : Nat → Nat → Nat} {q : Nat → Nat} {cI cB cL : ClassId} {L : Nat} {xs : Nat → Int32} (hx : p.tables.exec = Jvm.exec) {cc : ByteArray} (hb : c.code = cc) {pc n : Nat} {lv st : List zV} {μ : zM} {K : List zV → List zV → zM → Prop} {k : Fin 4} (hd : decode cc pc = .ok (.iload_n k, 1)) (hK : ∀ lv st μ, K lv st μ → zGo p l e R s m args below meth c cells slots Qw dC dI q cI cB cL L xs n (pc + 1) lv st μ) (h : zLd 0 k.val lv (fun v => K lv (v :: st) μ)) : zGo p l e R s m args below meth c cells slots Qw dC dI q cI cB cL L xs n pc lv st μ := by
  intro H locs ls hw hl hs
  obtain ⟨h1, h3⟩ := h
  have h2 := zlv_ld (i := k.val) hl (by rw [h1]; decide)
  generalize lv.getD k.val (9, 0) = v at h1 h2 h3
  obtain ⟨t, x⟩ := v
  simp only at h1
  subst h1
  refine lv_iload_n hx hb hd rfl h2.1 ?_
  exact hK _ _ _ h3 H locs ls hw hl (zst_i (h2.2.1 rfl) hs)
theorem sv_iload {p : Program} {l : Launch} {e : Env} {R : Room} {s : State} {m : MethodId} {args : Array Value} {below : List Frame} {meth : Method} {c : Code} {cells slots : Nat} {Qw : State → Prop} {dC : Nat → ClassId} {dI : Nat → Nat → Nat} {q : Nat → Nat} {cI cB cL : ClassId} {L : Nat} {xs : Nat → Int32} (hx : p.tables.exec = Jvm.exec) {cc : ByteArray} (hb : c.code = cc) {pc n : Nat} {lv st : List zV} {μ : zM} {K : List zV → List zV → zM → Prop} {k : Nat} (hd : decode cc pc = .ok (.iload k, 2)) (hK : ∀ lv st μ, K lv st μ → zGo p l e R s m args below meth c cells slots Qw dC dI q cI cB cL L xs n (pc + 2) lv st μ) (h : zLd 0 k lv (fun v => K lv (v :: st) μ)) : zGo p l e R s m args below meth c cells slots Qw dC dI q cI cB cL L xs n pc lv st μ := by
  intro H locs ls hw hl hs
  obtain ⟨h1, h3⟩ := h
  have h2 := zlv_ld (i := k) hl (by rw [h1]; decide)
  generalize lv.getD k (9, 0) = v at h1 h2 h3
  obtain ⟨t, x⟩ := v
  simp only at h1
  subst h1
  refine lv_iload hx hb hd h2.1 ?_
  exact hK _ _ _ h3 H locs ls hw hl (zst_i (h2.2.1 rfl) hs)
theorem sv_lload_n {p : Program} {l : Launch} {e : Env} {R : Room} {s : State} {m : MethodId} {args : Array Value} {below : List Frame} {meth : Method} {c : Code} {cells slots : Nat} {Qw : State → Prop} {dC : Nat → ClassId} {dI : Nat → Nat → Nat} {q : Nat → Nat} {cI cB cL : ClassId} {L : Nat} {xs : Nat → Int32} (hx : p.tables.exec = Jvm.exec) {cc : ByteArray} (hb : c.code = cc) {pc n : Nat} {lv st : List zV} {μ : zM} {K : List zV → List zV → zM → Prop} {k : Fin 4} (hd : decode cc pc = .ok (.lload_n k, 1)) (hK : ∀ lv st μ, K lv st μ → zGo p l e R s m args below meth c cells slots Qw dC dI q cI cB cL L xs n (pc + 1) lv st μ) (h : zLd 1 k.val lv (fun v => K lv (v :: st) μ)) : zGo p l e R s m args below meth c cells slots Qw dC dI q cI cB cL L xs n pc lv st μ := by
  intro H locs ls hw hl hs
  obtain ⟨h1, h3⟩ := h
  have h2 := zlv_ld (i := k.val) hl (by rw [h1]; decide)
  generalize lv.getD k.val (9, 0) = v at h1 h2 h3
  obtain ⟨t, x⟩ := v
  simp only at h1
  subst h1
  refine lv_lload_n hx hb hd rfl h2.1 ?_
  exact hK _ _ _ h3 H locs ls hw hl (zst_l (h2.2.2 rfl) hs)
theorem sv_lload {p : Program} {l : Launch} {e : Env} {R : Room} {s : State} {m : MethodId} {args : Array Value} {below : List Frame} {meth : Method} {c : Code} {cells slots : Nat} {Qw : State → Prop} {dC : Nat → ClassId} {dI : Nat → Nat → Nat} {q : Nat → Nat} {cI cB cL : ClassId} {L : Nat} {xs : Nat → Int32} (hx : p.tables.exec = Jvm.exec) {cc : ByteArray} (hb : c.code = cc) {pc n : Nat} {lv st : List zV} {μ : zM} {K : List zV → List zV → zM → Prop} {k : Nat} (hd : decode cc pc = .ok (.lload k, 2)) (hK : ∀ lv st μ, K lv st μ → zGo p l e R s m args below meth c cells slots Qw dC dI q cI cB cL L xs n (pc + 2) lv st μ) (h : zLd 1 k lv (fun v => K lv (v :: st) μ)) : zGo p l e R s m args below meth c cells slots Qw dC dI q cI cB cL L xs n pc lv st μ := by
  intro H locs ls hw hl hs
  obtain ⟨h1, h3⟩ := h
  have h2 := zlv_ld (i := k) hl (by rw [h1]; decide)
  generalize lv.getD k (9, 0) = v at h1 h2 h3
  obtain ⟨t, x⟩ := v
  simp only at h1
  subst h1
  refine lv_lload hx hb hd h2.1 ?_
  exact hK _ _ _ h3 H locs ls hw hl (zst_l (h2.2.2 rfl) hs)
theorem sv_aload_n {p : Program} {l : Launch} {e : Env} {R : Room} {s : State} {m : MethodId} {args : Array Value} {below : List Frame} {meth : Method} {c : Code} {cells slots : Nat} {Qw : State → Prop} {dC : Nat → ClassId} {dI : Nat → Nat → Nat} {q : Nat → Nat} {cI cB cL : ClassId} {L : Nat} {xs : Nat → Int32} (hx : p.tables.exec = Jvm.exec) {cc : ByteArray} (hb : c.code = cc) {pc n : Nat} {lv st : List zV} {μ : zM} {K : List zV → List zV → zM → Prop} {k : Fin 4} (hd : decode cc pc = .ok (.aload_n k, 1)) (hK : ∀ lv st μ, K lv st μ → zGo p l e R s m args below meth c cells slots Qw dC dI q cI cB cL L xs n (pc + 1) lv st μ) (h : zLd 2 k.val lv (fun v => K lv (v :: st) μ)) : zGo p l e R s m args below meth c cells slots Qw dC dI q cI cB cL L xs n pc lv st μ := by
  intro H locs ls hw hl hs
  obtain ⟨h1, h3⟩ := h
  have h2 := zlv_ld (i := k.val) hl (by rw [h1]; decide)
  generalize lv.getD k.val (9, 0) = v at h1 h2 h3
  obtain ⟨t, x⟩ := v
  simp only at h1
  subst h1
  refine lv_aload_n hx hb hd rfl h2.1 ?_
  exact hK _ _ _ h3 H locs ls hw hl (zst_r hs)
theorem sv_aload {p : Program} {l : Launch} {e : Env} {R : Room} {s : State} {m : MethodId} {args : Array Value} {below : List Frame} {meth : Method} {c : Code} {cells slots : Nat} {Qw : State → Prop} {dC : Nat → ClassId} {dI : Nat → Nat → Nat} {q : Nat → Nat} {cI cB cL : ClassId} {L : Nat} {xs : Nat → Int32} (hx : p.tables.exec = Jvm.exec) {cc : ByteArray} (hb : c.code = cc) {pc n : Nat} {lv st : List zV} {μ : zM} {K : List zV → List zV → zM → Prop} {k : Nat} (hd : decode cc pc = .ok (.aload k, 2)) (hK : ∀ lv st μ, K lv st μ → zGo p l e R s m args below meth c cells slots Qw dC dI q cI cB cL L xs n (pc + 2) lv st μ) (h : zLd 2 k lv (fun v => K lv (v :: st) μ)) : zGo p l e R s m args below meth c cells slots Qw dC dI q cI cB cL L xs n pc lv st μ := by
  intro H locs ls hw hl hs
  obtain ⟨h1, h3⟩ := h
  have h2 := zlv_ld (i := k) hl (by rw [h1]; decide)
  generalize lv.getD k (9, 0) = v at h1 h2 h3
  obtain ⟨t, x⟩ := v
  simp only at h1
  subst h1
  refine lv_aload hx hb hd h2.1 ?_
  exact hK _ _ _ h3 H locs ls hw hl (zst_r hs)
theorem sv_istore_n {p : Program} {l : Launch} {e : Env} {R : Room} {s : State} {m : MethodId} {args : Array Value} {below : List Frame} {meth : Method} {c : Code} {cells slots : Nat} {Qw : State → Prop} {dC : Nat → ClassId} {dI : Nat → Nat → Nat} {q : Nat → Nat} {cI cB cL : ClassId} {L : Nat} {xs : Nat → Int32} (hx : p.tables.exec = Jvm.exec) {cc : ByteArray} (hb : c.code = cc) {pc n : Nat} {lv st : List zV} {μ : zM} {K : List zV → List zV → zM → Prop} {k : Fin 4} (hd : decode cc pc = .ok (.istore_n k, 1)) (hK : ∀ lv st μ, K lv st μ → zGo p l e R s m args below meth c cells slots Qw dC dI q cI cB cL L xs n (pc + 1) lv st μ) (h : zSt 0 k.val lv st (fun lv st => K lv st μ)) : zGo p l e R s m args below meth c cells slots Qw dC dI q cI cB cL L xs n pc lv st μ := by
  intro H locs ls hw hl hs
  rcases st with _ | ⟨⟨t, x⟩, r⟩
  · exact h.elim
  obtain ⟨h1, h2, h3, h4⟩ := h
  subst h1
  refine lv_istore_n hx hb hd rfl hl.2.1 (by rw [← hl.1]; exact h2) rfl (fun ls hl2 => ?_)
  exact hK _ _ _ h4 H locs ls hw (zlv_set (v := (0, x)) hl.1 hl.2.2 h3 ⟨fun _ => zst_hi hs, fun z => (by cases z)⟩ hl2) (zst_tl hs)
theorem sv_istore {p : Program} {l : Launch} {e : Env} {R : Room} {s : State} {m : MethodId} {args : Array Value} {below : List Frame} {meth : Method} {c : Code} {cells slots : Nat} {Qw : State → Prop} {dC : Nat → ClassId} {dI : Nat → Nat → Nat} {q : Nat → Nat} {cI cB cL : ClassId} {L : Nat} {xs : Nat → Int32} (hx : p.tables.exec = Jvm.exec) {cc : ByteArray} (hb : c.code = cc) {pc n : Nat} {lv st : List zV} {μ : zM} {K : List zV → List zV → zM → Prop} {k : Nat} (hd : decode cc pc = .ok (.istore k, 2)) (hK : ∀ lv st μ, K lv st μ → zGo p l e R s m args below meth c cells slots Qw dC dI q cI cB cL L xs n (pc + 2) lv st μ) (h : zSt 0 k lv st (fun lv st => K lv st μ)) : zGo p l e R s m args below meth c cells slots Qw dC dI q cI cB cL L xs n pc lv st μ := by
  intro H locs ls hw hl hs
  rcases st with _ | ⟨⟨t, x⟩, r⟩
  · exact h.elim
  obtain ⟨h1, h2, h3, h4⟩ := h
  subst h1
  refine lv_istore hx hb hd hl.2.1 (by rw [← hl.1]; exact h2) rfl (fun ls hl2 => ?_)
  exact hK _ _ _ h4 H locs ls hw (zlv_set (v := (0, x)) hl.1 hl.2.2 h3 ⟨fun _ => zst_hi hs, fun z => (by cases z)⟩ hl2) (zst_tl hs)
theorem sv_astore_n {p : Program} {l : Launch} {e : Env} {R : Room} {s : State} {m : MethodId} {args : Array Value} {below : List Frame} {meth : Method} {c : Code} {cells slots : Nat} {Qw : State → Prop} {dC : Nat → ClassId} {dI : Nat → Nat → Nat} {q : Nat → Nat} {cI cB cL : ClassId} {L : Nat} {xs : Nat → Int32} (hx : p.tables.exec = Jvm.exec) {cc : ByteArray} (hb : c.code = cc) {pc n : Nat} {lv st : List zV} {μ : zM} {K : List zV → List zV → zM → Prop} {k : Fin 4} (hd : decode cc pc = .ok (.astore_n k, 1)) (hK : ∀ lv st μ, K lv st μ → zGo p l e R s m args below meth c cells slots Qw dC dI q cI cB cL L xs n (pc + 1) lv st μ) (h : zSt 2 k.val lv st (fun lv st => K lv st μ)) : zGo p l e R s m args below meth c cells slots Qw dC dI q cI cB cL L xs n pc lv st μ := by
  intro H locs ls hw hl hs
  rcases st with _ | ⟨⟨t, x⟩, r⟩
  · exact h.elim
  obtain ⟨h1, h2, h3, h4⟩ := h
  subst h1
  refine lv_astore_n hx hb hd rfl hl.2.1 (by rw [← hl.1]; exact h2) rfl (fun ls hl2 => ?_)
  exact hK _ _ _ h4 H locs ls hw (zlv_set (v := (2, x)) hl.1 hl.2.2 h3 ⟨fun z => (by cases z), fun z => (by cases z)⟩ hl2) (zst_tl hs)
theorem sv_astore {p : Program} {l : Launch} {e : Env} {R : Room} {s : State} {m : MethodId} {args : Array Value} {below : List Frame} {meth : Method} {c : Code} {cells slots : Nat} {Qw : State → Prop} {dC : Nat → ClassId} {dI : Nat → Nat → Nat} {q : Nat → Nat} {cI cB cL : ClassId} {L : Nat} {xs : Nat → Int32} (hx : p.tables.exec = Jvm.exec) {cc : ByteArray} (hb : c.code = cc) {pc n : Nat} {lv st : List zV} {μ : zM} {K : List zV → List zV → zM → Prop} {k : Nat} (hd : decode cc pc = .ok (.astore k, 2)) (hK : ∀ lv st μ, K lv st μ → zGo p l e R s m args below meth c cells slots Qw dC dI q cI cB cL L xs n (pc + 2) lv st μ) (h : zSt 2 k lv st (fun lv st => K lv st μ)) : zGo p l e R s m args below meth c cells slots Qw dC dI q cI cB cL L xs n pc lv st μ := by
  intro H locs ls hw hl hs
  rcases st with _ | ⟨⟨t, x⟩, r⟩
  · exact h.elim
  obtain ⟨h1, h2, h3, h4⟩ := h
  subst h1
  refine lv_astore hx hb hd hl.2.1 (by rw [← hl.1]; exact h2) rfl (fun ls hl2 => ?_)
  exact hK _ _ _ h4 H locs ls hw (zlv_set (v := (2, x)) hl.1 hl.2.2 h3 ⟨fun z => (by cases z), fun z => (by cases z)⟩ hl2) (zst_tl hs)
theorem sv_lstore {p : Program} {l : Launch} {e : Env} {R : Room} {s : State} {m : MethodId} {args : Array Value} {below : List Frame} {meth : Method} {c : Code} {cells slots : Nat} {Qw : State → Prop} {dC : Nat → ClassId} {dI : Nat → Nat → Nat} {q : Nat → Nat} {cI cB cL : ClassId} {L : Nat} {xs : Nat → Int32} (hx : p.tables.exec = Jvm.exec) {cc : ByteArray} (hb : c.code = cc) {pc n : Nat} {lv st : List zV} {μ : zM} {K : List zV → List zV → zM → Prop} {k : Nat} (hd : decode cc pc = .ok (.lstore k, 2)) (hK : ∀ lv st μ, K lv st μ → zGo p l e R s m args below meth c cells slots Qw dC dI q cI cB cL L xs n (pc + 2) lv st μ) (h : zSt2 k lv st (fun lv st => K lv st μ)) : zGo p l e R s m args below meth c cells slots Qw dC dI q cI cB cL L xs n pc lv st μ := by
  intro H locs ls hw hl hs
  rcases st with _ | ⟨⟨t, x⟩, r⟩
  · exact h.elim
  obtain ⟨h1, h2, h3, h4⟩ := h
  subst h1
  refine lv_lstore hx hb hd hl.2.1 (by rw [← hl.1]; exact h2) rfl (fun ls hl2 => ?_)
  exact hK _ _ _ h4 H locs ls hw (zlv_set2 (v := (1, x)) hl.1 hl.2.2 h3 ⟨fun z => (by cases z), fun _ => zst_hl hs⟩ hl2) (zst_tl hs)
theorem sv_iinc {p : Program} {l : Launch} {e : Env} {R : Room} {s : State} {m : MethodId} {args : Array Value} {below : List Frame} {meth : Method} {c : Code} {cells slots : Nat} {Qw : State → Prop} {dC : Nat → ClassId} {dI : Nat → Nat → Nat} {q : Nat → Nat} {cI cB cL : ClassId} {L : Nat} {xs : Nat → Int32} (hx : p.tables.exec = Jvm.exec) {cc : ByteArray} (hb : c.code = cc) {pc n : Nat} {lv st : List zV} {μ : zM} {K : List zV → List zV → zM → Prop} {k : Nat} {z : Int} (hd : decode cc pc = .ok (.iinc k z, 3)) (hK : ∀ lv st μ, K lv st μ → zGo p l e R s m args below meth c cells slots Qw dC dI q cI cB cL L xs n (pc + 3) lv st μ) (h : zLd 0 k lv (fun v => k < lv.length ∧ (lv.getD (k - 1) (9, 0)).1 ≠ 1 ∧ K (lv.set k (0, zw (v.2 + z))) st μ)) : zGo p l e R s m args below meth c cells slots Qw dC dI q cI cB cL L xs n pc lv st μ := by
  intro H locs ls hw hl hs
  obtain ⟨h1, h3, h4, h5⟩ := h
  have hg := zgetD (lv := lv) (n := k) (by rw [h1]; decide)
  have h2 := zlv_ld (i := k) hl (by rw [h1]; decide)
  generalize lv.getD k (9, 0) = v at h1 h2 h5 hg
  obtain ⟨t, x⟩ := v
  simp only at h1
  subst h1
  obtain ⟨j, hj⟩ := List.getElem?_of_mem (zasc_mem (q := q) (w := .int (Int32.ofInt x)).mpr ⟨_, hg, by simp, rfl⟩)
  refine lv_iinc (v := Int32.ofInt (zw (x + z))) hx hb hd hl.2.1 hj (zo_add x z) (by rw [← hl.1]; exact h3) rfl (fun ls hl2 => ?_)
  exact hK _ _ _ h5 H locs ls hw (zlv_set (v := (0, zw (x + z))) hl.1 hl.2.2 h4 ⟨fun _ => zw_in _, fun z => (by cases z)⟩ hl2) hs
theorem sv_iconst {p : Program} {l : Launch} {e : Env} {R : Room} {s : State} {m : MethodId} {args : Array Value} {below : List Frame} {meth : Method} {c : Code} {cells slots : Nat} {Qw : State → Prop} {dC : Nat → ClassId} {dI : Nat → Nat → Nat} {q : Nat → Nat} {cI cB cL : ClassId} {L : Nat} {xs : Nat → Int32} (hx : p.tables.exec = Jvm.exec) {cc : ByteArray} (hb : c.code = cc) {pc n : Nat} {lv st : List zV} {μ : zM} {K : List zV → List zV → zM → Prop} {z : Int} (hz : zi32 z) (hd : decode cc pc = .ok (.iconst z, 1)) (hK : ∀ lv st μ, K lv st μ → zGo p l e R s m args below meth c cells slots Qw dC dI q cI cB cL L xs n (pc + 1) lv st μ) (h : K lv ((0, z) :: st) μ) : zGo p l e R s m args below meth c cells slots Qw dC dI q cI cB cL L xs n pc lv st μ := by
  intro H locs ls hw hl hs
  exact lv_iconst (v := Int32.ofInt z) hx hb hd rfl (hK _ _ _ h H locs ls hw hl (zst_i hz hs))
theorem sv_bipush {p : Program} {l : Launch} {e : Env} {R : Room} {s : State} {m : MethodId} {args : Array Value} {below : List Frame} {meth : Method} {c : Code} {cells slots : Nat} {Qw : State → Prop} {dC : Nat → ClassId} {dI : Nat → Nat → Nat} {q : Nat → Nat} {cI cB cL : ClassId} {L : Nat} {xs : Nat → Int32} (hx : p.tables.exec = Jvm.exec) {cc : ByteArray} (hb : c.code = cc) {pc n : Nat} {lv st : List zV} {μ : zM} {K : List zV → List zV → zM → Prop} {z : Int} (hz : zi32 z) (hz2 : (Int8.ofInt z).toInt32 = Int32.ofInt z) (hd : decode cc pc = .ok (.bipush z, 2)) (hK : ∀ lv st μ, K lv st μ → zGo p l e R s m args below meth c cells slots Qw dC dI q cI cB cL L xs n (pc + 2) lv st μ) (h : K lv ((0, z) :: st) μ) : zGo p l e R s m args below meth c cells slots Qw dC dI q cI cB cL L xs n pc lv st μ := by
  intro H locs ls hw hl hs
  exact lv_bipush (v := Int32.ofInt z) hx hb hd hz2 (hK _ _ _ h H locs ls hw hl (zst_i hz hs))
theorem sv_sipush {p : Program} {l : Launch} {e : Env} {R : Room} {s : State} {m : MethodId} {args : Array Value} {below : List Frame} {meth : Method} {c : Code} {cells slots : Nat} {Qw : State → Prop} {dC : Nat → ClassId} {dI : Nat → Nat → Nat} {q : Nat → Nat} {cI cB cL : ClassId} {L : Nat} {xs : Nat → Int32} (hx : p.tables.exec = Jvm.exec) {cc : ByteArray} (hb : c.code = cc) {pc n : Nat} {lv st : List zV} {μ : zM} {K : List zV → List zV → zM → Prop} {z : Int} (hz : zi32 z) (hz2 : (Int16.ofInt z).toInt32 = Int32.ofInt z) (hd : decode cc pc = .ok (.sipush z, 3)) (hK : ∀ lv st μ, K lv st μ → zGo p l e R s m args below meth c cells slots Qw dC dI q cI cB cL L xs n (pc + 3) lv st μ) (h : K lv ((0, z) :: st) μ) : zGo p l e R s m args below meth c cells slots Qw dC dI q cI cB cL L xs n pc lv st μ := by
  intro H locs ls hw hl hs
  exact lv_sipush (v := Int32.ofInt z) hx hb hd hz2 (hK _ _ _ h H locs ls hw hl (zst_i hz hs))
theorem sv_lconst {p : Program} {l : Launch} {e : Env} {R : Room} {s : State} {m : MethodId} {args : Array Value} {below : List Frame} {meth : Method} {c : Code} {cells slots : Nat} {Qw : State → Prop} {dC : Nat → ClassId} {dI : Nat → Nat → Nat} {q : Nat → Nat} {cI cB cL : ClassId} {L : Nat} {xs : Nat → Int32} (hx : p.tables.exec = Jvm.exec) {cc : ByteArray} (hb : c.code = cc) {pc n : Nat} {lv st : List zV} {μ : zM} {K : List zV → List zV → zM → Prop} {z : Fin 2} (hd : decode cc pc = .ok (.lconst z, 1)) (hK : ∀ lv st μ, K lv st μ → zGo p l e R s m args below meth c cells slots Qw dC dI q cI cB cL L xs n (pc + 1) lv st μ) (h : K lv ((1, (z.val : Int)) :: st) μ) : zGo p l e R s m args below meth c cells slots Qw dC dI q cI cB cL L xs n pc lv st μ := by
  intro H locs ls hw hl hs
  have hz : z = 0 ∨ z = 1 := by
    obtain ⟨z, hz⟩ := z
    rcases (show z = 0 ∨ z = 1 by omega) with rfl | rfl
    · exact Or.inl rfl
    · exact Or.inr rfl
  rcases hz with rfl | rfl
  · exact lv_lconst (v := Int64.ofInt 0) hx hb hd (by decide) (hK _ _ _ h H locs ls hw hl (zst_l (by unfold zi64; decide) hs))
  · exact lv_lconst (v := Int64.ofInt 1) hx hb hd (by decide) (hK _ _ _ h H locs ls hw hl (zst_l (by unfold zi64; decide) hs))
theorem sv_ldc {p : Program} {l : Launch} {e : Env} {R : Room} {s : State} {m : MethodId} {args : Array Value} {below : List Frame} {meth : Method} {c : Code} {cells slots : Nat} {Qw : State → Prop} {dC : Nat → ClassId} {dI : Nat → Nat → Nat} {q : Nat → Nat} {cI cB cL : ClassId} {L : Nat} {xs : Nat → Int32} (hx : p.tables.exec = Jvm.exec) {cc : ByteArray} (hb : c.code = cc) {pc n : Nat} {lv st : List zV} {μ : zM} {K : List zV → List zV → zM → Prop} {z : Int} {i : Nat} {own : String} (hown : s.vm.findClass own = some m.cls) (hz : zi32 z) (hcon : (Jvm.Cond.constant own i (Int32.ofInt z)).before args s = true) (hd : decode cc pc = .ok (.ldc i, 2)) (hK : ∀ lv st μ, K lv st μ → zGo p l e R s m args below meth c cells slots Qw dC dI q cI cB cL L xs n (pc + 2) lv st μ) (h : K lv ((0, z) :: st) μ) : zGo p l e R s m args below meth c cells slots Qw dC dI q cI cB cL L xs n pc lv st μ := by
  intro H locs ls hw hl hs
  exact lv_ldc (v := Int32.ofInt z) hx hb hown hcon hd (hK _ _ _ h H locs ls hw hl (zst_i hz hs))
theorem sv_ldc2_w {p : Program} {l : Launch} {e : Env} {R : Room} {s : State} {m : MethodId} {args : Array Value} {below : List Frame} {meth : Method} {c : Code} {cells slots : Nat} {Qw : State → Prop} {dC : Nat → ClassId} {dI : Nat → Nat → Nat} {q : Nat → Nat} {cI cB cL : ClassId} {L : Nat} {xs : Nat → Int32} (hx : p.tables.exec = Jvm.exec) {cc : ByteArray} (hb : c.code = cc) {pc n : Nat} {lv st : List zV} {μ : zM} {K : List zV → List zV → zM → Prop} {z : Int} {i : Nat} {own : String} (hown : s.vm.findClass own = some m.cls) (hz : zi64 z) (hcon : (Jvm.Cond.constantLong own i (Int64.ofInt z)).before args s = true) (hd : decode cc pc = .ok (.ldc2_w i, 3)) (hK : ∀ lv st μ, K lv st μ → zGo p l e R s m args below meth c cells slots Qw dC dI q cI cB cL L xs n (pc + 3) lv st μ) (h : K lv ((1, z) :: st) μ) : zGo p l e R s m args below meth c cells slots Qw dC dI q cI cB cL L xs n pc lv st μ := by
  intro H locs ls hw hl hs
  exact lv_ldc2 (v := Int64.ofInt z) hx hb hown hcon hd (hK _ _ _ h H locs ls hw hl (zst_l hz hs))
theorem sv_iadd {p : Program} {l : Launch} {e : Env} {R : Room} {s : State} {m : MethodId} {args : Array Value} {below : List Frame} {meth : Method} {c : Code} {cells slots : Nat} {Qw : State → Prop} {dC : Nat → ClassId} {dI : Nat → Nat → Nat} {q : Nat → Nat} {cI cB cL : ClassId} {L : Nat} {xs : Nat → Int32} (hx : p.tables.exec = Jvm.exec) {cc : ByteArray} (hb : c.code = cc) {pc n : Nat} {lv st : List zV} {μ : zM} {K : List zV → List zV → zM → Prop} (hd : decode cc pc = .ok (.iadd, 1)) (hK : ∀ lv st μ, K lv st μ → zGo p l e R s m args below meth c cells slots Qw dC dI q cI cB cL L xs n (pc + 1) lv st μ) (h : zD 0 0 st (fun a b r => K lv ((0, zw (a + b)) :: r) μ)) : zGo p l e R s m args below meth c cells slots Qw dC dI q cI cB cL L xs n pc lv st μ := by
  intro H locs ls hw hl hs
  rcases st with _ | ⟨⟨t1, b⟩, _ | ⟨⟨t2, a⟩, r⟩⟩
  · exact h.elim
  · exact h.elim
  obtain ⟨h1, h2, h3⟩ := h
  subst h1; subst h2
  have ib := zst_hi hs
  have ia := zst_hi (zst_tl hs)
  have hk := hK _ _ _ h3 H locs ls hw hl (zst_i (zw_in _) (zst_tl (zst_tl hs)))
  refine lv_iadd hx hb hd ?_
  rw [zo_add]
  exact hk
theorem sv_isub {p : Program} {l : Launch} {e : Env} {R : Room} {s : State} {m : MethodId} {args : Array Value} {below : List Frame} {meth : Method} {c : Code} {cells slots : Nat} {Qw : State → Prop} {dC : Nat → ClassId} {dI : Nat → Nat → Nat} {q : Nat → Nat} {cI cB cL : ClassId} {L : Nat} {xs : Nat → Int32} (hx : p.tables.exec = Jvm.exec) {cc : ByteArray} (hb : c.code = cc) {pc n : Nat} {lv st : List zV} {μ : zM} {K : List zV → List zV → zM → Prop} (hd : decode cc pc = .ok (.isub, 1)) (hK : ∀ lv st μ, K lv st μ → zGo p l e R s m args below meth c cells slots Qw dC dI q cI cB cL L xs n (pc + 1) lv st μ) (h : zD 0 0 st (fun a b r => K lv ((0, zw (a - b)) :: r) μ)) : zGo p l e R s m args below meth c cells slots Qw dC dI q cI cB cL L xs n pc lv st μ := by
  intro H locs ls hw hl hs
  rcases st with _ | ⟨⟨t1, b⟩, _ | ⟨⟨t2, a⟩, r⟩⟩
  · exact h.elim
  · exact h.elim
  obtain ⟨h1, h2, h3⟩ := h
  subst h1; subst h2
  have ib := zst_hi hs
  have ia := zst_hi (zst_tl hs)
  have hk := hK _ _ _ h3 H locs ls hw hl (zst_i (zw_in _) (zst_tl (zst_tl hs)))
  refine lv_isub hx hb hd ?_
  rw [zo_sub]
  exact hk
theorem sv_imul {p : Program} {l : Launch} {e : Env} {R : Room} {s : State} {m : MethodId} {args : Array Value} {below : List Frame} {meth : Method} {c : Code} {cells slots : Nat} {Qw : State → Prop} {dC : Nat → ClassId} {dI : Nat → Nat → Nat} {q : Nat → Nat} {cI cB cL : ClassId} {L : Nat} {xs : Nat → Int32} (hx : p.tables.exec = Jvm.exec) {cc : ByteArray} (hb : c.code = cc) {pc n : Nat} {lv st : List zV} {μ : zM} {K : List zV → List zV → zM → Prop} (hd : decode cc pc = .ok (.imul, 1)) (hK : ∀ lv st μ, K lv st μ → zGo p l e R s m args below meth c cells slots Qw dC dI q cI cB cL L xs n (pc + 1) lv st μ) (h : zD 0 0 st (fun a b r => K lv ((0, zw (a * b)) :: r) μ)) : zGo p l e R s m args below meth c cells slots Qw dC dI q cI cB cL L xs n pc lv st μ := by
  intro H locs ls hw hl hs
  rcases st with _ | ⟨⟨t1, b⟩, _ | ⟨⟨t2, a⟩, r⟩⟩
  · exact h.elim
  · exact h.elim
  obtain ⟨h1, h2, h3⟩ := h
  subst h1; subst h2
  have ib := zst_hi hs
  have ia := zst_hi (zst_tl hs)
  have hk := hK _ _ _ h3 H locs ls hw hl (zst_i (zw_in _) (zst_tl (zst_tl hs)))
  refine lv_imul hx hb hd ?_
  rw [zo_mul]
  exact hk
theorem sv_idiv {p : Program} {l : Launch} {e : Env} {R : Room} {s : State} {m : MethodId} {args : Array Value} {below : List Frame} {meth : Method} {c : Code} {cells slots : Nat} {Qw : State → Prop} {dC : Nat → ClassId} {dI : Nat → Nat → Nat} {q : Nat → Nat} {cI cB cL : ClassId} {L : Nat} {xs : Nat → Int32} (hx : p.tables.exec = Jvm.exec) {cc : ByteArray} (hb : c.code = cc) {pc n : Nat} {lv st : List zV} {μ : zM} {K : List zV → List zV → zM → Prop} (hd : decode cc pc = .ok (.idiv, 1)) (hK : ∀ lv st μ, K lv st μ → zGo p l e R s m args below meth c cells slots Qw dC dI q cI cB cL L xs n (pc + 1) lv st μ) (h : zD 0 0 st (fun a b r => ¬ b = 0 ∧ K lv ((0, zw (a.tdiv b)) :: r) μ)) : zGo p l e R s m args below meth c cells slots Qw dC dI q cI cB cL L xs n pc lv st μ := by
  intro H locs ls hw hl hs
  rcases st with _ | ⟨⟨t1, b⟩, _ | ⟨⟨t2, a⟩, r⟩⟩
  · exact h.elim
  · exact h.elim
  obtain ⟨h1, h2, h3⟩ := h
  subst h1; subst h2
  have ib := zst_hi hs
  have ia := zst_hi (zst_tl hs)
  have hk := hK _ _ _ h3.2 H locs ls hw hl (zst_i (zw_in _) (zst_tl (zst_tl hs)))
  refine lv_idiv hx hb hd (fun z => h3.1 ((zo_eq ib zi0).mp (by rw [zo_0]; exact z))) ?_
  rw [zo_div ia ib]
  exact hk
theorem sv_irem {p : Program} {l : Launch} {e : Env} {R : Room} {s : State} {m : MethodId} {args : Array Value} {below : List Frame} {meth : Method} {c : Code} {cells slots : Nat} {Qw : State → Prop} {dC : Nat → ClassId} {dI : Nat → Nat → Nat} {q : Nat → Nat} {cI cB cL : ClassId} {L : Nat} {xs : Nat → Int32} (hx : p.tables.exec = Jvm.exec) {cc : ByteArray} (hb : c.code = cc) {pc n : Nat} {lv st : List zV} {μ : zM} {K : List zV → List zV → zM → Prop} (hd : decode cc pc = .ok (.irem, 1)) (hK : ∀ lv st μ, K lv st μ → zGo p l e R s m args below meth c cells slots Qw dC dI q cI cB cL L xs n (pc + 1) lv st μ) (h : zD 0 0 st (fun a b r => ¬ b = 0 ∧ K lv ((0, a.tmod b) :: r) μ)) : zGo p l e R s m args below meth c cells slots Qw dC dI q cI cB cL L xs n pc lv st μ := by
  intro H locs ls hw hl hs
  rcases st with _ | ⟨⟨t1, b⟩, _ | ⟨⟨t2, a⟩, r⟩⟩
  · exact h.elim
  · exact h.elim
  obtain ⟨h1, h2, h3⟩ := h
  subst h1; subst h2
  have ib := zst_hi hs
  have ia := zst_hi (zst_tl hs)
  have hk := hK _ _ _ h3.2 H locs ls hw hl (zst_i (zo_tmod_in ia h3.1) (zst_tl (zst_tl hs)))
  refine lv_irem hx hb hd (fun z => h3.1 ((zo_eq ib zi0).mp (by rw [zo_0]; exact z))) ?_
  rw [zo_rem ia ib h3.1]
  exact hk
theorem sv_iand {p : Program} {l : Launch} {e : Env} {R : Room} {s : State} {m : MethodId} {args : Array Value} {below : List Frame} {meth : Method} {c : Code} {cells slots : Nat} {Qw : State → Prop} {dC : Nat → ClassId} {dI : Nat → Nat → Nat} {q : Nat → Nat} {cI cB cL : ClassId} {L : Nat} {xs : Nat → Int32} (hx : p.tables.exec = Jvm.exec) {cc : ByteArray} (hb : c.code = cc) {pc n : Nat} {lv st : List zV} {μ : zM} {K : List zV → List zV → zM → Prop} (hd : decode cc pc = .ok (.iand, 1)) (hK : ∀ lv st μ, K lv st μ → zGo p l e R s m args below meth c cells slots Qw dC dI q cI cB cL L xs n (pc + 1) lv st μ) (h : zD 0 0 st (fun a b r => K lv ((0, zand a b) :: r) μ)) : zGo p l e R s m args below meth c cells slots Qw dC dI q cI cB cL L xs n pc lv st μ := by
  intro H locs ls hw hl hs
  rcases st with _ | ⟨⟨t1, b⟩, _ | ⟨⟨t2, a⟩, r⟩⟩
  · exact h.elim
  · exact h.elim
  obtain ⟨h1, h2, h3⟩ := h
  subst h1; subst h2
  have ib := zst_hi hs
  have ia := zst_hi (zst_tl hs)
  have hk := hK _ _ _ h3 H locs ls hw hl (zst_i (by unfold zand; exact zin32 _) (zst_tl (zst_tl hs)))
  refine lv_iand hx hb hd ?_
  unfold zand at hk
  simp only [List.map_cons, ztr, Int32.ofInt_toInt] at hk ⊢
  exact hk
theorem sv_ior {p : Program} {l : Launch} {e : Env} {R : Room} {s : State} {m : MethodId} {args : Array Value} {below : List Frame} {meth : Method} {c : Code} {cells slots : Nat} {Qw : State → Prop} {dC : Nat → ClassId} {dI : Nat → Nat → Nat} {q : Nat → Nat} {cI cB cL : ClassId} {L : Nat} {xs : Nat → Int32} (hx : p.tables.exec = Jvm.exec) {cc : ByteArray} (hb : c.code = cc) {pc n : Nat} {lv st : List zV} {μ : zM} {K : List zV → List zV → zM → Prop} (hd : decode cc pc = .ok (.ior, 1)) (hK : ∀ lv st μ, K lv st μ → zGo p l e R s m args below meth c cells slots Qw dC dI q cI cB cL L xs n (pc + 1) lv st μ) (h : zD 0 0 st (fun a b r => K lv ((0, zor a b) :: r) μ)) : zGo p l e R s m args below meth c cells slots Qw dC dI q cI cB cL L xs n pc lv st μ := by
  intro H locs ls hw hl hs
  rcases st with _ | ⟨⟨t1, b⟩, _ | ⟨⟨t2, a⟩, r⟩⟩
  · exact h.elim
  · exact h.elim
  obtain ⟨h1, h2, h3⟩ := h
  subst h1; subst h2
  have ib := zst_hi hs
  have ia := zst_hi (zst_tl hs)
  have hk := hK _ _ _ h3 H locs ls hw hl (zst_i (by unfold zor; exact zin32 _) (zst_tl (zst_tl hs)))
  refine lv_ior hx hb hd ?_
  unfold zor at hk
  simp only [List.map_cons, ztr, Int32.ofInt_toInt] at hk ⊢
  exact hk
theorem sv_ixor {p : Program} {l : Launch} {e : Env} {R : Room} {s : State} {m : MethodId} {args : Array Value} {below : List Frame} {meth : Method} {c : Code} {cells slots : Nat} {Qw : State → Prop} {dC : Nat → ClassId} {dI : Nat → Nat → Nat} {q : Nat → Nat} {cI cB cL : ClassId} {L : Nat} {xs : Nat → Int32} (hx : p.tables.exec = Jvm.exec) {cc : ByteArray} (hb : c.code = cc) {pc n : Nat} {lv st : List zV} {μ : zM} {K : List zV → List zV → zM → Prop} (hd : decode cc pc = .ok (.ixor, 1)) (hK : ∀ lv st μ, K lv st μ → zGo p l e R s m args below meth c cells slots Qw dC dI q cI cB cL L xs n (pc + 1) lv st μ) (h : zD 0 0 st (fun a b r => K lv ((0, zxor a b) :: r) μ)) : zGo p l e R s m args below meth c cells slots Qw dC dI q cI cB cL L xs n pc lv st μ := by
  intro H locs ls hw hl hs
  rcases st with _ | ⟨⟨t1, b⟩, _ | ⟨⟨t2, a⟩, r⟩⟩
  · exact h.elim
  · exact h.elim
  obtain ⟨h1, h2, h3⟩ := h
  subst h1; subst h2
  have ib := zst_hi hs
  have ia := zst_hi (zst_tl hs)
  have hk := hK _ _ _ h3 H locs ls hw hl (zst_i (by unfold zxor; exact zin32 _) (zst_tl (zst_tl hs)))
  refine lv_ixor hx hb hd ?_
  unfold zxor at hk
  simp only [List.map_cons, ztr, Int32.ofInt_toInt] at hk ⊢
  exact hk
theorem sv_ishl {p : Program} {l : Launch} {e : Env} {R : Room} {s : State} {m : MethodId} {args : Array Value} {below : List Frame} {meth : Method} {c : Code} {cells slots : Nat} {Qw : State → Prop} {dC : Nat → ClassId} {dI : Nat → Nat → Nat} {q : Nat → Nat} {cI cB cL : ClassId} {L : Nat} {xs : Nat → Int32} (hx : p.tables.exec = Jvm.exec) {cc : ByteArray} (hb : c.code = cc) {pc n : Nat} {lv st : List zV} {μ : zM} {K : List zV → List zV → zM → Prop} (hd : decode cc pc = .ok (.ishl, 1)) (hK : ∀ lv st μ, K lv st μ → zGo p l e R s m args below meth c cells slots Qw dC dI q cI cB cL L xs n (pc + 1) lv st μ) (h : zD 0 0 st (fun a b r => K lv ((0, zshl a b) :: r) μ)) : zGo p l e R s m args below meth c cells slots Qw dC dI q cI cB cL L xs n pc lv st μ := by
  intro H locs ls hw hl hs
  rcases st with _ | ⟨⟨t1, b⟩, _ | ⟨⟨t2, a⟩, r⟩⟩
  · exact h.elim
  · exact h.elim
  obtain ⟨h1, h2, h3⟩ := h
  subst h1; subst h2
  have ib := zst_hi hs
  have ia := zst_hi (zst_tl hs)
  have hk := hK _ _ _ h3 H locs ls hw hl (zst_i (by unfold zshl; exact zin32 _) (zst_tl (zst_tl hs)))
  refine lv_ishl hx hb hd ?_
  unfold zshl at hk
  simp only [List.map_cons, ztr, Int32.ofInt_toInt] at hk ⊢
  exact hk
theorem sv_ishr {p : Program} {l : Launch} {e : Env} {R : Room} {s : State} {m : MethodId} {args : Array Value} {below : List Frame} {meth : Method} {c : Code} {cells slots : Nat} {Qw : State → Prop} {dC : Nat → ClassId} {dI : Nat → Nat → Nat} {q : Nat → Nat} {cI cB cL : ClassId} {L : Nat} {xs : Nat → Int32} (hx : p.tables.exec = Jvm.exec) {cc : ByteArray} (hb : c.code = cc) {pc n : Nat} {lv st : List zV} {μ : zM} {K : List zV → List zV → zM → Prop} (hd : decode cc pc = .ok (.ishr, 1)) (hK : ∀ lv st μ, K lv st μ → zGo p l e R s m args below meth c cells slots Qw dC dI q cI cB cL L xs n (pc + 1) lv st μ) (h : zD 0 0 st (fun a b r => K lv ((0, zshr a b) :: r) μ)) : zGo p l e R s m args below meth c cells slots Qw dC dI q cI cB cL L xs n pc lv st μ := by
  intro H locs ls hw hl hs
  rcases st with _ | ⟨⟨t1, b⟩, _ | ⟨⟨t2, a⟩, r⟩⟩
  · exact h.elim
  · exact h.elim
  obtain ⟨h1, h2, h3⟩ := h
  subst h1; subst h2
  have ib := zst_hi hs
  have ia := zst_hi (zst_tl hs)
  have hk := hK _ _ _ h3 H locs ls hw hl (zst_i (by unfold zshr; exact zin32 _) (zst_tl (zst_tl hs)))
  refine lv_ishr hx hb hd ?_
  unfold zshr at hk
  simp only [List.map_cons, ztr, Int32.ofInt_toInt] at hk ⊢
  exact hk
theorem sv_iushr {p : Program} {l : Launch} {e : Env} {R : Room} {s : State} {m : MethodId} {args : Array Value} {below : List Frame} {meth : Method} {c : Code} {cells slots : Nat} {Qw : State → Prop} {dC : Nat → ClassId} {dI : Nat → Nat → Nat} {q : Nat → Nat} {cI cB cL : ClassId} {L : Nat} {xs : Nat → Int32} (hx : p.tables.exec = Jvm.exec) {cc : ByteArray} (hb : c.code = cc) {pc n : Nat} {lv st : List zV} {μ : zM} {K : List zV → List zV → zM → Prop} (hd : decode cc pc = .ok (.iushr, 1)) (hK : ∀ lv st μ, K lv st μ → zGo p l e R s m args below meth c cells slots Qw dC dI q cI cB cL L xs n (pc + 1) lv st μ) (h : zD 0 0 st (fun a b r => K lv ((0, zushr a b) :: r) μ)) : zGo p l e R s m args below meth c cells slots Qw dC dI q cI cB cL L xs n pc lv st μ := by
  intro H locs ls hw hl hs
  rcases st with _ | ⟨⟨t1, b⟩, _ | ⟨⟨t2, a⟩, r⟩⟩
  · exact h.elim
  · exact h.elim
  obtain ⟨h1, h2, h3⟩ := h
  subst h1; subst h2
  have ib := zst_hi hs
  have ia := zst_hi (zst_tl hs)
  have hk := hK _ _ _ h3 H locs ls hw hl (zst_i (by unfold zushr; exact zin32 _) (zst_tl (zst_tl hs)))
  refine lv_iushr hx hb hd rfl ?_
  unfold zushr at hk
  simp only [List.map_cons, ztr, Int32.ofInt_toInt] at hk ⊢
  exact hk
theorem sv_ladd {p : Program} {l : Launch} {e : Env} {R : Room} {s : State} {m : MethodId} {args : Array Value} {below : List Frame} {meth : Method} {c : Code} {cells slots : Nat} {Qw : State → Prop} {dC : Nat → ClassId} {dI : Nat → Nat → Nat} {q : Nat → Nat} {cI cB cL : ClassId} {L : Nat} {xs : Nat → Int32} (hx : p.tables.exec = Jvm.exec) {cc : ByteArray} (hb : c.code = cc) {pc n : Nat} {lv st : List zV} {μ : zM} {K : List zV → List zV → zM → Prop} (hd : decode cc pc = .ok (.ladd, 1)) (hK : ∀ lv st μ, K lv st μ → zGo p l e R s m args below meth c cells slots Qw dC dI q cI cB cL L xs n (pc + 1) lv st μ) (h : zD 1 1 st (fun a b r => K lv ((1, zx (a + b)) :: r) μ)) : zGo p l e R s m args below meth c cells slots Qw dC dI q cI cB cL L xs n pc lv st μ := by
  intro H locs ls hw hl hs
  rcases st with _ | ⟨⟨t1, b⟩, _ | ⟨⟨t2, a⟩, r⟩⟩
  · exact h.elim
  · exact h.elim
  obtain ⟨h1, h2, h3⟩ := h
  subst h1; subst h2
  have ib := zst_hl hs
  have ia := zst_hl (zst_tl hs)
  have hk := hK _ _ _ h3 H locs ls hw hl (zst_l (zx_in _) (zst_tl (zst_tl hs)))
  refine lv_ladd hx hb hd ?_
  rw [zq_add]
  exact hk
theorem sv_lmul {p : Program} {l : Launch} {e : Env} {R : Room} {s : State} {m : MethodId} {args : Array Value} {below : List Frame} {meth : Method} {c : Code} {cells slots : Nat} {Qw : State → Prop} {dC : Nat → ClassId} {dI : Nat → Nat → Nat} {q : Nat → Nat} {cI cB cL : ClassId} {L : Nat} {xs : Nat → Int32} (hx : p.tables.exec = Jvm.exec) {cc : ByteArray} (hb : c.code = cc) {pc n : Nat} {lv st : List zV} {μ : zM} {K : List zV → List zV → zM → Prop} (hd : decode cc pc = .ok (.lmul, 1)) (hK : ∀ lv st μ, K lv st μ → zGo p l e R s m args below meth c cells slots Qw dC dI q cI cB cL L xs n (pc + 1) lv st μ) (h : zD 1 1 st (fun a b r => K lv ((1, zx (a * b)) :: r) μ)) : zGo p l e R s m args below meth c cells slots Qw dC dI q cI cB cL L xs n pc lv st μ := by
  intro H locs ls hw hl hs
  rcases st with _ | ⟨⟨t1, b⟩, _ | ⟨⟨t2, a⟩, r⟩⟩
  · exact h.elim
  · exact h.elim
  obtain ⟨h1, h2, h3⟩ := h
  subst h1; subst h2
  have ib := zst_hl hs
  have ia := zst_hl (zst_tl hs)
  have hk := hK _ _ _ h3 H locs ls hw hl (zst_l (zx_in _) (zst_tl (zst_tl hs)))
  refine lv_lmul hx hb hd ?_
  rw [zq_mul]
  exact hk
theorem sv_land {p : Program} {l : Launch} {e : Env} {R : Room} {s : State} {m : MethodId} {args : Array Value} {below : List Frame} {meth : Method} {c : Code} {cells slots : Nat} {Qw : State → Prop} {dC : Nat → ClassId} {dI : Nat → Nat → Nat} {q : Nat → Nat} {cI cB cL : ClassId} {L : Nat} {xs : Nat → Int32} (hx : p.tables.exec = Jvm.exec) {cc : ByteArray} (hb : c.code = cc) {pc n : Nat} {lv st : List zV} {μ : zM} {K : List zV → List zV → zM → Prop} (hd : decode cc pc = .ok (.land, 1)) (hK : ∀ lv st μ, K lv st μ → zGo p l e R s m args below meth c cells slots Qw dC dI q cI cB cL L xs n (pc + 1) lv st μ) (h : zD 1 1 st (fun a b r => K lv ((1, zland a b) :: r) μ)) : zGo p l e R s m args below meth c cells slots Qw dC dI q cI cB cL L xs n pc lv st μ := by
  intro H locs ls hw hl hs
  rcases st with _ | ⟨⟨t1, b⟩, _ | ⟨⟨t2, a⟩, r⟩⟩
  · exact h.elim
  · exact h.elim
  obtain ⟨h1, h2, h3⟩ := h
  subst h1; subst h2
  have ib := zst_hl hs
  have ia := zst_hl (zst_tl hs)
  have hk := hK _ _ _ h3 H locs ls hw hl (zst_l (by unfold zland; exact zin64 _) (zst_tl (zst_tl hs)))
  refine lv_land hx hb hd ?_
  unfold zland at hk
  simp only [List.map_cons, ztr, Int64.ofInt_toInt] at hk ⊢
  exact hk
theorem sv_lor {p : Program} {l : Launch} {e : Env} {R : Room} {s : State} {m : MethodId} {args : Array Value} {below : List Frame} {meth : Method} {c : Code} {cells slots : Nat} {Qw : State → Prop} {dC : Nat → ClassId} {dI : Nat → Nat → Nat} {q : Nat → Nat} {cI cB cL : ClassId} {L : Nat} {xs : Nat → Int32} (hx : p.tables.exec = Jvm.exec) {cc : ByteArray} (hb : c.code = cc) {pc n : Nat} {lv st : List zV} {μ : zM} {K : List zV → List zV → zM → Prop} (hd : decode cc pc = .ok (.lor, 1)) (hK : ∀ lv st μ, K lv st μ → zGo p l e R s m args below meth c cells slots Qw dC dI q cI cB cL L xs n (pc + 1) lv st μ) (h : zD 1 1 st (fun a b r => K lv ((1, zlor a b) :: r) μ)) : zGo p l e R s m args below meth c cells slots Qw dC dI q cI cB cL L xs n pc lv st μ := by
  intro H locs ls hw hl hs
  rcases st with _ | ⟨⟨t1, b⟩, _ | ⟨⟨t2, a⟩, r⟩⟩
  · exact h.elim
  · exact h.elim
  obtain ⟨h1, h2, h3⟩ := h
  subst h1; subst h2
  have ib := zst_hl hs
  have ia := zst_hl (zst_tl hs)
  have hk := hK _ _ _ h3 H locs ls hw hl (zst_l (by unfold zlor; exact zin64 _) (zst_tl (zst_tl hs)))
  refine lv_lor hx hb hd ?_
  unfold zlor at hk
  simp only [List.map_cons, ztr, Int64.ofInt_toInt] at hk ⊢
  exact hk
theorem sv_lshl {p : Program} {l : Launch} {e : Env} {R : Room} {s : State} {m : MethodId} {args : Array Value} {below : List Frame} {meth : Method} {c : Code} {cells slots : Nat} {Qw : State → Prop} {dC : Nat → ClassId} {dI : Nat → Nat → Nat} {q : Nat → Nat} {cI cB cL : ClassId} {L : Nat} {xs : Nat → Int32} (hx : p.tables.exec = Jvm.exec) {cc : ByteArray} (hb : c.code = cc) {pc n : Nat} {lv st : List zV} {μ : zM} {K : List zV → List zV → zM → Prop} (hd : decode cc pc = .ok (.lshl, 1)) (hK : ∀ lv st μ, K lv st μ → zGo p l e R s m args below meth c cells slots Qw dC dI q cI cB cL L xs n (pc + 1) lv st μ) (h : zD 0 1 st (fun a b r => K lv ((1, zlshl a b) :: r) μ)) : zGo p l e R s m args below meth c cells slots Qw dC dI q cI cB cL L xs n pc lv st μ := by
  intro H locs ls hw hl hs
  rcases st with _ | ⟨⟨t1, b⟩, _ | ⟨⟨t2, a⟩, r⟩⟩
  · exact h.elim
  · exact h.elim
  obtain ⟨h1, h2, h3⟩ := h
  subst h1; subst h2
  have ib := zst_hi hs
  have ia := zst_hl (zst_tl hs)
  have hk := hK _ _ _ h3 H locs ls hw hl (zst_l (by unfold zlshl; exact zin64 _) (zst_tl (zst_tl hs)))
  refine lv_lshl hx hb hd rfl ?_
  unfold zlshl at hk
  simp only [List.map_cons, ztr, Int64.ofInt_toInt] at hk ⊢
  exact hk
theorem sv_lcmp {p : Program} {l : Launch} {e : Env} {R : Room} {s : State} {m : MethodId} {args : Array Value} {below : List Frame} {meth : Method} {c : Code} {cells slots : Nat} {Qw : State → Prop} {dC : Nat → ClassId} {dI : Nat → Nat → Nat} {q : Nat → Nat} {cI cB cL : ClassId} {L : Nat} {xs : Nat → Int32} (hx : p.tables.exec = Jvm.exec) {cc : ByteArray} (hb : c.code = cc) {pc n : Nat} {lv st : List zV} {μ : zM} {K : List zV → List zV → zM → Prop} (hd : decode cc pc = .ok (.lcmp, 1)) (hK : ∀ lv st μ, K lv st μ → zGo p l e R s m args below meth c cells slots Qw dC dI q cI cB cL L xs n (pc + 1) lv st μ) (h : zD 1 1 st (fun a b r => K lv ((0, zcmp a b) :: r) μ)) : zGo p l e R s m args below meth c cells slots Qw dC dI q cI cB cL L xs n pc lv st μ := by
  intro H locs ls hw hl hs
  rcases st with _ | ⟨⟨t1, b⟩, _ | ⟨⟨t2, a⟩, r⟩⟩
  · exact h.elim
  · exact h.elim
  obtain ⟨h1, h2, h3⟩ := h
  subst h1; subst h2
  have ib := zst_hl hs
  have ia := zst_hl (zst_tl hs)
  have hk := hK _ _ _ h3 H locs ls hw hl (zst_i (zcmp_in _ _) (zst_tl (zst_tl hs)))
  refine W.lcmp hx hb hd ?_
  rw [zo_cmp ia ib]
  exact hk
theorem sv_ineg {p : Program} {l : Launch} {e : Env} {R : Room} {s : State} {m : MethodId} {args : Array Value} {below : List Frame} {meth : Method} {c : Code} {cells slots : Nat} {Qw : State → Prop} {dC : Nat → ClassId} {dI : Nat → Nat → Nat} {q : Nat → Nat} {cI cB cL : ClassId} {L : Nat} {xs : Nat → Int32} (hx : p.tables.exec = Jvm.exec) {cc : ByteArray} (hb : c.code = cc) {pc n : Nat} {lv st : List zV} {μ : zM} {K : List zV → List zV → zM → Prop} (hd : decode cc pc = .ok (.ineg, 1)) (hK : ∀ lv st μ, K lv st μ → zGo p l e R s m args below meth c cells slots Qw dC dI q cI cB cL L xs n (pc + 1) lv st μ) (h : zU 0 st (fun a r => K lv ((0, zw (-a)) :: r) μ)) : zGo p l e R s m args below meth c cells slots Qw dC dI q cI cB cL L xs n pc lv st μ := by
  intro H locs ls hw hl hs
  rcases st with _ | ⟨⟨t1, a⟩, r⟩
  · exact h.elim
  obtain ⟨h1, h3⟩ := h
  subst h1
  have ia := zst_hi hs
  have hk := hK _ _ _ h3 H locs ls hw hl (zst_i (zw_in _) (zst_tl hs))
  refine lv_ineg hx hb hd ?_
  have e : (0 : Int32) - Int32.ofInt a = Int32.ofInt (zw (-a)) := by rw [← zo_neg, Int32.zero_sub]
  first | (rw [zo_neg]; exact hk) | (rw [e]; exact hk)
theorem sv_i2l {p : Program} {l : Launch} {e : Env} {R : Room} {s : State} {m : MethodId} {args : Array Value} {below : List Frame} {meth : Method} {c : Code} {cells slots : Nat} {Qw : State → Prop} {dC : Nat → ClassId} {dI : Nat → Nat → Nat} {q : Nat → Nat} {cI cB cL : ClassId} {L : Nat} {xs : Nat → Int32} (hx : p.tables.exec = Jvm.exec) {cc : ByteArray} (hb : c.code = cc) {pc n : Nat} {lv st : List zV} {μ : zM} {K : List zV → List zV → zM → Prop} (hd : decode cc pc = .ok (.i2l, 1)) (hK : ∀ lv st μ, K lv st μ → zGo p l e R s m args below meth c cells slots Qw dC dI q cI cB cL L xs n (pc + 1) lv st μ) (h : zU 0 st (fun a r => K lv ((1, a) :: r) μ)) : zGo p l e R s m args below meth c cells slots Qw dC dI q cI cB cL L xs n pc lv st μ := by
  intro H locs ls hw hl hs
  rcases st with _ | ⟨⟨t1, a⟩, r⟩
  · exact h.elim
  obtain ⟨h1, h3⟩ := h
  subst h1
  have ia := zst_hi hs
  have hk := hK _ _ _ h3 H locs ls hw hl (zst_l (by unfold zi32 at ia; unfold zi64; omega) (zst_tl hs))
  exact lv_i2l hx hb hd (zo_i2l ia) hk
theorem sv_l2i {p : Program} {l : Launch} {e : Env} {R : Room} {s : State} {m : MethodId} {args : Array Value} {below : List Frame} {meth : Method} {c : Code} {cells slots : Nat} {Qw : State → Prop} {dC : Nat → ClassId} {dI : Nat → Nat → Nat} {q : Nat → Nat} {cI cB cL : ClassId} {L : Nat} {xs : Nat → Int32} (hx : p.tables.exec = Jvm.exec) {cc : ByteArray} (hb : c.code = cc) {pc n : Nat} {lv st : List zV} {μ : zM} {K : List zV → List zV → zM → Prop} (hd : decode cc pc = .ok (.l2i, 1)) (hK : ∀ lv st μ, K lv st μ → zGo p l e R s m args below meth c cells slots Qw dC dI q cI cB cL L xs n (pc + 1) lv st μ) (h : zU 1 st (fun a r => K lv ((0, zw a) :: r) μ)) : zGo p l e R s m args below meth c cells slots Qw dC dI q cI cB cL L xs n pc lv st μ := by
  intro H locs ls hw hl hs
  rcases st with _ | ⟨⟨t1, a⟩, r⟩
  · exact h.elim
  obtain ⟨h1, h3⟩ := h
  subst h1
  have ia := zst_hl hs
  have hk := hK _ _ _ h3 H locs ls hw hl (zst_i (zw_in _) (zst_tl hs))
  exact lv_l2i hx hb hd (zo_l2i a) hk
theorem sv_i2b {p : Program} {l : Launch} {e : Env} {R : Room} {s : State} {m : MethodId} {args : Array Value} {below : List Frame} {meth : Method} {c : Code} {cells slots : Nat} {Qw : State → Prop} {dC : Nat → ClassId} {dI : Nat → Nat → Nat} {q : Nat → Nat} {cI cB cL : ClassId} {L : Nat} {xs : Nat → Int32} (hx : p.tables.exec = Jvm.exec) {cc : ByteArray} (hb : c.code = cc) {pc n : Nat} {lv st : List zV} {μ : zM} {K : List zV → List zV → zM → Prop} (hd : decode cc pc = .ok (.i2b, 1)) (hK : ∀ lv st μ, K lv st μ → zGo p l e R s m args below meth c cells slots Qw dC dI q cI cB cL L xs n (pc + 1) lv st μ) (h : zU 0 st (fun a r => K lv ((0, zb a) :: r) μ)) : zGo p l e R s m args below meth c cells slots Qw dC dI q cI cB cL L xs n pc lv st μ := by
  intro H locs ls hw hl hs
  rcases st with _ | ⟨⟨t1, a⟩, r⟩
  · exact h.elim
  obtain ⟨h1, h3⟩ := h
  subst h1
  have ia := zst_hi hs
  have hk := hK _ _ _ h3 H locs ls hw hl (zst_i (zb_in _) (zst_tl hs))
  exact lv_i2b hx hb hd (zo_i2b ia) hk
theorem sv_dup {p : Program} {l : Launch} {e : Env} {R : Room} {s : State} {m : MethodId} {args : Array Value} {below : List Frame} {meth : Method} {c : Code} {cells slots : Nat} {Qw : State → Prop} {dC : Nat → ClassId} {dI : Nat → Nat → Nat} {q : Nat → Nat} {cI cB cL : ClassId} {L : Nat} {xs : Nat → Int32} (hx : p.tables.exec = Jvm.exec) {cc : ByteArray} (hb : c.code = cc) {pc n : Nat} {lv st : List zV} {μ : zM} {K : List zV → List zV → zM → Prop} {C : Nat → List zV → zM → (Int → zM → Prop) → Prop} {Q : Int → zM → Prop} {S : Nat → List zV → List zV → zM → Prop} {ex : Nat} {tb : List (Int × Nat)} (hd : decode cc pc = .ok (.dup, 1)) (hK : ∀ lv st μ, K lv st μ → zGo p l e R s m args below meth c cells slots Qw dC dI q cI cB cL L xs n (pc + 1) lv st μ) (h : zO C Q S .dup ex tb lv st μ K) : zGo p l e R s m args below meth c cells slots Qw dC dI q cI cB cL L xs n pc lv st μ := by
  intro H locs ls hw hl hs
  rcases st with _ | ⟨⟨t1, a⟩, r⟩
  · exact h.elim
  have h1 : t1 = 0 ∨ t1 = 2 := h.1
  have h3 : K lv ((t1, a) :: (t1, a) :: r) μ := h.2
  exact lv_dup hx hb hd (zcat1 h1) (hK _ _ _ h3 H locs ls hw hl (zst_cons (hs _ List.mem_cons_self).1 (hs _ List.mem_cons_self).2 hs))
theorem sv_dup2 {p : Program} {l : Launch} {e : Env} {R : Room} {s : State} {m : MethodId} {args : Array Value} {below : List Frame} {meth : Method} {c : Code} {cells slots : Nat} {Qw : State → Prop} {dC : Nat → ClassId} {dI : Nat → Nat → Nat} {q : Nat → Nat} {cI cB cL : ClassId} {L : Nat} {xs : Nat → Int32} (hx : p.tables.exec = Jvm.exec) {cc : ByteArray} (hb : c.code = cc) {pc n : Nat} {lv st : List zV} {μ : zM} {K : List zV → List zV → zM → Prop} {C : Nat → List zV → zM → (Int → zM → Prop) → Prop} {Q : Int → zM → Prop} {S : Nat → List zV → List zV → zM → Prop} {ex : Nat} {tb : List (Int × Nat)} (hd : decode cc pc = .ok (.dup2, 1)) (hK : ∀ lv st μ, K lv st μ → zGo p l e R s m args below meth c cells slots Qw dC dI q cI cB cL L xs n (pc + 1) lv st μ) (h : zO C Q S .dup2 ex tb lv st μ K) : zGo p l e R s m args below meth c cells slots Qw dC dI q cI cB cL L xs n pc lv st μ := by
  intro H locs ls hw hl hs
  rcases st with _ | ⟨⟨t1, a⟩, _ | ⟨⟨t2, b⟩, r⟩⟩
  · exact h.elim
  · exact h.elim
  have h1 : t1 = 0 ∨ t1 = 2 := h.1
  have h2 : t2 = 0 ∨ t2 = 2 := h.2.1
  have h3 : K lv ((t1, a) :: (t2, b) :: (t1, a) :: (t2, b) :: r) μ := h.2.2
  have q1 := hs _ List.mem_cons_self
  have q2 := hs _ (List.mem_cons_of_mem _ List.mem_cons_self)
  exact lv_dup2_11 hx hb hd (zcat1 h1) (zcat1 h2) (hK _ _ _ h3 H locs ls hw hl (zst_cons q1.1 q1.2 (zst_cons q2.1 q2.2 hs)))
theorem sv_goto {p : Program} {l : Launch} {e : Env} {R : Room} {s : State} {m : MethodId} {args : Array Value} {below : List Frame} {meth : Method} {c : Code} {cells slots : Nat} {Qw : State → Prop} {dC : Nat → ClassId} {dI : Nat → Nat → Nat} {q : Nat → Nat} {cI cB cL : ClassId} {L : Nat} {xs : Nat → Int32} (hx : p.tables.exec = Jvm.exec) {cc : ByteArray} (hb : c.code = cc) {pc n : Nat} {lv st : List zV} {μ : zM} {z : Int} {S : Nat → List zV → List zV → zM → Prop} {ex : Nat} (ht : (pc : Int) + z = (ex : Int)) (hS : ∀ L2 lv st μ, S L2 lv st μ → zGo p l e R s m args below meth c cells slots Qw dC dI q cI cB cL L xs n L2 lv st μ) (hd : decode cc pc = .ok (.goto z, 3))  (h : S ex lv st μ) : zGo p l e R s m args below meth c cells slots Qw dC dI q cI cB cL L xs n pc lv st μ := by
  intro H locs ls hw hl hs
  exact lv_goto hx hb hd ht (hS _ _ _ _ h H locs ls hw hl hs)
theorem sv_ifCond_eq {p : Program} {l : Launch} {e : Env} {R : Room} {s : State} {m : MethodId} {args : Array Value} {below : List Frame} {meth : Method} {c : Code} {cells slots : Nat} {Qw : State → Prop} {dC : Nat → ClassId} {dI : Nat → Nat → Nat} {q : Nat → Nat} {cI cB cL : ClassId} {L : Nat} {xs : Nat → Int32} (hx : p.tables.exec = Jvm.exec) {cc : ByteArray} (hb : c.code = cc) {pc n : Nat} {lv st : List zV} {μ : zM} {K : List zV → List zV → zM → Prop} {z : Int} {S : Nat → List zV → List zV → zM → Prop} {ex : Nat} (ht : (pc : Int) + z = (ex : Int)) (hS : ∀ L2 lv st μ, S L2 lv st μ → zGo p l e R s m args below meth c cells slots Qw dC dI q cI cB cL L xs n L2 lv st μ) (hd : decode cc pc = .ok (.ifCond .eq z, 3)) (hK : ∀ lv st μ, K lv st μ → zGo p l e R s m args below meth c cells slots Qw dC dI q cI cB cL L xs n (pc + 3) lv st μ) (h : zU 0 st (fun a r => zif (a = 0) (S ex lv r μ) (K lv r μ))) : zGo p l e R s m args below meth c cells slots Qw dC dI q cI cB cL L xs n pc lv st μ := by
  intro H locs ls hw hl hs
  rcases st with _ | ⟨⟨t1, a⟩, r⟩
  · exact h.elim
  obtain ⟨h1, h3⟩ := h
  subst h1
  have ia := zst_hi hs
  have hs2 := zst_tl hs
  have e := (zo_eq ia zi0)
  rw [zo_0] at e
  refine lv_if_eq hx hb hd ht (fun w => ?_) (fun w => ?_)
  · rw [e] at w
    exact hS _ _ _ _ (h3.1 (by omega)) H locs ls hw hl hs2
  · rw [e] at w
    exact hK _ _ _ (h3.2 (by omega)) H locs ls hw hl hs2
theorem sv_ifCond_ne {p : Program} {l : Launch} {e : Env} {R : Room} {s : State} {m : MethodId} {args : Array Value} {below : List Frame} {meth : Method} {c : Code} {cells slots : Nat} {Qw : State → Prop} {dC : Nat → ClassId} {dI : Nat → Nat → Nat} {q : Nat → Nat} {cI cB cL : ClassId} {L : Nat} {xs : Nat → Int32} (hx : p.tables.exec = Jvm.exec) {cc : ByteArray} (hb : c.code = cc) {pc n : Nat} {lv st : List zV} {μ : zM} {K : List zV → List zV → zM → Prop} {z : Int} {S : Nat → List zV → List zV → zM → Prop} {ex : Nat} (ht : (pc : Int) + z = (ex : Int)) (hS : ∀ L2 lv st μ, S L2 lv st μ → zGo p l e R s m args below meth c cells slots Qw dC dI q cI cB cL L xs n L2 lv st μ) (hd : decode cc pc = .ok (.ifCond .ne z, 3)) (hK : ∀ lv st μ, K lv st μ → zGo p l e R s m args below meth c cells slots Qw dC dI q cI cB cL L xs n (pc + 3) lv st μ) (h : zU 0 st (fun a r => zif (a = 0) (K lv r μ) (S ex lv r μ))) : zGo p l e R s m args below meth c cells slots Qw dC dI q cI cB cL L xs n pc lv st μ := by
  intro H locs ls hw hl hs
  rcases st with _ | ⟨⟨t1, a⟩, r⟩
  · exact h.elim
  obtain ⟨h1, h3⟩ := h
  subst h1
  have ia := zst_hi hs
  have hs2 := zst_tl hs
  have e := (zo_eq ia zi0)
  rw [zo_0] at e
  refine lv_if_ne hx hb hd ht (fun w => ?_) (fun w => ?_)
  · rw [e] at w
    exact hS _ _ _ _ (h3.2 (by omega)) H locs ls hw hl hs2
  · rw [e] at w
    exact hK _ _ _ (h3.1 (by omega)) H locs ls hw hl hs2
theorem sv_ifCond_lt {p : Program} {l : Launch} {e : Env} {R : Room} {s : State} {m : MethodId} {args : Array Value} {below : List Frame} {meth : Method} {c : Code} {cells slots : Nat} {Qw : State → Prop} {dC : Nat → ClassId} {dI : Nat → Nat → Nat} {q : Nat → Nat} {cI cB cL : ClassId} {L : Nat} {xs : Nat → Int32} (hx : p.tables.exec = Jvm.exec) {cc : ByteArray} (hb : c.code = cc) {pc n : Nat} {lv st : List zV} {μ : zM} {K : List zV → List zV → zM → Prop} {z : Int} {S : Nat → List zV → List zV → zM → Prop} {ex : Nat} (ht : (pc : Int) + z = (ex : Int)) (hS : ∀ L2 lv st μ, S L2 lv st μ → zGo p l e R s m args below meth c cells slots Qw dC dI q cI cB cL L xs n L2 lv st μ) (hd : decode cc pc = .ok (.ifCond .lt z, 3)) (hK : ∀ lv st μ, K lv st μ → zGo p l e R s m args below meth c cells slots Qw dC dI q cI cB cL L xs n (pc + 3) lv st μ) (h : zU 0 st (fun a r => zif (a < 0) (S ex lv r μ) (K lv r μ))) : zGo p l e R s m args below meth c cells slots Qw dC dI q cI cB cL L xs n pc lv st μ := by
  intro H locs ls hw hl hs
  rcases st with _ | ⟨⟨t1, a⟩, r⟩
  · exact h.elim
  obtain ⟨h1, h3⟩ := h
  subst h1
  have ia := zst_hi hs
  have hs2 := zst_tl hs
  have e := (zo_lt ia zi0)
  rw [zo_0] at e
  refine lv_if_lt hx hb hd ht (fun w => ?_) (fun w => ?_)
  · rw [e] at w
    exact hS _ _ _ _ (h3.1 (by omega)) H locs ls hw hl hs2
  · rw [e] at w
    exact hK _ _ _ (h3.2 (by omega)) H locs ls hw hl hs2
theorem sv_ifCond_ge {p : Program} {l : Launch} {e : Env} {R : Room} {s : State} {m : MethodId} {args : Array Value} {below : List Frame} {meth : Method} {c : Code} {cells slots : Nat} {Qw : State → Prop} {dC : Nat → ClassId} {dI : Nat → Nat → Nat} {q : Nat → Nat} {cI cB cL : ClassId} {L : Nat} {xs : Nat → Int32} (hx : p.tables.exec = Jvm.exec) {cc : ByteArray} (hb : c.code = cc) {pc n : Nat} {lv st : List zV} {μ : zM} {K : List zV → List zV → zM → Prop} {z : Int} {S : Nat → List zV → List zV → zM → Prop} {ex : Nat} (ht : (pc : Int) + z = (ex : Int)) (hS : ∀ L2 lv st μ, S L2 lv st μ → zGo p l e R s m args below meth c cells slots Qw dC dI q cI cB cL L xs n L2 lv st μ) (hd : decode cc pc = .ok (.ifCond .ge z, 3)) (hK : ∀ lv st μ, K lv st μ → zGo p l e R s m args below meth c cells slots Qw dC dI q cI cB cL L xs n (pc + 3) lv st μ) (h : zU 0 st (fun a r => zif (a < 0) (K lv r μ) (S ex lv r μ))) : zGo p l e R s m args below meth c cells slots Qw dC dI q cI cB cL L xs n pc lv st μ := by
  intro H locs ls hw hl hs
  rcases st with _ | ⟨⟨t1, a⟩, r⟩
  · exact h.elim
  obtain ⟨h1, h3⟩ := h
  subst h1
  have ia := zst_hi hs
  have hs2 := zst_tl hs
  have e := (zo_le zi0 ia)
  rw [zo_0] at e
  refine lv_if_ge hx hb hd ht (fun w => ?_) (fun w => ?_)
  · rw [e] at w
    exact hS _ _ _ _ (h3.2 (by omega)) H locs ls hw hl hs2
  · rw [e] at w
    exact hK _ _ _ (h3.1 (by omega)) H locs ls hw hl hs2
theorem sv_ifCond_gt {p : Program} {l : Launch} {e : Env} {R : Room} {s : State} {m : MethodId} {args : Array Value} {below : List Frame} {meth : Method} {c : Code} {cells slots : Nat} {Qw : State → Prop} {dC : Nat → ClassId} {dI : Nat → Nat → Nat} {q : Nat → Nat} {cI cB cL : ClassId} {L : Nat} {xs : Nat → Int32} (hx : p.tables.exec = Jvm.exec) {cc : ByteArray} (hb : c.code = cc) {pc n : Nat} {lv st : List zV} {μ : zM} {K : List zV → List zV → zM → Prop} {z : Int} {S : Nat → List zV → List zV → zM → Prop} {ex : Nat} (ht : (pc : Int) + z = (ex : Int)) (hS : ∀ L2 lv st μ, S L2 lv st μ → zGo p l e R s m args below meth c cells slots Qw dC dI q cI cB cL L xs n L2 lv st μ) (hd : decode cc pc = .ok (.ifCond .gt z, 3)) (hK : ∀ lv st μ, K lv st μ → zGo p l e R s m args below meth c cells slots Qw dC dI q cI cB cL L xs n (pc + 3) lv st μ) (h : zU 0 st (fun a r => zif (0 < a) (S ex lv r μ) (K lv r μ))) : zGo p l e R s m args below meth c cells slots Qw dC dI q cI cB cL L xs n pc lv st μ := by
  intro H locs ls hw hl hs
  rcases st with _ | ⟨⟨t1, a⟩, r⟩
  · exact h.elim
  obtain ⟨h1, h3⟩ := h
  subst h1
  have ia := zst_hi hs
  have hs2 := zst_tl hs
  have e := (zo_lt zi0 ia)
  rw [zo_0] at e
  refine lv_if_gt hx hb hd ht (fun w => ?_) (fun w => ?_)
  · rw [e] at w
    exact hS _ _ _ _ (h3.1 (by omega)) H locs ls hw hl hs2
  · rw [e] at w
    exact hK _ _ _ (h3.2 (by omega)) H locs ls hw hl hs2
theorem sv_ifCond_le {p : Program} {l : Launch} {e : Env} {R : Room} {s : State} {m : MethodId} {args : Array Value} {below : List Frame} {meth : Method} {c : Code} {cells slots : Nat} {Qw : State → Prop} {dC : Nat → ClassId} {dI : Nat → Nat → Nat} {q : Nat → Nat} {cI cB cL : ClassId} {L : Nat} {xs : Nat → Int32} (hx : p.tables.exec = Jvm.exec) {cc : ByteArray} (hb : c.code = cc) {pc n : Nat} {lv st : List zV} {μ : zM} {K : List zV → List zV → zM → Prop} {z : Int} {S : Nat → List zV → List zV → zM → Prop} {ex : Nat} (ht : (pc : Int) + z = (ex : Int)) (hS : ∀ L2 lv st μ, S L2 lv st μ → zGo p l e R s m args below meth c cells slots Qw dC dI q cI cB cL L xs n L2 lv st μ) (hd : decode cc pc = .ok (.ifCond .le z, 3)) (hK : ∀ lv st μ, K lv st μ → zGo p l e R s m args below meth c cells slots Qw dC dI q cI cB cL L xs n (pc + 3) lv st μ) (h : zU 0 st (fun a r => zif (0 < a) (K lv r μ) (S ex lv r μ))) : zGo p l e R s m args below meth c cells slots Qw dC dI q cI cB cL L xs n pc lv st μ := by
  intro H locs ls hw hl hs
  rcases st with _ | ⟨⟨t1, a⟩, r⟩
  · exact h.elim
  obtain ⟨h1, h3⟩ := h
  subst h1
  have ia := zst_hi hs
  have hs2 := zst_tl hs
  have e := (zo_le ia zi0)
  rw [zo_0] at e
  refine lv_if_le hx hb hd ht (fun w => ?_) (fun w => ?_)
  · rw [e] at w
    exact hS _ _ _ _ (h3.2 (by omega)) H locs ls hw hl hs2
  · rw [e] at w
    exact hK _ _ _ (h3.1 (by omega)) H locs ls hw hl hs2
theorem sv_if_icmp_eq {p : Program} {l : Launch} {e : Env} {R : Room} {s : State} {m : MethodId} {args : Array Value} {below : List Frame} {meth : Method} {c : Code} {cells slots : Nat} {Qw : State → Prop} {dC : Nat → ClassId} {dI : Nat → Nat → Nat} {q : Nat → Nat} {cI cB cL : ClassId} {L : Nat} {xs : Nat → Int32} (hx : p.tables.exec = Jvm.exec) {cc : ByteArray} (hb : c.code = cc) {pc n : Nat} {lv st : List zV} {μ : zM} {K : List zV → List zV → zM → Prop} {z : Int} {S : Nat → List zV → List zV → zM → Prop} {ex : Nat} (ht : (pc : Int) + z = (ex : Int)) (hS : ∀ L2 lv st μ, S L2 lv st μ → zGo p l e R s m args below meth c cells slots Qw dC dI q cI cB cL L xs n L2 lv st μ) (hd : decode cc pc = .ok (.if_icmp .eq z, 3)) (hK : ∀ lv st μ, K lv st μ → zGo p l e R s m args below meth c cells slots Qw dC dI q cI cB cL L xs n (pc + 3) lv st μ) (h : zD 0 0 st (fun a b r => zif (a = b) (S ex lv r μ) (K lv r μ))) : zGo p l e R s m args below meth c cells slots Qw dC dI q cI cB cL L xs n pc lv st μ := by
  intro H locs ls hw hl hs
  rcases st with _ | ⟨⟨t1, b⟩, _ | ⟨⟨t2, a⟩, r⟩⟩
  · exact h.elim
  · exact h.elim
  obtain ⟨h1, h2, h3⟩ := h
  subst h1; subst h2
  have ib := zst_hi hs
  have ia := zst_hi (zst_tl hs)
  have hs2 := zst_tl (zst_tl hs)
  have e := (zo_eq ia ib)
  refine lv_icmp_eq hx hb hd ht (fun w => ?_) (fun w => ?_)
  · rw [e] at w
    exact hS _ _ _ _ (h3.1 (by omega)) H locs ls hw hl hs2
  · rw [e] at w
    exact hK _ _ _ (h3.2 (by omega)) H locs ls hw hl hs2
theorem sv_if_icmp_ne {p : Program} {l : Launch} {e : Env} {R : Room} {s : State} {m : MethodId} {args : Array Value} {below : List Frame} {meth : Method} {c : Code} {cells slots : Nat} {Qw : State → Prop} {dC : Nat → ClassId} {dI : Nat → Nat → Nat} {q : Nat → Nat} {cI cB cL : ClassId} {L : Nat} {xs : Nat → Int32} (hx : p.tables.exec = Jvm.exec) {cc : ByteArray} (hb : c.code = cc) {pc n : Nat} {lv st : List zV} {μ : zM} {K : List zV → List zV → zM → Prop} {z : Int} {S : Nat → List zV → List zV → zM → Prop} {ex : Nat} (ht : (pc : Int) + z = (ex : Int)) (hS : ∀ L2 lv st μ, S L2 lv st μ → zGo p l e R s m args below meth c cells slots Qw dC dI q cI cB cL L xs n L2 lv st μ) (hd : decode cc pc = .ok (.if_icmp .ne z, 3)) (hK : ∀ lv st μ, K lv st μ → zGo p l e R s m args below meth c cells slots Qw dC dI q cI cB cL L xs n (pc + 3) lv st μ) (h : zD 0 0 st (fun a b r => zif (a = b) (K lv r μ) (S ex lv r μ))) : zGo p l e R s m args below meth c cells slots Qw dC dI q cI cB cL L xs n pc lv st μ := by
  intro H locs ls hw hl hs
  rcases st with _ | ⟨⟨t1, b⟩, _ | ⟨⟨t2, a⟩, r⟩⟩
  · exact h.elim
  · exact h.elim
  obtain ⟨h1, h2, h3⟩ := h
  subst h1; subst h2
  have ib := zst_hi hs
  have ia := zst_hi (zst_tl hs)
  have hs2 := zst_tl (zst_tl hs)
  have e := (zo_eq ia ib)
  refine lv_icmp_ne hx hb hd ht (fun w => ?_) (fun w => ?_)
  · rw [e] at w
    exact hS _ _ _ _ (h3.2 (by omega)) H locs ls hw hl hs2
  · rw [e] at w
    exact hK _ _ _ (h3.1 (by omega)) H locs ls hw hl hs2
theorem sv_if_icmp_lt {p : Program} {l : Launch} {e : Env} {R : Room} {s : State} {m : MethodId} {args : Array Value} {below : List Frame} {meth : Method} {c : Code} {cells slots : Nat} {Qw : State → Prop} {dC : Nat → ClassId} {dI : Nat → Nat → Nat} {q : Nat → Nat} {cI cB cL : ClassId} {L : Nat} {xs : Nat → Int32} (hx : p.tables.exec = Jvm.exec) {cc : ByteArray} (hb : c.code = cc) {pc n : Nat} {lv st : List zV} {μ : zM} {K : List zV → List zV → zM → Prop} {z : Int} {S : Nat → List zV → List zV → zM → Prop} {ex : Nat} (ht : (pc : Int) + z = (ex : Int)) (hS : ∀ L2 lv st μ, S L2 lv st μ → zGo p l e R s m args below meth c cells slots Qw dC dI q cI cB cL L xs n L2 lv st μ) (hd : decode cc pc = .ok (.if_icmp .lt z, 3)) (hK : ∀ lv st μ, K lv st μ → zGo p l e R s m args below meth c cells slots Qw dC dI q cI cB cL L xs n (pc + 3) lv st μ) (h : zD 0 0 st (fun a b r => zif (a < b) (S ex lv r μ) (K lv r μ))) : zGo p l e R s m args below meth c cells slots Qw dC dI q cI cB cL L xs n pc lv st μ := by
  intro H locs ls hw hl hs
  rcases st with _ | ⟨⟨t1, b⟩, _ | ⟨⟨t2, a⟩, r⟩⟩
  · exact h.elim
  · exact h.elim
  obtain ⟨h1, h2, h3⟩ := h
  subst h1; subst h2
  have ib := zst_hi hs
  have ia := zst_hi (zst_tl hs)
  have hs2 := zst_tl (zst_tl hs)
  have e := (zo_lt ia ib)
  refine lv_icmp_lt hx hb hd ht (fun w => ?_) (fun w => ?_)
  · rw [e] at w
    exact hS _ _ _ _ (h3.1 (by omega)) H locs ls hw hl hs2
  · rw [e] at w
    exact hK _ _ _ (h3.2 (by omega)) H locs ls hw hl hs2
theorem sv_if_icmp_ge {p : Program} {l : Launch} {e : Env} {R : Room} {s : State} {m : MethodId} {args : Array Value} {below : List Frame} {meth : Method} {c : Code} {cells slots : Nat} {Qw : State → Prop} {dC : Nat → ClassId} {dI : Nat → Nat → Nat} {q : Nat → Nat} {cI cB cL : ClassId} {L : Nat} {xs : Nat → Int32} (hx : p.tables.exec = Jvm.exec) {cc : ByteArray} (hb : c.code = cc) {pc n : Nat} {lv st : List zV} {μ : zM} {K : List zV → List zV → zM → Prop} {z : Int} {S : Nat → List zV → List zV → zM → Prop} {ex : Nat} (ht : (pc : Int) + z = (ex : Int)) (hS : ∀ L2 lv st μ, S L2 lv st μ → zGo p l e R s m args below meth c cells slots Qw dC dI q cI cB cL L xs n L2 lv st μ) (hd : decode cc pc = .ok (.if_icmp .ge z, 3)) (hK : ∀ lv st μ, K lv st μ → zGo p l e R s m args below meth c cells slots Qw dC dI q cI cB cL L xs n (pc + 3) lv st μ) (h : zD 0 0 st (fun a b r => zif (a < b) (K lv r μ) (S ex lv r μ))) : zGo p l e R s m args below meth c cells slots Qw dC dI q cI cB cL L xs n pc lv st μ := by
  intro H locs ls hw hl hs
  rcases st with _ | ⟨⟨t1, b⟩, _ | ⟨⟨t2, a⟩, r⟩⟩
  · exact h.elim
  · exact h.elim
  obtain ⟨h1, h2, h3⟩ := h
  subst h1; subst h2
  have ib := zst_hi hs
  have ia := zst_hi (zst_tl hs)
  have hs2 := zst_tl (zst_tl hs)
  have e := (zo_le ib ia)
  refine lv_icmp_ge hx hb hd ht (fun w => ?_) (fun w => ?_)
  · rw [e] at w
    exact hS _ _ _ _ (h3.2 (by omega)) H locs ls hw hl hs2
  · rw [e] at w
    exact hK _ _ _ (h3.1 (by omega)) H locs ls hw hl hs2
theorem sv_if_icmp_gt {p : Program} {l : Launch} {e : Env} {R : Room} {s : State} {m : MethodId} {args : Array Value} {below : List Frame} {meth : Method} {c : Code} {cells slots : Nat} {Qw : State → Prop} {dC : Nat → ClassId} {dI : Nat → Nat → Nat} {q : Nat → Nat} {cI cB cL : ClassId} {L : Nat} {xs : Nat → Int32} (hx : p.tables.exec = Jvm.exec) {cc : ByteArray} (hb : c.code = cc) {pc n : Nat} {lv st : List zV} {μ : zM} {K : List zV → List zV → zM → Prop} {z : Int} {S : Nat → List zV → List zV → zM → Prop} {ex : Nat} (ht : (pc : Int) + z = (ex : Int)) (hS : ∀ L2 lv st μ, S L2 lv st μ → zGo p l e R s m args below meth c cells slots Qw dC dI q cI cB cL L xs n L2 lv st μ) (hd : decode cc pc = .ok (.if_icmp .gt z, 3)) (hK : ∀ lv st μ, K lv st μ → zGo p l e R s m args below meth c cells slots Qw dC dI q cI cB cL L xs n (pc + 3) lv st μ) (h : zD 0 0 st (fun a b r => zif (b < a) (S ex lv r μ) (K lv r μ))) : zGo p l e R s m args below meth c cells slots Qw dC dI q cI cB cL L xs n pc lv st μ := by
  intro H locs ls hw hl hs
  rcases st with _ | ⟨⟨t1, b⟩, _ | ⟨⟨t2, a⟩, r⟩⟩
  · exact h.elim
  · exact h.elim
  obtain ⟨h1, h2, h3⟩ := h
  subst h1; subst h2
  have ib := zst_hi hs
  have ia := zst_hi (zst_tl hs)
  have hs2 := zst_tl (zst_tl hs)
  have e := (zo_lt ib ia)
  refine lv_icmp_gt hx hb hd ht (fun w => ?_) (fun w => ?_)
  · rw [e] at w
    exact hS _ _ _ _ (h3.1 (by omega)) H locs ls hw hl hs2
  · rw [e] at w
    exact hK _ _ _ (h3.2 (by omega)) H locs ls hw hl hs2
theorem sv_if_icmp_le {p : Program} {l : Launch} {e : Env} {R : Room} {s : State} {m : MethodId} {args : Array Value} {below : List Frame} {meth : Method} {c : Code} {cells slots : Nat} {Qw : State → Prop} {dC : Nat → ClassId} {dI : Nat → Nat → Nat} {q : Nat → Nat} {cI cB cL : ClassId} {L : Nat} {xs : Nat → Int32} (hx : p.tables.exec = Jvm.exec) {cc : ByteArray} (hb : c.code = cc) {pc n : Nat} {lv st : List zV} {μ : zM} {K : List zV → List zV → zM → Prop} {z : Int} {S : Nat → List zV → List zV → zM → Prop} {ex : Nat} (ht : (pc : Int) + z = (ex : Int)) (hS : ∀ L2 lv st μ, S L2 lv st μ → zGo p l e R s m args below meth c cells slots Qw dC dI q cI cB cL L xs n L2 lv st μ) (hd : decode cc pc = .ok (.if_icmp .le z, 3)) (hK : ∀ lv st μ, K lv st μ → zGo p l e R s m args below meth c cells slots Qw dC dI q cI cB cL L xs n (pc + 3) lv st μ) (h : zD 0 0 st (fun a b r => zif (b < a) (K lv r μ) (S ex lv r μ))) : zGo p l e R s m args below meth c cells slots Qw dC dI q cI cB cL L xs n pc lv st μ := by
  intro H locs ls hw hl hs
  rcases st with _ | ⟨⟨t1, b⟩, _ | ⟨⟨t2, a⟩, r⟩⟩
  · exact h.elim
  · exact h.elim
  obtain ⟨h1, h2, h3⟩ := h
  subst h1; subst h2
  have ib := zst_hi hs
  have ia := zst_hi (zst_tl hs)
  have hs2 := zst_tl (zst_tl hs)
  have e := (zo_le ia ib)
  refine lv_icmp_le hx hb hd ht (fun w => ?_) (fun w => ?_)
  · rw [e] at w
    exact hS _ _ _ _ (h3.2 (by omega)) H locs ls hw hl hs2
  · rw [e] at w
    exact hK _ _ _ (h3.1 (by omega)) H locs ls hw hl hs2
