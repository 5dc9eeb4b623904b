/-! the machine is determined: two ends of one run are one -/
theorem zLd_det {G : Prop} {t n : Nat} {lv : List zV} {k k' : zV → Prop} (h : zLd t n lv k) (h' : zLd t n lv k') (g : ∀ v, k v → k' v → G) : G := g _ h.2 h'.2
theorem zSt_det {G : Prop} {t n : Nat} {lv st : List zV} {k k' : List zV → List zV → Prop} (h : zSt t n lv st k) (h' : zSt t n lv st k') (g : ∀ a b, k a b → k' a b → G) : G := by
  cases st with
  | nil => exact h.elim
  | cons v r => exact g _ _ h.2.2.2 h'.2.2.2
theorem zSt2_det {G : Prop} {n : Nat} {lv st : List zV} {k k' : List zV → List zV → Prop} (h : zSt2 n lv st k) (h' : zSt2 n lv st k') (g : ∀ a b, k a b → k' a b → G) : G := by
  cases st with
  | nil => exact h.elim
  | cons v r => exact g _ _ h.2.2.2 h'.2.2.2
theorem zU_det {G : Prop} {t : Nat} {st : List zV} {k k' : Int → List zV → Prop} (h : zU t st k) (h' : zU t st k') (g : ∀ a b, k a b → k' a b → G) : G := by
  cases st with
  | nil => exact h.elim
  | cons v r => exact g _ _ h.2 h'.2
theorem zD_det {G : Prop} {t1 t2 : Nat} {st : List zV} {k k' : Int → Int → List zV → Prop} (h : zD t1 t2 st k) (h' : zD t1 t2 st k') (g : ∀ a b c, k a b c → k' a b c → G) : G := by
  cases st with
  | nil => exact h.elim
  | cons v r =>
    cases r with
    | nil => exact h.elim
    | cons v2 r => exact g _ _ _ h.2.2 h'.2.2
theorem zY_det {G : Prop} {t1 : Nat} {st : List zV} {k k' : Int → Int → Int → List zV → Prop} (h : zY t1 st k) (h' : zY t1 st k') (g : ∀ a b c e, k a b c e → k' a b c e → G) : G := by
  cases st with
  | nil => exact h.elim
  | cons v r =>
    cases r with
    | nil => exact h.elim
    | cons v2 r =>
      cases r with
      | nil => exact h.elim
      | cons v3 r => exact g _ _ _ _ h.2.2.2 h'.2.2.2
theorem zif_det {G c p p' q q' : Prop} (h : zif c p q) (h' : zif c p' q') (g1 : p → p' → G) (g2 : q → q' → G) : G := by
  by_cases hc : c
  · exact g1 (h.1 hc) (h'.1 hc)
  · exact g2 (h.2 hc) (h'.2 hc)
theorem zSw_det {G : Prop} {k k' : Nat → Prop} (g : ∀ t, k t → k' t → G) {x : Int} {d : Nat} : ∀ {tb : List (Int × Nat)}, zSw tb x d k → zSw tb x d k' → G
  | [], h, h' => g _ h h'
  | (v, t) :: r, h, h' => by
    by_cases e : x = v
    · exact g t (h.1 e) (h'.1 e)
    · exact zSw_det g (h.2 e) (h'.2 e)
theorem zCall_det {G : Prop} {C : Nat → List zV → zM → (Int → zM → Prop) → Prop} (hC : ∀ z as μ P P', C z as μ P → C z as μ P' → ∃ r u, P r u ∧ P' r u) {ex : Nat} {tb : List (Int × Nat)} {st : List zV} {μ : zM} {k k' : List zV → zM → Prop} (h : zCall C ex tb st μ k) (h' : zCall C ex tb st μ k') (g : ∀ a b, k a b → k' a b → G) : G := by
  cases tb with
  | nil => exact h.elim
  | cons v r =>
    cases r with
    | nil =>
      obtain ⟨r, u, h1, h2⟩ := hC _ _ _ _ _ h.2.2 h'.2.2
      exact g _ _ h1 h2
    | cons v2 r => exact h.elim
theorem zVirt_det {G : Prop} {C : Nat → List zV → zM → (Int → zM → Prop) → Prop} (hC : ∀ z as μ P P', C z as μ P → C z as μ P' → ∃ r u, P r u ∧ P' r u) {ex : Nat} {tb : List (Int × Nat)} {st : List zV} {μ : zM} {k k' : List zV → zM → Prop} (h : zVirt C ex tb st μ k) (h' : zVirt C ex tb st μ k') (g : ∀ a b, k a b → k' a b → G) : G := by
  cases tb with
  | nil => exact h.elim
  | cons v r =>
    cases r with
    | nil => exact h.elim
    | cons v2 r =>
      cases r with
      | nil => exact zCall_det hC h.2.2 h'.2.2 g
      | cons v3 r => exact h.elim
theorem zCopy_det {G : Prop} {st : List zV} {μ : zM} {k k' : List zV → zM → Prop} (h : zCopy st μ k) (h' : zCopy st μ k') (g : ∀ a b, k a b → k' a b → G) : G := by
  unfold zCopy at h h'
  split at h
  · obtain ⟨-, -, -, -, -, -, -, -, -, h10⟩ := h
    obtain ⟨-, -, -, -, -, -, -, -, -, h11⟩ := h'
    exact g _ _ h10 h11
  · exact h.elim
theorem zGet_det {G : Prop} {q a : Int} {ex : Nat} {μ : zM} {k k' : zV → Prop} (h : zGet q a ex μ k) (h' : zGet q a ex μ k') (g : ∀ v, k v → k' v → G) : G := by
  unfold zGet at h h'
  split at h
  · rename_i e; rw [if_pos e] at h'; exact g _ h h'
  · rename_i e; rw [if_neg e] at h'; exact g _ h.2 h'.2
theorem zPut_det {G : Prop} {q a : Int} {ex : Nat} {v : Int} {μ : zM} {k k' : zM → Prop} (h : zPut q a ex v μ k) (h' : zPut q a ex v μ k') (g : ∀ v, k v → k' v → G) : G := g _ h.2 h'.2
theorem zAld_det {G : Prop} {t : Nat} {a j : Int} {μ : zM} {k k' : Int → Prop} (h : zAld t a j μ k) (h' : zAld t a j μ k') (g : ∀ v, k v → k' v → G) : G := by
  unfold zAld at h h'
  split at h
  · rename_i e; rw [if_pos e] at h'; exact g _ h.2.2 h'.2.2
  · rename_i e; rw [if_neg e] at h'; exact g _ h.2.2.2.2 h'.2.2.2.2
theorem zAst_det {G : Prop} {t : Nat} {a j v : Int} {μ : zM} {k k' : zM → Prop} (h : zAst t a j v μ k) (h' : zAst t a j v μ k') (g : ∀ v, k v → k' v → G) : G := g _ h.2.2.2 h'.2.2.2
set_option maxHeartbeats 4000000 in
theorem zO_det {G : Prop} {C : Nat → List zV → zM → (Int → zM → Prop) → Prop} {Q Q' : Int → zM → Prop} {S S' : Nat → List zV → List zV → zM → Prop} {K K' : List zV → List zV → zM → Prop} (hC : ∀ z as μ P P', C z as μ P → C z as μ P' → ∃ r u, P r u ∧ P' r u) (hQ : ∀ r μ, Q r μ → Q' r μ → G) (hS : ∀ L lv st μ, S L lv st μ → S' L lv st μ → G) (hK : ∀ lv st μ, K lv st μ → K' lv st μ → G) (op : Instr) (ex : Nat) (tb : List (Int × Nat)) (lv st : List zV) (μ : zM) (h : zO C Q S op ex tb lv st μ K) (h' : zO C Q' S' op ex tb lv st μ K') : G := by
  cases op
  case nop => dsimp only [zO] at h h'; exact hS _ _ _ _ h h'
  case goto => dsimp only [zO] at h h'; exact hS _ _ _ _ h h'
  case iload_n => dsimp only [zO] at h h'; exact zLd_det h h' (fun _ => hK _ _ _)
  case iload => dsimp only [zO] at h h'; exact zLd_det h h' (fun _ => hK _ _ _)
  case lload_n => dsimp only [zO] at h h'; exact zLd_det h h' (fun _ => hK _ _ _)
  case lload => dsimp only [zO] at h h'; exact zLd_det h h' (fun _ => hK _ _ _)
  case aload_n => dsimp only [zO] at h h'; exact zLd_det h h' (fun _ => hK _ _ _)
  case aload => dsimp only [zO] at h h'; exact zLd_det h h' (fun _ => hK _ _ _)
  case istore_n => dsimp only [zO] at h h'; exact zSt_det h h' (fun _ _ => hK _ _ _)
  case istore => dsimp only [zO] at h h'; exact zSt_det h h' (fun _ _ => hK _ _ _)
  case astore_n => dsimp only [zO] at h h'; exact zSt_det h h' (fun _ _ => hK _ _ _)
  case astore => dsimp only [zO] at h h'; exact zSt_det h h' (fun _ _ => hK _ _ _)
  case lstore => dsimp only [zO] at h h'; exact zSt2_det h h' (fun _ _ => hK _ _ _)
  case iinc => dsimp only [zO] at h h'; exact zLd_det h h' (fun _ a b => hK _ _ _ a.2.2 b.2.2)
  case iconst => dsimp only [zO] at h h'; exact hK _ _ _ h h'
  case bipush => dsimp only [zO] at h h'; exact hK _ _ _ h h'
  case sipush => dsimp only [zO] at h h'; exact hK _ _ _ h h'
  case lconst => dsimp only [zO] at h h'; exact hK _ _ _ h h'
  case ldc =>
    cases tb with
    | nil => exact h.elim
    | cons v r =>
      cases r with
      | nil => exact hK _ _ _ h h'
      | cons v2 r => exact h.elim
  case ldc2_w =>
    cases tb with
    | nil => exact h.elim
    | cons v r =>
      cases r with
      | nil => exact hK _ _ _ h h'
      | cons v2 r => exact h.elim
  case iadd => dsimp only [zO] at h h'; exact zD_det h h' (fun _ _ _ => hK _ _ _)
  case isub => dsimp only [zO] at h h'; exact zD_det h h' (fun _ _ _ => hK _ _ _)
  case imul => dsimp only [zO] at h h'; exact zD_det h h' (fun _ _ _ => hK _ _ _)
  case iand => dsimp only [zO] at h h'; exact zD_det h h' (fun _ _ _ => hK _ _ _)
  case ior => dsimp only [zO] at h h'; exact zD_det h h' (fun _ _ _ => hK _ _ _)
  case ixor => dsimp only [zO] at h h'; exact zD_det h h' (fun _ _ _ => hK _ _ _)
  case ishl => dsimp only [zO] at h h'; exact zD_det h h' (fun _ _ _ => hK _ _ _)
  case ishr => dsimp only [zO] at h h'; exact zD_det h h' (fun _ _ _ => hK _ _ _)
  case iushr => dsimp only [zO] at h h'; exact zD_det h h' (fun _ _ _ => hK _ _ _)
  case ladd => dsimp only [zO] at h h'; exact zD_det h h' (fun _ _ _ => hK _ _ _)
  case lmul => dsimp only [zO] at h h'; exact zD_det h h' (fun _ _ _ => hK _ _ _)
  case land => dsimp only [zO] at h h'; exact zD_det h h' (fun _ _ _ => hK _ _ _)
  case lor => dsimp only [zO] at h h'; exact zD_det h h' (fun _ _ _ => hK _ _ _)
  case lshl => dsimp only [zO] at h h'; exact zD_det h h' (fun _ _ _ => hK _ _ _)
  case lcmp => dsimp only [zO] at h h'; exact zD_det h h' (fun _ _ _ => hK _ _ _)
  case idiv => dsimp only [zO] at h h'; exact zD_det h h' (fun _ _ _ a b => hK _ _ _ a.2 b.2)
  case irem => dsimp only [zO] at h h'; exact zD_det h h' (fun _ _ _ a b => hK _ _ _ a.2 b.2)
  case ineg => dsimp only [zO] at h h'; exact zU_det h h' (fun _ _ => hK _ _ _)
  case i2l => dsimp only [zO] at h h'; exact zU_det h h' (fun _ _ => hK _ _ _)
  case l2i => dsimp only [zO] at h h'; exact zU_det h h' (fun _ _ => hK _ _ _)
  case i2b => dsimp only [zO] at h h'; exact zU_det h h' (fun _ _ => hK _ _ _)
  case dup =>
    cases st with
    | nil => exact h.elim
    | cons v r => exact hK _ _ _ h.2 h'.2
  case dup2 =>
    cases st with
    | nil => exact h.elim
    | cons v r =>
      cases r with
      | nil => exact h.elim
      | cons v2 r => exact hK _ _ _ h.2.2 h'.2.2
  case ifCond cd _ => cases cd <;> dsimp only [zO] at h h' <;> exact zU_det h h' (fun _ _ a b => zif_det a b (fun p q => by first | exact hS _ _ _ _ p q | exact hK _ _ _ p q) (fun p q => by first | exact hS _ _ _ _ p q | exact hK _ _ _ p q))
  case if_icmp cd _ => cases cd <;> dsimp only [zO] at h h' <;> exact zD_det h h' (fun _ _ _ a b => zif_det a b (fun p q => by first | exact hS _ _ _ _ p q | exact hK _ _ _ p q) (fun p q => by first | exact hS _ _ _ _ p q | exact hK _ _ _ p q))
  case getfield => dsimp only [zO] at h h'; exact zU_det h h' (fun _ _ a b => zGet_det a b (fun _ => hK _ _ _))
  case putfield => dsimp only [zO] at h h'; exact zD_det h h' (fun _ _ _ a b => zPut_det a b (fun _ => hK _ _ _))
  case iaload => dsimp only [zO] at h h'; exact zD_det h h' (fun _ _ _ a b => zAld_det a b (fun _ => hK _ _ _))
  case baload => dsimp only [zO] at h h'; exact zD_det h h' (fun _ _ _ a b => zAld_det a b (fun _ => hK _ _ _))
  case laload => dsimp only [zO] at h h'; exact zD_det h h' (fun _ _ _ a b => zAld_det a b (fun _ => hK _ _ _))
  case iastore => dsimp only [zO] at h h'; exact zY_det h h' (fun _ _ _ _ a b => zAst_det a b (fun _ => hK _ _ _))
  case bastore => dsimp only [zO] at h h'; exact zY_det h h' (fun _ _ _ _ a b => zAst_det a b (fun _ => hK _ _ _))
  case lastore => dsimp only [zO] at h h'; exact zY_det h h' (fun _ _ _ _ a b => zAst_det a b (fun _ => hK _ _ _))
  case arraylength =>
    dsimp only [zO] at h h'
    refine zU_det h h' (fun a r p q => ?_)
    by_cases e : zT a < 3
    · rw [if_pos e] at p q; exact hK _ _ _ p q
    · rw [if_neg e] at p q; exact hK _ _ _ p.2 q.2
  case invokevirtual => dsimp only [zO] at h h'; exact zVirt_det hC h h' (fun _ _ => hK _ _ _)
  case invokestatic => dsimp only [zO] at h h'; exact zif_det h h' (fun a b => zCopy_det a b (fun _ _ => hK _ _ _)) (fun a b => zif_det a b (fun a b => zU_det a b (fun _ _ p q => hK _ _ _ p.2 q.2)) (fun a b => zif_det a b (fun a b => zD_det a b (fun _ _ _ p q => hK _ _ _ p.2 q.2)) (fun a b => zif_det a b (fun a b => zD_det a b (fun _ _ _ p q => hK _ _ _ p.2 q.2)) (fun a b => zCall_det hC a b (fun _ _ => hK _ _ _)))))
  case ireturn => dsimp only [zO] at h h'; exact zU_det h h' (fun _ _ a b => hQ _ _ a.2.2 b.2.2)
  case lreturn => dsimp only [zO] at h h'; exact zU_det h h' (fun _ _ a b => hQ _ _ a.2 b.2)
  case areturn => dsimp only [zO] at h h'; exact zU_det h h' (fun _ _ a b => hQ _ _ a.2 b.2)
  case return_ => dsimp only [zO] at h h'; exact hQ _ _ h.2 h'.2
  case tableswitch => dsimp only [zO] at h h'; exact zU_det h h' (fun _ _ a b => zSw_det (fun _ => hS _ _ _ _) a b)
  case lookupswitch => dsimp only [zO] at h h'; exact zU_det h h' (fun _ _ a b => zSw_det (fun _ => hS _ _ _ _) a b)
  all_goals exact False.elim h
theorem zB_det {G : Prop} {C : Nat → List zV → zM → (Int → zM → Prop) → Prop} {Q Q' : Int → zM → Prop} {S S' : Nat → List zV → List zV → zM → Prop} (hC : ∀ z as μ P P', C z as μ P → C z as μ P' → ∃ r u, P r u ∧ P' r u) (hQ : ∀ r μ, Q r μ → Q' r μ → G) (hS : ∀ L lv st μ, S L lv st μ → S' L lv st μ → G) : ∀ (is : List zI) (lv st : List zV) (μ : zM), zB C Q S is lv st μ → zB C Q' S' is lv st μ → G
  | [], _, _, _, h, _ => h.elim
  | i :: is, lv, st, μ, h, h' => zO_det hC hQ hS (fun lv st μ => zB_det hC hQ hS is lv st μ) i.1 i.2.1 i.2.2 lv st μ h h'
theorem zR_det0 (d : Nat) (hC : ∀ z as μ P P', zC d z as μ P → zC d z as μ P' → ∃ r u, P r u ∧ P' r u) (z : Nat) (Q Q' : Int → zM → Prop) (L : Nat) (lv st : List zV) (μ : zM) (h : zR d z Q L lv st μ) (h' : zR d z Q' L lv st μ) : ∃ r u, Q r u ∧ Q' r u := by
  rw [zR_eq] at h
  refine h (fun L lv st μ => zR d z Q' L lv st μ → ∃ r u, Q r u ∧ Q' r u) (fun L lv st μ hB h2 => ?_) h'
  exact zB_det hC (fun r u a b => ⟨r, u, a, b⟩) (fun _ _ _ _ a b => a b) _ _ _ _ hB (zR_iff.mp h2)
theorem zC_det : ∀ (d z : Nat) (as : List zV) (μ : zM) (P P' : Int → zM → Prop), zC d z as μ P → zC d z as μ P' → ∃ r u, P r u ∧ P' r u
  | 0, _, _, _, _, _, h, _ => h.elim
  | d + 1, z, as, μ, P, P', h, h' => zR_det0 d (zC_det d) z P P' 0 _ _ μ h.2 h'.2
/-- what is answered, and only that -/
theorem zC_is {d z : Nat} {as : List zV} {μ : zM} {v : Int} {u : zM} (h : zC d z as μ (fun r w => r = v ∧ w = u)) {P : Int → zM → Prop} : zC d z as μ P ↔ P v u := by
  refine ⟨fun k => ?_, fun k => zC_mono d z as μ _ P (fun r w e => by rw [e.1, e.2]; exact k) h⟩
  obtain ⟨r, w, ⟨e1, e2⟩, k2⟩ := zC_det d z as μ _ _ h k
  rw [e1, e2] at k2
  exact k2
