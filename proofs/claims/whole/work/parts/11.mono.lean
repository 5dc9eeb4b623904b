/-! the machine is monotone; a run is what its block says -/
theorem zLd_mono {t n : Nat} {lv : List zV} {k k' : zV → Prop} (h : zLd t n lv k) (hk : ∀ v, k v → k' v) : zLd t n lv k' := ⟨h.1, hk _ h.2⟩
theorem zSt_mono {t n : Nat} {lv st : List zV} {k k' : List zV → List zV → Prop} (h : zSt t n lv st k) (hk : ∀ a b, k a b → k' a b) : zSt t n lv st k' := by
  cases st with
  | nil => exact h
  | cons v r => exact ⟨h.1, h.2.1, h.2.2.1, hk _ _ h.2.2.2⟩
theorem zSt2_mono {n : Nat} {lv st : List zV} {k k' : List zV → List zV → Prop} (h : zSt2 n lv st k) (hk : ∀ a b, k a b → k' a b) : zSt2 n lv st k' := by
  cases st with
  | nil => exact h
  | cons v r => exact ⟨h.1, h.2.1, h.2.2.1, hk _ _ h.2.2.2⟩
theorem zU_mono {t : Nat} {st : List zV} {k k' : Int → List zV → Prop} (h : zU t st k) (hk : ∀ a b, k a b → k' a b) : zU t st k' := by
  cases st with
  | nil => exact h
  | cons v r => exact ⟨h.1, hk _ _ h.2⟩
theorem zD_mono {t1 t2 : Nat} {st : List zV} {k k' : Int → Int → List zV → Prop} (h : zD t1 t2 st k) (hk : ∀ a b c, k a b c → k' a b c) : zD t1 t2 st k' := by
  cases st with
  | nil => exact h
  | cons v r =>
    cases r with
    | nil => exact h
    | cons v2 r => exact ⟨h.1, h.2.1, hk _ _ _ h.2.2⟩
theorem zY_mono {t1 : Nat} {st : List zV} {k k' : Int → Int → Int → List zV → Prop} (h : zY t1 st k) (hk : ∀ a b c e, k a b c e → k' a b c e) : zY t1 st k' := by
  cases st with
  | nil => exact h
  | cons v r =>
    cases r with
    | nil => exact h
    | cons v2 r =>
      cases r with
      | nil => exact h
      | cons v3 r => exact ⟨h.1, h.2.1, h.2.2.1, hk _ _ _ _ h.2.2.2⟩
theorem zif_mono {c p p' q q' : Prop} (hp : p → p') (hq : q → q') (h : zif c p q) : zif c p' q' := ⟨fun c => hp (h.1 c), fun c => hq (h.2 c)⟩
theorem zSw_mono {k k' : Nat → Prop} (hk : ∀ t, k t → k' t) {x : Int} {d : Nat} : ∀ {tb : List (Int × Nat)}, zSw tb x d k → zSw tb x d k'
  | [], h => hk _ h
  | _ :: _, h => ⟨fun c => hk _ (h.1 c), fun c => zSw_mono hk (h.2 c)⟩
theorem zCall_mono {C C' : Nat → List zV → zM → (Int → zM → Prop) → Prop} (hC : ∀ z as μ P P', (∀ r μ, P r μ → P' r μ) → C z as μ P → C' z as μ P') {ex : Nat} {tb : List (Int × Nat)} {st : List zV} {μ : zM} {k k' : List zV → zM → Prop} (h : zCall C ex tb st μ k) (hk : ∀ a b, k a b → k' a b) : zCall C' ex tb st μ k' := by
  cases tb with
  | nil => exact h
  | cons v r =>
    cases r with
    | nil => exact ⟨h.1, h.2.1, hC _ _ _ _ _ (fun _ _ => hk _ _) h.2.2⟩
    | cons v2 r => exact h
theorem zVirt_mono {C C' : Nat → List zV → zM → (Int → zM → Prop) → Prop} (hC : ∀ z as μ P P', (∀ r μ, P r μ → P' r μ) → C z as μ P → C' z as μ P') {ex : Nat} {tb : List (Int × Nat)} {st : List zV} {μ : zM} {k k' : List zV → zM → Prop} (h : zVirt C ex tb st μ k) (hk : ∀ a b, k a b → k' a b) : zVirt C' ex tb st μ k' := by
  cases tb with
  | nil => exact h
  | cons v r =>
    cases r with
    | nil => exact h
    | cons v2 r =>
      cases r with
      | nil => exact ⟨h.1, h.2.1, zCall_mono hC h.2.2 hk⟩
      | cons v3 r => exact h
theorem zCopy_mono {st : List zV} {μ : zM} {k k' : List zV → zM → Prop} (h : zCopy st μ k) (hk : ∀ a b, k a b → k' a b) : zCopy st μ k' := by
  unfold zCopy at h ⊢
  split at h
  · obtain ⟨h1, h2, h3, h4, h5, h6, h7, h8, h9, h10⟩ := h
    exact ⟨h1, h2, h3, h4, h5, h6, h7, h8, h9, hk _ _ h10⟩
  · exact h.elim
theorem zGet_mono {g a : Int} {ex : Nat} {μ : zM} {k k' : zV → Prop} (h : zGet g a ex μ k) (hk : ∀ v, k v → k' v) : zGet g a ex μ k' := by
  unfold zGet at h ⊢
  split
  · rename_i q; rw [if_pos q] at h; exact hk _ h
  · rename_i q; rw [if_neg q] at h; exact ⟨h.1, hk _ h.2⟩
theorem zPut_mono {g a : Int} {ex : Nat} {v : Int} {μ : zM} {k k' : zM → Prop} (h : zPut g a ex v μ k) (hk : ∀ v, k v → k' v) : zPut g a ex v μ k' := ⟨h.1, hk _ h.2⟩
theorem zAld_mono {t : Nat} {a j : Int} {μ : zM} {k k' : Int → Prop} (h : zAld t a j μ k) (hk : ∀ v, k v → k' v) : zAld t a j μ k' := by
  unfold zAld at h ⊢
  split
  · rename_i q; rw [if_pos q] at h; exact ⟨h.1, h.2.1, hk _ h.2.2⟩
  · rename_i q; rw [if_neg q] at h; exact ⟨h.1, h.2.1, h.2.2.1, h.2.2.2.1, hk _ h.2.2.2.2⟩
theorem zAst_mono {t : Nat} {a j v : Int} {μ : zM} {k k' : zM → Prop} (h : zAst t a j v μ k) (hk : ∀ v, k v → k' v) : zAst t a j v μ k' := ⟨h.1, h.2.1, h.2.2.1, hk _ h.2.2.2⟩
set_option maxHeartbeats 4000000 in
theorem zO_mono {C C' : Nat → List zV → zM → (Int → zM → Prop) → Prop} {Q Q' : Int → zM → Prop} {S S' : Nat → List zV → List zV → zM → Prop} {K K' : List zV → List zV → zM → Prop} (hC : ∀ z as μ P P', (∀ r μ, P r μ → P' r μ) → C z as μ P → C' z as μ P') (hQ : ∀ r μ, Q r μ → Q' r μ) (hS : ∀ L lv st μ, S L lv st μ → S' L lv st μ) (hK : ∀ lv st μ, K lv st μ → K' lv st μ) (op : Instr) (ex : Nat) (tb : List (Int × Nat)) (lv st : List zV) (μ : zM) (h : zO C Q S op ex tb lv st μ K) : zO C' Q' S' op ex tb lv st μ K' := by
  cases op
  case nop => dsimp only [zO] at h ⊢; exact hS _ _ _ _ h
  case goto => dsimp only [zO] at h ⊢; exact hS _ _ _ _ h
  case iload_n => dsimp only [zO] at h ⊢; exact zLd_mono h (fun _ => hK _ _ _)
  case iload => dsimp only [zO] at h ⊢; exact zLd_mono h (fun _ => hK _ _ _)
  case lload_n => dsimp only [zO] at h ⊢; exact zLd_mono h (fun _ => hK _ _ _)
  case lload => dsimp only [zO] at h ⊢; exact zLd_mono h (fun _ => hK _ _ _)
  case aload_n => dsimp only [zO] at h ⊢; exact zLd_mono h (fun _ => hK _ _ _)
  case aload => dsimp only [zO] at h ⊢; exact zLd_mono h (fun _ => hK _ _ _)
  case istore_n => dsimp only [zO] at h ⊢; exact zSt_mono h (fun _ _ => hK _ _ _)
  case istore => dsimp only [zO] at h ⊢; exact zSt_mono h (fun _ _ => hK _ _ _)
  case astore_n => dsimp only [zO] at h ⊢; exact zSt_mono h (fun _ _ => hK _ _ _)
  case astore => dsimp only [zO] at h ⊢; exact zSt_mono h (fun _ _ => hK _ _ _)
  case lstore => dsimp only [zO] at h ⊢; exact zSt2_mono h (fun _ _ => hK _ _ _)
  case iinc => dsimp only [zO] at h ⊢; exact zLd_mono h (fun _ q => ⟨q.1, q.2.1, hK _ _ _ q.2.2⟩)
  case iconst => dsimp only [zO] at h ⊢; exact hK _ _ _ h
  case bipush => dsimp only [zO] at h ⊢; exact hK _ _ _ h
  case sipush => dsimp only [zO] at h ⊢; exact hK _ _ _ h
  case lconst => dsimp only [zO] at h ⊢; exact hK _ _ _ h
  case ldc =>
    cases tb with
    | nil => exact h
    | cons v r =>
      cases r with
      | nil => exact hK _ _ _ h
      | cons v2 r => exact h
  case ldc2_w =>
    cases tb with
    | nil => exact h
    | cons v r =>
      cases r with
      | nil => exact hK _ _ _ h
      | cons v2 r => exact h
  case iadd => dsimp only [zO] at h ⊢; exact zD_mono h (fun _ _ _ => hK _ _ _)
  case isub => dsimp only [zO] at h ⊢; exact zD_mono h (fun _ _ _ => hK _ _ _)
  case imul => dsimp only [zO] at h ⊢; exact zD_mono h (fun _ _ _ => hK _ _ _)
  case idiv => dsimp only [zO] at h ⊢; exact zD_mono h (fun _ _ _ q => ⟨q.1, hK _ _ _ q.2⟩)
  case irem => dsimp only [zO] at h ⊢; exact zD_mono h (fun _ _ _ q => ⟨q.1, hK _ _ _ q.2⟩)
  case ineg => dsimp only [zO] at h ⊢; exact zU_mono h (fun _ _ => hK _ _ _)
  case iand => dsimp only [zO] at h ⊢; exact zD_mono h (fun _ _ _ => hK _ _ _)
  case ior => dsimp only [zO] at h ⊢; exact zD_mono h (fun _ _ _ => hK _ _ _)
  case ixor => dsimp only [zO] at h ⊢; exact zD_mono h (fun _ _ _ => hK _ _ _)
  case ishl => dsimp only [zO] at h ⊢; exact zD_mono h (fun _ _ _ => hK _ _ _)
  case ishr => dsimp only [zO] at h ⊢; exact zD_mono h (fun _ _ _ => hK _ _ _)
  case iushr => dsimp only [zO] at h ⊢; exact zD_mono h (fun _ _ _ => hK _ _ _)
  case ladd => dsimp only [zO] at h ⊢; exact zD_mono h (fun _ _ _ => hK _ _ _)
  case lmul => dsimp only [zO] at h ⊢; exact zD_mono h (fun _ _ _ => hK _ _ _)
  case land => dsimp only [zO] at h ⊢; exact zD_mono h (fun _ _ _ => hK _ _ _)
  case lor => dsimp only [zO] at h ⊢; exact zD_mono h (fun _ _ _ => hK _ _ _)
  case lshl => dsimp only [zO] at h ⊢; exact zD_mono h (fun _ _ _ => hK _ _ _)
  case lcmp => dsimp only [zO] at h ⊢; exact zD_mono h (fun _ _ _ => hK _ _ _)
  case i2l => dsimp only [zO] at h ⊢; exact zU_mono h (fun _ _ => hK _ _ _)
  case l2i => dsimp only [zO] at h ⊢; exact zU_mono h (fun _ _ => hK _ _ _)
  case i2b => dsimp only [zO] at h ⊢; exact zU_mono h (fun _ _ => hK _ _ _)
  case dup =>
    cases st with
    | nil => exact h
    | cons v r => exact ⟨h.1, hK _ _ _ h.2⟩
  case dup2 =>
    cases st with
    | nil => exact h
    | cons v r =>
      cases r with
      | nil => exact h
      | cons v2 r => exact ⟨h.1, h.2.1, hK _ _ _ h.2.2⟩
  case ifCond c _ => cases c <;> dsimp only [zO] at h ⊢ <;> exact zU_mono h (fun _ _ w => ⟨fun c => by first | exact hS _ _ _ _ (w.1 c) | exact hK _ _ _ (w.1 c), fun c => by first | exact hS _ _ _ _ (w.2 c) | exact hK _ _ _ (w.2 c)⟩)
  case if_icmp c _ => cases c <;> dsimp only [zO] at h ⊢ <;> exact zD_mono h (fun _ _ _ w => ⟨fun c => by first | exact hS _ _ _ _ (w.1 c) | exact hK _ _ _ (w.1 c), fun c => by first | exact hS _ _ _ _ (w.2 c) | exact hK _ _ _ (w.2 c)⟩)
  case getfield => dsimp only [zO] at h ⊢; exact zU_mono h (fun _ _ w => zGet_mono w (fun _ => hK _ _ _))
  case putfield => dsimp only [zO] at h ⊢; exact zD_mono h (fun _ _ _ w => zPut_mono w (fun _ => hK _ _ _))
  case iaload => dsimp only [zO] at h ⊢; exact zD_mono h (fun _ _ _ w => zAld_mono w (fun _ => hK _ _ _))
  case baload => dsimp only [zO] at h ⊢; exact zD_mono h (fun _ _ _ w => zAld_mono w (fun _ => hK _ _ _))
  case laload => dsimp only [zO] at h ⊢; exact zD_mono h (fun _ _ _ w => zAld_mono w (fun _ => hK _ _ _))
  case iastore => dsimp only [zO] at h ⊢; exact zY_mono h (fun _ _ _ _ w => zAst_mono w (fun _ => hK _ _ _))
  case bastore => dsimp only [zO] at h ⊢; exact zY_mono h (fun _ _ _ _ w => zAst_mono w (fun _ => hK _ _ _))
  case lastore => dsimp only [zO] at h ⊢; exact zY_mono h (fun _ _ _ _ w => zAst_mono w (fun _ => hK _ _ _))
  case arraylength =>
    dsimp only [zO] at h ⊢
    refine zU_mono h (fun a r q => ?_)
    by_cases c : zT a < 3
    · rw [if_pos c] at q ⊢; exact hK _ _ _ q
    · rw [if_neg c] at q ⊢; exact ⟨q.1, hK _ _ _ q.2⟩
  case invokevirtual => dsimp only [zO] at h ⊢; exact zVirt_mono hC h (fun _ _ => hK _ _ _)
  case invokestatic => dsimp only [zO] at h ⊢; exact zif_mono (fun w => zCopy_mono w (fun _ _ => hK _ _ _)) (fun w => zif_mono (fun w => zU_mono w (fun _ _ q => ⟨q.1, hK _ _ _ q.2⟩)) (fun w => zif_mono (fun w => zD_mono w (fun _ _ _ q => ⟨q.1, hK _ _ _ q.2⟩)) (fun w => zif_mono (fun w => zD_mono w (fun _ _ _ q => ⟨q.1, hK _ _ _ q.2⟩)) (fun w => zCall_mono hC w (fun _ _ => hK _ _ _)) w) w) w) h
  case ireturn => dsimp only [zO] at h ⊢; exact zU_mono h (fun _ _ w => ⟨w.1, w.2.1, hQ _ _ w.2.2⟩)
  case lreturn => dsimp only [zO] at h ⊢; exact zU_mono h (fun _ _ w => ⟨w.1, hQ _ _ w.2⟩)
  case areturn => dsimp only [zO] at h ⊢; exact zU_mono h (fun _ _ w => ⟨w.1, hQ _ _ w.2⟩)
  case return_ => dsimp only [zO] at h ⊢; exact ⟨h.1, hQ _ _ h.2⟩
  case tableswitch => dsimp only [zO] at h ⊢; exact zU_mono h (fun _ _ w => zSw_mono (fun _ => hS _ _ _ _) w)
  case lookupswitch => dsimp only [zO] at h ⊢; exact zU_mono h (fun _ _ w => zSw_mono (fun _ => hS _ _ _ _) w)
  all_goals exact False.elim h
theorem zB_mono {C C' : Nat → List zV → zM → (Int → zM → Prop) → Prop} {Q Q' : Int → zM → Prop} {S S' : Nat → List zV → List zV → zM → Prop} (hC : ∀ z as μ P P', (∀ r μ, P r μ → P' r μ) → C z as μ P → C' z as μ P') (hQ : ∀ r μ, Q r μ → Q' r μ) (hS : ∀ L lv st μ, S L lv st μ → S' L lv st μ) : ∀ (is : List zI) (lv st : List zV) (μ : zM), zB C Q S is lv st μ → zB C' Q' S' is lv st μ
  | [], _, _, _, h => h
  | i :: is, lv, st, μ, h => zO_mono hC hQ hS (fun lv st μ => zB_mono hC hQ hS is lv st μ) i.1 i.2.1 i.2.2 lv st μ h
theorem zR_mono : ∀ (d z : Nat) {Q Q' : Int → zM → Prop}, (∀ r μ, Q r μ → Q' r μ) → ∀ L lv st μ, zR d z Q L lv st μ → zR d z Q' L lv st μ
  | 0, z, Q, Q', hQ, L, lv, st, μ, h => by
    intro S hS
    refine h S (fun L lv st μ q => hS L lv st μ (zB_mono (fun _ _ _ _ _ _ w => w) hQ (fun _ _ _ _ w => w) _ _ _ _ q))
  | d + 1, z, Q, Q', hQ, L, lv, st, μ, h => by
    intro S hS
    refine h S (fun L lv st μ q => hS L lv st μ (zB_mono (C := fun z' as μ P => (zlay as).length ≤ zmL z' ∧ zR d z' P 0 (zent z' as) [] μ) (fun z' as μ _ _ hP w => ⟨w.1, zR_mono d z' hP 0 (zent z' as) [] μ w.2⟩) hQ (fun _ _ _ _ w => w) _ _ _ _ q))
theorem zC_mono : ∀ (d z : Nat) (as : List zV) (μ : zM) (P P' : Int → zM → Prop), (∀ r μ, P r μ → P' r μ) → zC d z as μ P → zC d z as μ P'
  | 0, _, _, _, _, _, _, h => h
  | d + 1, z, _, _, _, _, hP, h => ⟨h.1, zR_mono d z hP _ _ _ _ h.2⟩
theorem zR_fold {d z : Nat} {Q : Int → zM → Prop} {L : Nat} {lv st : List zV} {μ : zM} (h : zB (zC d) Q (zR d z Q) (zblk z L) lv st μ) : zR d z Q L lv st μ := by
  rw [zR_eq]
  intro S hS
  refine hS L lv st μ (zB_mono (zC_mono d) (fun _ _ w => w) (fun L lv st μ w => ?_) _ _ _ _ h)
  rw [zR_eq] at w
  exact w S hS
theorem zR_iff {d z : Nat} {Q : Int → zM → Prop} {L : Nat} {lv st : List zV} {μ : zM} : zR d z Q L lv st μ ↔ zB (zC d) Q (zR d z Q) (zblk z L) lv st μ := by
  refine ⟨fun h => ?_, zR_fold⟩
  rw [zR_eq] at h
  exact h (fun L lv st μ => zB (zC d) Q (zR d z Q) (zblk z L) lv st μ) (fun L lv st μ w => zB_mono (zC_mono d) (fun _ _ w => w) (fun _ _ _ _ w => zR_fold w) _ _ _ _ w)
theorem zR_of {d z : Nat} {Q : Int → zM → Prop} {L : Nat} {is : List zI} {lv st : List zV} {μ : zM} (hb : zblk z L = is) : zR d z Q L lv st μ ↔ zB (zC d) Q (zR d z Q) is lv st μ := by
  rw [zR_iff, hb]
theorem zC_of {d z : Nat} {as : List zV} {P : Int → zM → Prop} {is : List zI} {lv : List zV} {μ : zM} (h1 : Nat.ble (zlay as).length (zmL z) = true) (h2 : zent z as = lv) (hb : zblk z 0 = is) : zC (d + 1) z as μ P ↔ zB (zC d) P (zR d z P) is lv [] μ := by
  rw [← h2, ← zR_of hb]
  exact ⟨fun h => h.2, fun h => ⟨Nat.le_of_ble_eq_true h1, h⟩⟩
