/-! WHAT IS LEFT TO SHOW OF A METHOD: its steps up to the next cut (a loop's head, a call, the end) -/
theorem pI_mono {S : List mV} {F F' : Int32 → List mV → Prop} (hf : ∀ x S, F x S → F' x S) (h : pI S F) : pI S F' := by
  obtain ⟨x, S', rfl, h⟩ := pI_spec h
  exact hf x S' h
theorem pL_mono {S : List mV} {F F' : Int64 → List mV → Prop} (hf : ∀ x S, F x S → F' x S) (h : pL S F) : pL S F' := by
  obtain ⟨x, S', rfl, h⟩ := pL_spec h
  exact hf x S' h
theorem pR_mono {S : List mV} {F F' : Option Nat → List mV → Prop} (hf : ∀ x S, F x S → F' x S) (h : pR S F) : pR S F' := by
  obtain ⟨x, S', rfl, h⟩ := pR_spec h
  exact hf x S' h
theorem pA_mono {S : List mV} {F F' : Nat → List mV → Prop} (hf : ∀ x S, F x S → F' x S) (h : pA S F) : pA S F' := by
  obtain ⟨x, S', rfl, h⟩ := pA_spec h
  exact hf x S' h
theorem pC_mono {S : List mV} {F F' : mV → List mV → Prop} (hf : ∀ x S, F x S → F' x S) (h : pC S F) : pC S F' := by
  match S, h with
  | .inl x :: S', h => exact hf _ _ h
  | .inr (.inr x) :: S', h => exact hf _ _ h
theorem gI_mono {L : List (Option mL)} {k : Nat} {F F' : Int32 → Prop} (hf : ∀ x, F x → F' x) (h : gI L k F) : gI L k F' := by
  obtain ⟨x, e, h⟩ := gI_spec h
  unfold gI
  rw [e]
  exact hf x h
theorem gR_mono {L : List (Option mL)} {k : Nat} {F F' : Option Nat → Prop} (hf : ∀ x, F x → F' x) (h : gR L k F) : gR L k F' := by
  obtain ⟨x, e, h⟩ := gR_spec h
  unfold gR
  rw [e]
  exact hf x h
theorem shA_mono {M : Mm} {a : Nat} {F F' : Nat → Nat → Prop} (hf : ∀ t n, F t n → F' t n) (h : shA M a F) : shA M a F' := by
  obtain ⟨t, n, e, h⟩ := shA_spec h
  unfold shA
  rw [e]
  exact hf t n h
theorem iif_mono {P A B A' B' : Prop} (ha : A → A') (hb : B → B') (h : iif P A B) : iif P A' B' := ⟨fun p => ha (h.1 p), fun p => hb (h.2 p)⟩
theorem swc_mono {dt : Nat} {x : Int32} {F F' : Nat → Prop} (hf : ∀ t, F t → F' t) : ∀ cs : List (Int × Nat), swc cs dt x F → swc cs dt x F'
  | [], h => hf _ h
  | (v, t) :: cs, h => ⟨fun p => hf _ (h.1 p), fun p => swc_mono hf cs (h.2 p)⟩
theorem pAs_mono : ∀ (n : Nat) (S : List mV) (F F' : List mL → List mV → Prop), (∀ as S, F as S → F' as S) → pAs n S F → pAs n S F'
  | 0, S, F, F', hf, h => hf _ _ h
  | n + 1, .inl x :: S, F, F', hf, h => pAs_mono n S _ _ (fun as S2 h => hf _ _ h) h
  | n + 1, .inr (.inr r) :: S, F, F', hf, h => pAs_mono n S _ _ (fun as S2 h => hf _ _ h) h
theorem rtK_mono {rk pc : Nat} {L : List (Option mL)} {S : List mV} {K K' : mK} (hK : ∀ pc L S M, K pc L S M → K' pc L S M) (r : Option mV) (M : Mm) (h : rtK rk pc L S K r M) : rtK rk pc L S K' r M := by
  match rk, h with
  | 0, h => exact ⟨h.1, hK _ _ _ _ h.2⟩
  | 1, h => obtain ⟨x, e, h⟩ := h; exact ⟨x, e, hK _ _ _ _ h⟩
  | rk + 2, h => obtain ⟨x, e, h⟩ := h; exact ⟨x, e, hK _ _ _ _ h⟩
theorem stp_mono {q : mI} {d pc : Nat} {L : List (Option mL)} {S : List mV} {M : Mm} {K K' : mK} (hK : ∀ pc L S M, K pc L S M → K' pc L S M) (h : stp q d pc L S M K) : stp q d pc L S M K' := by
  obtain ⟨ins, n, r1, r2, r3⟩ := q
  cases ins
  case putfield idx =>
    match r3, h with
    | 0, h => exact pI_mono (fun x S h => pA_mono (fun a S h => ⟨h.1, hK _ _ _ _ h.2⟩) h) h
    | 1, h => exact pI_mono (fun x S h => pA_mono (fun a S h => ⟨h.1, h.2.1, hK _ _ _ _ h.2.2⟩) h) h
    | 2, h => exact pL_mono (fun x S h => pA_mono (fun a S h => ⟨h.1, hK _ _ _ _ h.2⟩) h) h
    | 3, h => exact pR_mono (fun x S h => pA_mono (fun a S h => ⟨h.1, hK _ _ _ _ h.2⟩) h) h
    | r + 4, h => exact pI_mono (fun x S h => pA_mono (fun a S h => ⟨h.1, hK _ _ _ _ h.2⟩) h) h
  case if_acmp cc off => exact pR_mono (fun x S h => pR_mono (fun y S h => by cases cc <;> exact iif_mono (hK _ _ _ _) (hK _ _ _ _) h) h) h
  case tableswitch dt lo hi offs => exact pI_mono (fun x S h => swc_mono (fun t => hK _ _ _ _) _ h) h
  case lookupswitch dt ps => exact pI_mono (fun x S h => swc_mono (fun t => hK _ _ _ _) _ h) h
  case goto off => exact hK _ _ _ _ h
  case dup => dsimp only [stp] at h ⊢; exact pC_mono (fun x S h => hK _ _ _ _ h) h
  case pop => dsimp only [stp] at h ⊢; exact pC_mono (fun x S h => hK _ _ _ _ h) h
  case dup_x1 => dsimp only [stp] at h ⊢; exact pC_mono (fun x S h => pC_mono (fun y S h => hK _ _ _ _ h) h) h
  case dup2 => dsimp only [stp] at h ⊢; exact pC_mono (fun x S h => pC_mono (fun y S h => hK _ _ _ _ h) h) h
  case ifCond cc off => exact pI_mono (fun x S h => iif_mono (hK _ _ _ _) (hK _ _ _ _) h) h
  case if_icmp cc off => exact pI_mono (fun x S h => pI_mono (fun x S h => iif_mono (hK _ _ _ _) (hK _ _ _ _) h) h) h
  case ifnull off => exact pR_mono (fun x S h => iif_mono (hK _ _ _ _) (hK _ _ _ _) h) h
  case ifnonnull off => exact pR_mono (fun x S h => iif_mono (hK _ _ _ _) (hK _ _ _ _) h) h
  case getfield idx => exact pA_mono (fun a S h => ⟨h.1, hK _ _ _ _ h.2⟩) h
  case arraylength => exact pA_mono (fun a S h => shA_mono (fun t n h => ⟨h.1, hK _ _ _ _ h.2⟩) h) h
  case iaload => exact pI_mono (fun i S h => pA_mono (fun a S h => shA_mono (fun t n h => ⟨h.1, h.2.1, hK _ _ _ _ h.2.2⟩) h) h) h
  case baload => exact pI_mono (fun i S h => pA_mono (fun a S h => shA_mono (fun t n h => ⟨h.1, h.2.1, hK _ _ _ _ h.2.2⟩) h) h) h
  case aaload => exact pI_mono (fun i S h => pA_mono (fun a S h => shA_mono (fun t n h => ⟨h.1, h.2.1, hK _ _ _ _ h.2.2⟩) h) h) h
  case iastore => exact pI_mono (fun x S h => pI_mono (fun i S h => pA_mono (fun a S h => shA_mono (fun t n h => ⟨h.1, h.2.1, hK _ _ _ _ h.2.2⟩) h) h) h) h
  case bastore => exact pI_mono (fun x S h => pI_mono (fun i S h => pA_mono (fun a S h => shA_mono (fun t n h => ⟨h.1, h.2.1, hK _ _ _ _ h.2.2⟩) h) h) h) h
  case aastore => exact pR_mono (fun x S h => pI_mono (fun i S h => pA_mono (fun a S h => shA_mono (fun t n h => ⟨h.1, h.2.1, h.2.2.1, hK _ _ _ _ h.2.2.2⟩) h) h) h) h
  case newarray a => exact pI_mono (fun x S h => ⟨h.1, h.2.1, hK _ _ _ _ h.2.2⟩) h
  case anewarray a => exact pI_mono (fun x S h => ⟨h.1, h.2.1, hK _ _ _ _ h.2.2⟩) h
  case checkcast a => exact pA_mono (fun a S h => shA_mono (fun t n h => ⟨h.1, hK _ _ _ _ h.2⟩) h) h
  case invokespecial a => exact pA_mono (fun a S h => ⟨h.1, h.2.1, h.2.2.1, hK _ _ _ _ h.2.2.2⟩) h
  case invokestatic a =>
    dsimp only [stp] at h ⊢
    by_cases hr : r1 = 1003
    · rw [if_pos hr] at h ⊢
      exact pL_mono (fun x S h => ⟨h.1, h.2.1, hK _ _ _ _ h.2.2⟩) h
    · rw [if_neg hr] at h ⊢
      exact pI_mono (fun x S h => pI_mono (fun y S h => ⟨h.1, h.2.1, hK _ _ _ _ h.2.2⟩) h) h
  case invokevirtual a => exact pA_mono (fun a S h => shA_mono (fun t n h => ⟨h.1, h.2.1, h.2.2.1, h.2.2.2.1, hK _ _ _ _ h.2.2.2.2⟩) h) h
  all_goals first
    | exact h.elim
    | exact hK _ _ _ _ h
    | exact gI_mono (fun x h => hK _ _ _ _ h) h
    | exact gR_mono (fun x h => hK _ _ _ _ h) h
    | exact pI_mono (fun x S h => hK _ _ _ _ h) h
    | exact pL_mono (fun x S h => hK _ _ _ _ h) h
    | exact pR_mono (fun x S h => hK _ _ _ _ h) h
    | exact pI_mono (fun x S h => pI_mono (fun y S h => hK _ _ _ _ h) h) h
    | exact pI_mono (fun x S h => pI_mono (fun y S h => ⟨h.1, hK _ _ _ _ h.2⟩) h) h
    | exact pL_mono (fun x S h => pL_mono (fun y S h => hK _ _ _ _ h) h) h
    | exact pI_mono (fun x S h => pL_mono (fun y S h => hK _ _ _ _ h) h) h
    | exact pC_mono (fun x S h => hK _ _ _ _ h) h
    | exact pC_mono (fun x S h => pC_mono (fun y S h => hK _ _ _ _ h) h) h
theorem stx_mono {q : mI} {d pc : Nat} {L : List (Option mL)} {S : List mV} {M : Mm} {Q : mQ} {K K' : mK} {Cc : mC} (hC : ∀ j as M (k k' : mQ), (∀ r M, k r M → k' r M) → Cc j as M k → Cc j as M k') (hK : ∀ pc L S M, K pc L S M → K' pc L S M) (h : stx q d pc L S M Q K Cc) : stx q d pc L S M Q K' Cc := by
  obtain ⟨ins, n, r1, r2, r3⟩ := q
  cases ins
  case ireturn => exact h
  case areturn => exact h
  case return_ => exact h
  case invokestatic idx =>
    by_cases hr1 : r1 < 1000
    · dsimp only [stx] at h ⊢
      rw [if_pos hr1] at h ⊢
      exact pAs_mono _ _ _ _ (fun as S h => ⟨h.1, hC _ _ _ _ _ (rtK_mono hK) h.2⟩) h
    · dsimp only [stx] at h ⊢
      rw [if_neg hr1] at h ⊢
      exact stp_mono hK h
  case invokevirtual idx =>
    by_cases hr1 : r1 < 1000
    · dsimp only [stx] at h ⊢
      rw [if_pos hr1] at h ⊢
      exact pAs_mono _ _ _ _ (fun as S h => pA_mono (fun a S h => ⟨h.1, h.2.1, hC _ _ _ _ _ (rtK_mono hK) h.2.2⟩) h) h
    · dsimp only [stx] at h ⊢
      rw [if_neg hr1] at h ⊢
      exact stp_mono hK h
  case invokespecial idx =>
    by_cases hr1 : r1 < 1000
    · dsimp only [stx] at h ⊢
      rw [if_pos hr1] at h ⊢
      exact pAs_mono _ _ _ _ (fun as S h => pA_mono (fun a S h => ⟨h.1, hC _ _ _ _ _ (rtK_mono hK) h.2⟩) h) h
    · dsimp only [stx] at h ⊢
      rw [if_neg hr1] at h ⊢
      exact stp_mono hK h
  all_goals (dsimp only [stx] at h ⊢; exact stp_mono hK h)
/-- a call, as what is left to show: XC d j as M k -/
def XC (d j : Nat) (as : List mL) (M : Mm) (k : mQ) : Prop := ∃ d', d = d' + 1 ∧ X d' j 0 (enL (mX j) as) [] M k
theorem XC.mono {d j : Nat} {as : List mL} {M : Mm} {k k' : mQ} (hk : ∀ r M, k r M → k' r M) (h : XC d j as M k) : XC d j as M k' := by
  obtain ⟨d', e, h⟩ := h
  exact ⟨d', e, h.mono hk⟩
def vc : Nat → Nat → Nat → Nat → List (Option mL) → List mV → Mm → mQ → Prop
  | 0, d, i, pc, L, S, M, Q => X d i pc L S M Q
  | n + 1, d, i, pc, L, S, M, Q => match cd i pc with
    | none => X d i pc L S M Q
    | some q => stx q d pc L S M Q (fun pc' L' S' M' => if cut i pc' = true then X d i pc' L' S' M' Q else vc n d i pc' L' S' M' Q) (XC d)
theorem vc_X : ∀ (n d i pc : Nat) (L : List (Option mL)) (S : List mV) (M : Mm) (Q : mQ), vc n d i pc L S M Q → X d i pc L S M Q
  | 0, d, i, pc, L, S, M, Q, h => h
  | n + 1, d, i, pc, L, S, M, Q, h => by
    unfold vc at h
    split at h
    · exact h
    · rename_i q hq
      refine stx_X (cd_ok i pc q hq) (stx_mono (fun j as M k k' hk h => XC.mono hk h) (fun pc L S M h => ?_) h)
      split at h
      · exact h
      · exact vc_X n d i pc L S M Q h
