/-! ONE STEP OF A METHOD. COK: a row of the code table is what the class file has -/
def rkOK (ret : Option FieldType) (rk : Nat) : Prop := (rk = 0 ∧ ret = none) ∨ (rk = 1 ∧ (ret = some .int ∨ ret = some .boolean)) ∨ (rk = 2 ∧ ((∃ n, ret = some (.object n)) ∨ ∃ t, ret = some (.array t)))
def bcLk (i idx : Nat) : Prop := ∀ (d pc : Nat) (L : List (Option mL)) (S : List mV) (M : Mm) (x : Int64), decode (mB i) pc = .ok (.invokestatic idx, 3) → 0 < d → stk S ≤ 8 → Tr d i pc L (.inr (.inl x) :: S) M (pc + 3) L (.inl (bcl x) :: S) M
def LOK (i pc : Nat) (q : mI) : Prop := match q.1 with
  | .bipush _ | .iload _ | .aload _ | .newarray _ => q.2.1 = 2 ∧ match q.1 with
    | .newarray a => (q.2.2.1 = 41 ∧ a = .int ∨ q.2.2.1 = 42 ∧ a = .boolean ∨ q.2.2.1 = 44 ∧ a = .byte) ∧ Cond.arrayClass (newarray.typeOf a) ∈ gw
    | _ => True
  | .istore k => q.2.1 = 2 ∧ k < mX i
  | .astore k => q.2.1 = 2 ∧ k < mX i
  | .istore_n k => q.2.1 = 1 ∧ k.val < mX i
  | .astore_n k => q.2.1 = 1 ∧ k.val < mX i
  | .iinc k _ => q.2.1 = 3 ∧ k < mX i
  | .sipush _ => q.2.1 = 3
  | .ldc idx => q.2.1 = 2 ∧ Cond.constant (mOw i) idx (Int32.ofNat q.2.2.1) ∈ gw
  | .ldc2_w idx => q.2.1 = 3 ∧ Cond.constantLong (mOw i) idx (Int64.ofNat q.2.2.1) ∈ gw
  | .goto off => q.2.1 = 3 ∧ (pc : Int) + off = (q.2.2.1 : Int)
  | .ifCond _ off => q.2.1 = 3 ∧ (pc : Int) + off = (q.2.2.1 : Int)
  | .if_icmp _ off => q.2.1 = 3 ∧ (pc : Int) + off = (q.2.2.1 : Int)
  | .ifnull off => q.2.1 = 3 ∧ (pc : Int) + off = (q.2.2.1 : Int)
  | .ifnonnull off => q.2.1 = 3 ∧ (pc : Int) + off = (q.2.2.1 : Int)
  | .if_acmp _ off => q.2.1 = 3 ∧ (pc : Int) + off = (q.2.2.1 : Int)
  | .tableswitch dt lo hi offs => hi + 1 = lo + offs.size ∧ (∀ o ∈ offs.toList, 0 ≤ (pc : Int) + o) ∧ 0 ≤ (pc : Int) + dt
  | .lookupswitch dt ps => (ps.toList.zip (ps.toList.drop 1)).all (fun (a, next) => a.1 < next.1) = true ∧ (∀ q ∈ ps.toList, 0 ≤ (pc : Int) + q.2) ∧ 0 ≤ (pc : Int) + dt
  | .getfield idx => q.2.1 = 3 ∧ fLk (mOw i) idx q.2.2.1 q.2.2.2.1 q.2.2.2.2
  | .putfield idx => q.2.1 = 3 ∧ fLkP i idx q.2.2.1 q.2.2.2.1 q.2.2.2.2
  | .new idx => q.2.1 = 3 ∧ nLk (mOw i) idx q.2.2.1 q.2.2.2.1
  | .anewarray idx => q.2.1 = 3 ∧ rTyB q.2.2.1 = true ∧ ∃ r : vw_C, classes[q.2.2.1 - 50]? = some r ∧ Cond.classLink (mOw i) idx r.1 ∈ gw
  | .checkcast idx => q.2.1 = 3 ∧ q.2.2.1 = 41 ∧ Cond.classLink (mOw i) idx "[I" ∈ gw
  | .ireturn => q.2.1 = 1 ∧ (mRt i = some .int ∧ q.2.2.1 = 0 ∨ mRt i = some .boolean ∧ q.2.2.1 = 1)
  | .areturn => q.2.1 = 1 ∧ ((∃ n, mRt i = some (.object n)) ∨ ∃ t, mRt i = some (.array t))
  | .return_ => q.2.1 = 1 ∧ mRt i = none
  | .invokestatic idx => q.2.1 = 3 ∧ ((q.2.2.1 < 1000 ∧ lkM i idx q.2.2.1 ∧ Cond.static (mY q.2.2.1) ∈ gw ∧ mOK q.2.2.1 q.2.2.2.1 ∧ q.2.2.2.1 ≤ mX q.2.2.1) ∨ (q.2.2.1 = 1003 ∧ bcLk i idx) ∨ mmLk i idx q.2.2.1)
  | .invokespecial idx => q.2.1 = 3 ∧ ((q.2.2.1 < 1000 ∧ lkM i idx q.2.2.1 ∧ Cond.instanceMethod (mY q.2.2.1) ∈ gw ∧ (mY q.2.2.1).name = "<init>" ∧ mRt q.2.2.1 = none ∧ mOK q.2.2.1 q.2.2.2.1 ∧ q.2.2.2.1 + 1 ≤ mX q.2.2.1) ∨ (q.2.2.1 = 1000 ∧ oiLk i idx))
  | .invokevirtual idx => q.2.1 = 3 ∧ ((q.2.2.1 < 1000 ∧ lkM i idx q.2.2.1 ∧ Cond.instanceMethod (mY q.2.2.1) ∈ gw ∧ Cond.selects (mY q.2.2.1).cls (mY q.2.2.1) (mY q.2.2.1) ∈ gw ∧ (mCl q.2.2.1 < 40 ∧ ∃ (T : u_T) (N : Nat), classes[mCl q.2.2.1]? = some ((mY q.2.2.1).cls, T, N)) ∧ mOK q.2.2.1 q.2.2.2.1 ∧ q.2.2.2.1 + 1 ≤ mX q.2.2.1) ∨ (q.2.2.1 = 1005 ∧ clLk i idx))
  | _ => q.2.1 = 1
def COK (i pc : Nat) (q : mI) : Prop := decode (mB i) pc = .ok (q.1, q.2.1) ∧ LOK i pc q
def AL (i : Nat) : List (Nat × mI) → Prop
  | [] => True
  | e :: l => LOK i e.1 e.2 ∧ AL i l
theorem rTyB_spec {t : Nat} (h : rTyB t = true) : 50 ≤ t ∧ t < 90 ∧ ∃ ty, aTy t = some ty := by
  refine ⟨(rTyB_ge h).1, (rTyB_ge h).2, ?_⟩
  unfold rTyB at h
  simp only [Bool.or_eq_true, Nat.beq_eq] at h
  rcases h with (h | h) | h <;> subst h <;> exact ⟨_, rfl⟩
theorem aTyB_spec {t : Nat} (h : aTyB t = true) : ∃ ty, aTy t = some ty := by
  unfold aTyB at h
  simp only [Bool.or_eq_true, Nat.beq_eq] at h
  rcases h with (((h | h) | h) | h) | h
  · subst h; exact ⟨_, rfl⟩
  · subst h; exact ⟨_, rfl⟩
  · subst h; exact ⟨_, rfl⟩
  · subst h; exact ⟨_, rfl⟩
  · exact (rTyB_spec h).2.2
theorem pI_spec {S : List mV} {F : Int32 → List mV → Prop} (h : pI S F) : ∃ x S', S = .inl x :: S' ∧ F x S' := by
  match S, h with
  | .inl x :: S', h => exact ⟨x, S', rfl, h⟩
theorem pL_spec {S : List mV} {F : Int64 → List mV → Prop} (h : pL S F) : ∃ x S', S = .inr (.inl x) :: S' ∧ F x S' := by
  match S, h with
  | .inr (.inl x) :: S', h => exact ⟨x, S', rfl, h⟩
theorem pR_spec {S : List mV} {F : Option Nat → List mV → Prop} (h : pR S F) : ∃ x S', S = .inr (.inr x) :: S' ∧ F x S' := by
  match S, h with
  | .inr (.inr x) :: S', h => exact ⟨x, S', rfl, h⟩
theorem pA_spec {S : List mV} {F : Nat → List mV → Prop} (h : pA S F) : ∃ x S', S = .inr (.inr (some x)) :: S' ∧ F x S' := by
  match S, h with
  | .inr (.inr (some x)) :: S', h => exact ⟨x, S', rfl, h⟩
theorem pC_spec {S : List mV} {F : mV → List mV → Prop} (h : pC S F) : ∃ x S', S = x :: S' ∧ (m_val x).category = 1 ∧ F x S' := by
  match S, h with
  | .inl x :: S', h => exact ⟨_, S', rfl, rfl, h⟩
  | .inr (.inr x) :: S', h => exact ⟨_, S', rfl, by cases x <;> rfl, h⟩
theorem gI_spec {L : List (Option mL)} {k : Nat} {F : Int32 → Prop} (h : gI L k F) : ∃ x, L[k]? = some (some (.inl x)) ∧ F x := by
  unfold gI at h
  split at h
  · exact ⟨_, by assumption, h⟩
  · exact h.elim
theorem gR_spec {L : List (Option mL)} {k : Nat} {F : Option Nat → Prop} (h : gR L k F) : ∃ x, L[k]? = some (some (.inr x)) ∧ F x := by
  unfold gR at h
  split at h
  · exact ⟨_, by assumption, h⟩
  · exact h.elim
theorem shA_spec {M : Mm} {a : Nat} {F : Nat → Nat → Prop} (h : shA M a F) : ∃ t n, M.sh a = some (t, n) ∧ F t n := by
  unfold shA at h
  split at h
  · exact ⟨_, _, by assumption, h⟩
  · exact h.elim
set_option maxHeartbeats 4000000 in
theorem stp_X {d i pc : Nat} {q : mI} {L : List (Option mL)} {S : List mV} {M : Mm} {Q : mQ} (hq : COK i pc q) (hgt : (∃ idx, q.1 = .invokestatic idx) → ¬ q.2.2.1 < 1000) (h : stp q d pc L S M (fun pc' L' S' M' => X d i pc' L' S' M' Q)) : X d i pc L S M Q := by
  obtain ⟨ins, n, r1, r2, r3⟩ := q
  obtain ⟨hd, hq⟩ := hq
  cases ins
  case iconst c => cases hq; exact (tr_iconst hd).x h
  case bipush c => cases hq.1; exact (tr_bipush hd).x h
  case sipush c => cases hq; exact (tr_sipush hd).x h
  case lconst c => cases hq; exact (tr_lconst hd).x h
  case aconst_null => cases hq; exact (tr_null hd).x h
  case iload k => cases hq.1; obtain ⟨x, h1, k1⟩ := gI_spec h; exact (tr_iload h1 hd).x k1
  case iload_n k => cases hq; obtain ⟨x, h1, k1⟩ := gI_spec h; exact (tr_iload_n h1 hd).x k1
  case aload k => cases hq.1; obtain ⟨x, h1, k1⟩ := gR_spec h; exact (tr_aload h1 hd).x k1
  case aload_n k => cases hq; obtain ⟨x, h1, k1⟩ := gR_spec h; exact (tr_aload_n h1 hd).x k1
  case istore k => obtain ⟨e, hk⟩ := hq; cases e; obtain ⟨x, S', rfl, k1⟩ := pI_spec h; exact (tr_istore hk hd).x k1
  case istore_n k => obtain ⟨e, hk⟩ := hq; cases e; obtain ⟨x, S', rfl, k1⟩ := pI_spec h; exact (tr_istore_n hk hd).x k1
  case astore k => obtain ⟨e, hk⟩ := hq; cases e; obtain ⟨x, S', rfl, k1⟩ := pR_spec h; exact (tr_astore hk hd).x k1
  case astore_n k => obtain ⟨e, hk⟩ := hq; cases e; obtain ⟨x, S', rfl, k1⟩ := pR_spec h; exact (tr_astore_n hk hd).x k1
  case iinc k c => obtain ⟨e, hk⟩ := hq; cases e; obtain ⟨x, h1, k1⟩ := gI_spec h; exact (tr_iinc h1 hk hd).x k1
  case iadd => cases hq; obtain ⟨y, S, rfl, k1⟩ := pI_spec h; obtain ⟨x, S, rfl, k2⟩ := pI_spec k1; exact (tr_iadd hd).x k2
  case isub => cases hq; obtain ⟨y, S, rfl, k1⟩ := pI_spec h; obtain ⟨x, S, rfl, k2⟩ := pI_spec k1; exact (tr_isub hd).x k2
  case imul => cases hq; obtain ⟨y, S, rfl, k1⟩ := pI_spec h; obtain ⟨x, S, rfl, k2⟩ := pI_spec k1; exact (tr_imul hd).x k2
  case iand => cases hq; obtain ⟨y, S, rfl, k1⟩ := pI_spec h; obtain ⟨x, S, rfl, k2⟩ := pI_spec k1; exact (tr_iand hd).x k2
  case ior => cases hq; obtain ⟨y, S, rfl, k1⟩ := pI_spec h; obtain ⟨x, S, rfl, k2⟩ := pI_spec k1; exact (tr_ior hd).x k2
  case ixor => cases hq; obtain ⟨y, S, rfl, k1⟩ := pI_spec h; obtain ⟨x, S, rfl, k2⟩ := pI_spec k1; exact (tr_ixor hd).x k2
  case ishl => cases hq; obtain ⟨y, S, rfl, k1⟩ := pI_spec h; obtain ⟨x, S, rfl, k2⟩ := pI_spec k1; exact (tr_ishl hd).x k2
  case ishr => cases hq; obtain ⟨y, S, rfl, k1⟩ := pI_spec h; obtain ⟨x, S, rfl, k2⟩ := pI_spec k1; exact (tr_ishr hd).x k2
  case iushr => cases hq; obtain ⟨y, S, rfl, k1⟩ := pI_spec h; obtain ⟨x, S, rfl, k2⟩ := pI_spec k1; exact (tr_iushr hd).x k2
  case idiv => cases hq; obtain ⟨y, S, rfl, k1⟩ := pI_spec h; obtain ⟨x, S, rfl, k2⟩ := pI_spec k1; exact (tr_idiv k2.1 hd).x k2.2
  case irem => cases hq; obtain ⟨y, S, rfl, k1⟩ := pI_spec h; obtain ⟨x, S, rfl, k2⟩ := pI_spec k1; exact (tr_irem k2.1 hd).x k2.2
  case ineg => cases hq; obtain ⟨x, S, rfl, k1⟩ := pI_spec h; exact (tr_ineg hd).x k1
  case i2l => cases hq; obtain ⟨x, S, rfl, k1⟩ := pI_spec h; exact (tr_i2l hd).x k1
  case i2b => cases hq; obtain ⟨x, S, rfl, k1⟩ := pI_spec h; exact (tr_i2b hd).x k1
  case l2i => cases hq; obtain ⟨x, S, rfl, k1⟩ := pL_spec h; exact (tr_l2i hd).x k1
  case land => cases hq; obtain ⟨y, S, rfl, k1⟩ := pL_spec h; obtain ⟨x, S, rfl, k2⟩ := pL_spec k1; exact (tr_land hd).x k2
  case lor => cases hq; obtain ⟨y, S, rfl, k1⟩ := pL_spec h; obtain ⟨x, S, rfl, k2⟩ := pL_spec k1; exact (tr_lor hd).x k2
  case lxor => cases hq; obtain ⟨y, S, rfl, k1⟩ := pL_spec h; obtain ⟨x, S, rfl, k2⟩ := pL_spec k1; exact (tr_lxor hd).x k2
  case lshl => cases hq; obtain ⟨y, S, rfl, k1⟩ := pI_spec h; obtain ⟨x, S, rfl, k2⟩ := pL_spec k1; exact (tr_lshl hd).x k2
  case dup => dsimp only [stp] at h; cases hq; obtain ⟨v, S, rfl, h1, k1⟩ := pC_spec h; exact (tr_dup h1 hd).x k1
  case pop => dsimp only [stp] at h; cases hq; obtain ⟨v, S, rfl, h1, k1⟩ := pC_spec h; exact (tr_pop h1 hd).x k1
  case dup_x1 => dsimp only [stp] at h; cases hq; obtain ⟨v, S, rfl, h1, k1⟩ := pC_spec h; obtain ⟨w, S, rfl, h2, k2⟩ := pC_spec k1; exact (tr_dup_x1 h1 h2 hd).x k2
  case dup2 => dsimp only [stp] at h; cases hq; obtain ⟨v, S, rfl, h1, k1⟩ := pC_spec h; obtain ⟨w, S, rfl, h2, k2⟩ := pC_spec k1; exact (tr_dup2 h1 h2 hd).x k2
  case goto off => obtain ⟨e, ht⟩ := hq; cases e; exact (tr_goto ht hd).x h
  case ifCond cc off =>
    obtain ⟨e, ht⟩ := hq; cases e
    obtain ⟨x, S, rfl, k1⟩ := pI_spec h
    replace h := k1
    cases cc
    · by_cases hP : x = 0
      · exact (tr_if_eq_t ht hP hd).x (h.1 hP)
      · exact (tr_if_eq_f ht hP hd).x (h.2 hP)
    · by_cases hP : x = 0
      · exact (tr_if_ne_f ht hP hd).x (h.2 (fun q => q hP))
      · exact (tr_if_ne_t ht hP hd).x (h.1 hP)
    · by_cases hP : x < 0
      · exact (tr_if_lt_t ht hP hd).x (h.1 hP)
      · exact (tr_if_lt_f ht hP hd).x (h.2 hP)
    · by_cases hP : 0 ≤ x
      · exact (tr_if_ge_t ht hP hd).x (h.1 hP)
      · exact (tr_if_ge_f ht hP hd).x (h.2 hP)
    · by_cases hP : 0 < x
      · exact (tr_if_gt_t ht hP hd).x (h.1 hP)
      · exact (tr_if_gt_f ht hP hd).x (h.2 hP)
    · by_cases hP : x ≤ 0
      · exact (tr_if_le_t ht hP hd).x (h.1 hP)
      · exact (tr_if_le_f ht hP hd).x (h.2 hP)
  case if_icmp cc off =>
    obtain ⟨e, ht⟩ := hq; cases e
    obtain ⟨y, S, rfl, h⟩ := pI_spec h
    obtain ⟨x, S, rfl, k1⟩ := pI_spec h
    replace h := k1
    cases cc
    · by_cases hP : x = y
      · exact (tr_icmp_eq_t ht hP hd).x (h.1 hP)
      · exact (tr_icmp_eq_f ht hP hd).x (h.2 hP)
    · by_cases hP : x = y
      · exact (tr_icmp_ne_f ht hP hd).x (h.2 (fun q => q hP))
      · exact (tr_icmp_ne_t ht hP hd).x (h.1 hP)
    · by_cases hP : x < y
      · exact (tr_icmp_lt_t ht hP hd).x (h.1 hP)
      · exact (tr_icmp_lt_f ht hP hd).x (h.2 hP)
    · by_cases hP : y ≤ x
      · exact (tr_icmp_ge_t ht hP hd).x (h.1 hP)
      · exact (tr_icmp_ge_f ht hP hd).x (h.2 hP)
    · by_cases hP : y < x
      · exact (tr_icmp_gt_t ht hP hd).x (h.1 hP)
      · exact (tr_icmp_gt_f ht hP hd).x (h.2 hP)
    · by_cases hP : x ≤ y
      · exact (tr_icmp_le_t ht hP hd).x (h.1 hP)
      · exact (tr_icmp_le_f ht hP hd).x (h.2 hP)
  case ifnull off =>
    obtain ⟨e, ht⟩ := hq; cases e
    obtain ⟨x, S, rfl, h⟩ := pR_spec h
    cases x with
    | none => exact (tr_ifnull_t ht hd).x (h.1 rfl)
    | some a => exact (tr_ifnull_f hd).x (h.2 (fun q => by cases q))
  case ifnonnull off =>
    obtain ⟨e, ht⟩ := hq; cases e
    obtain ⟨x, S, rfl, h⟩ := pR_spec h
    cases x with
    | none => exact (tr_ifnonnull_f hd).x (h.1 rfl)
    | some a => exact (tr_ifnonnull_t ht hd).x (h.2 (fun q => by cases q))
  case if_acmp cc off =>
    obtain ⟨e, ht⟩ := hq; cases e
    obtain ⟨y, S, rfl, h⟩ := pR_spec h
    obtain ⟨x, S, rfl, h⟩ := pR_spec h
    cases cc
    · by_cases hP : x = y
      · exact (tr_acmp_eq_t ht hP hd).x (h.1 hP)
      · exact (tr_acmp_eq_f ht hP hd).x (h.2 hP)
    · by_cases hP : x = y
      · exact (tr_acmp_ne_f ht hP hd).x (h.1 hP)
      · exact (tr_acmp_ne_t ht hP hd).x (h.2 hP)
  case tableswitch dt lo hi offs =>
    obtain ⟨x, S, rfl, h⟩ := pI_spec h
    obtain ⟨t, h1, h2⟩ := tr_table hd hq.1 hq.2.1 hq.2.2 h
    exact h2.x h1
  case lookupswitch dt ps =>
    obtain ⟨x, S, rfl, h⟩ := pI_spec h
    obtain ⟨t, h1, h2⟩ := tr_lookup hd hq.1 hq.2.1 hq.2.2 h
    exact h2.x h1
  case getfield idx => obtain ⟨e, hf⟩ := hq; cases e; obtain ⟨a, S, rfl, h1, k1⟩ := pA_spec h; exact (tr_getfield hd hf h1).x k1
  case putfield idx =>
    obtain ⟨e, hf⟩ := hq; cases e
    match r3, hf, h with
    | 0, hf, h => obtain ⟨x, S, rfl, k1⟩ := pI_spec h; obtain ⟨a, S, rfl, h1, k2⟩ := pA_spec k1; exact (tr_puti hd hf h1).x k2
    | 1, hf, h => obtain ⟨x, S, rfl, k1⟩ := pI_spec h; obtain ⟨a, S, rfl, h0, h1, k2⟩ := pA_spec k1; exact (tr_putz h0 hd hf h1).x k2
    | 2, hf, h => obtain ⟨x, S, rfl, k1⟩ := pL_spec h; obtain ⟨a, S, rfl, h1, k2⟩ := pA_spec k1; exact (tr_putl hd hf h1).x k2
    | 3, hf, h => obtain ⟨x, S, rfl, k1⟩ := pR_spec h; obtain ⟨a, S, rfl, h1, k2⟩ := pA_spec k1; exact (tr_putr hd hf h1).x k2
    | r + 4, hf, h =>
      exfalso
      obtain ⟨C0, T, N, hc, ht, hk, he, -⟩ := hf
      have h7 := cls_le _ C0 T N hc _ hk
      rw [he] at h7
      exact absurd h7 (show ¬ r + 4 ≤ 3 by omega)
  case arraylength => dsimp only [stp] at h; cases hq; obtain ⟨a, S, rfl, k1⟩ := pA_spec h; obtain ⟨t, n, h1, h2, k2⟩ := shA_spec k1; obtain ⟨ty, h3⟩ := aTyB_spec h2; exact (tr_alen hd h3 h1).x k2
  case iaload => dsimp only [stp] at h; cases hq; obtain ⟨j, S, rfl, k1⟩ := pI_spec h; obtain ⟨a, S, rfl, k2⟩ := pA_spec k1; obtain ⟨t, n, h1, h2, h3, k3⟩ := shA_spec k2; exact (tr_iaload hd h2 h1 h3).x k3
  case baload => dsimp only [stp] at h; cases hq; obtain ⟨j, S, rfl, k1⟩ := pI_spec h; obtain ⟨a, S, rfl, k2⟩ := pA_spec k1; obtain ⟨t, n, h1, h2, h3, k3⟩ := shA_spec k2; exact (tr_baload hd h2 h1 h3).x k3
  case aaload => dsimp only [stp] at h; cases hq; obtain ⟨j, S, rfl, k1⟩ := pI_spec h; obtain ⟨a, S, rfl, k2⟩ := pA_spec k1; obtain ⟨t, n, h1, h2, h3, k3⟩ := shA_spec k2; obtain ⟨g1, g2, ty, g3⟩ := rTyB_spec h2; exact (tr_aaload hd g3 g1 h1 h3).x k3
  case iastore => dsimp only [stp] at h; cases hq; obtain ⟨x, S, rfl, k1⟩ := pI_spec h; obtain ⟨j, S, rfl, k2⟩ := pI_spec k1; obtain ⟨a, S, rfl, k3⟩ := pA_spec k2; obtain ⟨t, n, h1, rfl, h3, k4⟩ := shA_spec k3; exact (tr_iastore hd h1 h3).x k4
  case bastore => dsimp only [stp] at h; cases hq; obtain ⟨x, S, rfl, k1⟩ := pI_spec h; obtain ⟨j, S, rfl, k2⟩ := pI_spec k1; obtain ⟨a, S, rfl, k3⟩ := pA_spec k2; obtain ⟨t, n, h1, h2, h3, k4⟩ := shA_spec k3; exact (tr_bastore hd h2 h1 h3).x k4
  case aastore => dsimp only [stp] at h; cases hq; obtain ⟨x, S, rfl, k1⟩ := pR_spec h; obtain ⟨j, S, rfl, k2⟩ := pI_spec k1; obtain ⟨a, S, rfl, k3⟩ := pA_spec k2; obtain ⟨t, n, h1, h2, h3, h4, k4⟩ := shA_spec k3; obtain ⟨g1, g2, ty, g3⟩ := rTyB_spec h2; exact (tr_aastore hd g3 g1 g2 h1 h3 h4).x k4
  case newarray at_ => obtain ⟨e, hf, hw⟩ := hq; cases e; obtain ⟨x, S, rfl, h0, h1, k1⟩ := pI_spec h; exact (tr_newarray hd hf hw h0 h1).x k1
  case anewarray idx => obtain ⟨e, hf, r, w0, w1⟩ := hq; cases e; obtain ⟨x, S, rfl, h0, h1, k1⟩ := pI_spec h; exact (tr_anewarray hd (rTyB_ge hf).1 hf w0 w1 h0 h1).x k1
  case new idx => obtain ⟨e, hf⟩ := hq; cases e; exact (tr_new hd hf).x h
  case checkcast idx => dsimp only [stp] at h; obtain ⟨e, hr1, hf⟩ := hq; cases e; obtain ⟨a, S, rfl, k1⟩ := pA_spec h; obtain ⟨t, n, h1, h2, k2⟩ := shA_spec k1; have h2 : t = 41 := h2.trans hr1; subst h2; exact (tr_cast hd hf h1).x k2
  case invokespecial idx =>
    obtain ⟨e, hf⟩ := hq; cases e
    obtain ⟨a, S, rfl, h0, h2, h3, h⟩ := pA_spec h
    rcases hf with hf | hf
    · exact absurd hf.1 (by rw [show r1 = 1000 from h0]; omega)
    · exact (tr_oinit hd hf.2 h2 h3).x h
  case invokestatic idx =>
    obtain ⟨e, hf⟩ := hq; cases e
    dsimp only [stp] at h
    by_cases hr : r1 = 1003
    · rw [if_pos hr] at h
      obtain ⟨x, S, rfl, h2, h3, k1⟩ := pL_spec h
      rcases hf with hf | hf | hf
      · exact absurd (show r1 < 1000 from hf.1) (by omega)
      · exact (hf.2 d pc L S M x hd h2 h3).x k1
      · rcases hf with hf | hf
        · exact absurd (show r1 = 1001 from hf.1) (by omega)
        · exact absurd (show r1 = 1002 from hf.1) (by omega)
    · rw [if_neg hr] at h
      obtain ⟨y, S, rfl, k1⟩ := pI_spec h
      obtain ⟨x, S, rfl, h2, h3, k2⟩ := pI_spec k1
      rcases hf with hf | hf | hf
      · exact absurd hf.1 (hgt ⟨_, rfl⟩)
      · exact absurd hf.1 hr
      · exact (tr_mm hd hf h2 h3).x k2
  case invokevirtual idx =>
    obtain ⟨e, hf⟩ := hq; cases e
    dsimp only [stp] at h
    obtain ⟨a, S, rfl, k1⟩ := pA_spec h
    obtain ⟨t, n, h1, h0, ht, h2, h3, k2⟩ := shA_spec k1
    subst ht
    rcases hf with hf | hf
    · exact absurd (show r1 < 1000 from hf.1) (by rw [show r1 = 1005 from h0]; omega)
    · exact (tr_clone hd hf.2 h1 h2 h3).x k2
  case ldc idx => obtain ⟨e, hw⟩ := hq; cases e; exact (tr_ldc hd hw).x h
  case ldc2_w idx => obtain ⟨e, hw⟩ := hq; cases e; exact (tr_ldc2 hd hw).x h
  all_goals exact h.elim
theorem rt_of {j rk : Nat} {pc : Nat} {L : List (Option mL)} {S : List mV} {K : mK} {r : Option mV} {M : Mm} (h : rtK rk pc L S K r M) : ∃ S', K pc L S' M ∧ S' = r.toList ++ S := by
  unfold rtK at h
  split at h
  · obtain ⟨rfl, h⟩ := h; exact ⟨_, h, rfl⟩
  · obtain ⟨x, rfl, h⟩ := h; exact ⟨_, h, rfl⟩
  · obtain ⟨x, rfl, h⟩ := h; exact ⟨_, h, rfl⟩
/-- the rule of calls, and of all else -/
theorem stx_X {d i pc : Nat} {q : mI} {L : List (Option mL)} {S : List mV} {M : Mm} {Q : mQ} (hq : COK i pc q) (h : stx q d pc L S M Q (fun pc' L' S' M' => X d i pc' L' S' M' Q) (fun j as M' k => ∃ d', d = d' + 1 ∧ X d' j 0 (enL (mX j) as) [] M' k)) : X d i pc L S M Q := by
  obtain ⟨ins, n, r1, r2, r3⟩ := q
  cases ins
  case ireturn =>
    obtain ⟨hd, e, hr⟩ := hq
    cases e
    obtain ⟨x, S, rfl, h1, h2, k1⟩ := pI_spec h
    subst h1
    refine ⟨_, M, k1, Nat.le_refl _, Nat.le_refl _, pc, ⟨hd, ?_⟩, ?_⟩
    · rcases hr with ⟨h3, h4⟩ | ⟨h3, h4⟩
      · exact Or.inl h3
      · refine Or.inr ⟨h3, h2.resolve_left ?_⟩
        show ¬ r1 = 0
        rw [show r1 = 1 from h4]; omega
    · intro D dA lo p l e R s m args below meth c Qf H ls locs cells slots C hL hR hS hc hs k
      have := k H ls locs hR hS
      rw [Nat.sub_self, Nat.sub_self] at this
      exact this
  case areturn =>
    obtain ⟨hd, e, hr⟩ := hq
    cases e
    obtain ⟨x, S, rfl, h1, k1⟩ := pR_spec h
    subst h1
    refine ⟨_, M, k1, Nat.le_refl _, Nat.le_refl _, pc, ⟨hd, hr⟩, ?_⟩
    intro D dA lo p l e R s m args below meth c Qf H ls locs cells slots C hL hR hS hc hs k
    have := k H ls locs hR hS
    rw [Nat.sub_self, Nat.sub_self] at this
    exact this
  case return_ =>
    obtain ⟨hd, e, hr⟩ := hq
    cases e
    obtain ⟨h1, k1⟩ := h
    subst h1
    refine ⟨_, M, k1, Nat.le_refl _, Nat.le_refl _, pc, ⟨hd, hr⟩, ?_⟩
    intro D dA lo p l e R s m args below meth c Qf H ls locs cells slots C hL hR hS hc hs k
    have := k H ls locs hR hS
    rw [Nat.sub_self, Nat.sub_self] at this
    exact this
  case invokestatic idx =>
    by_cases hr1 : r1 < 1000
    · obtain ⟨hd, e, hf⟩ := hq
      cases e
      dsimp only [stx] at h
      rw [if_pos hr1] at h
      obtain ⟨as, S', hn, rfl, h8, d', rfl, r, M1, hk, hrun⟩ := pAs_spec _ _ _ h
      obtain ⟨S2, h9, rfl⟩ := rt_of (j := 0) hk
      rcases hf with ⟨-, f1, f2, f3, f4⟩ | hf
      · exact (tr_callS hd f1 f2 f3 hn (by rw [hn]; exact f4) h8 hrun).x h9
      · rcases hf with hf | hf | hf
        · exact absurd hr1 (by rw [show r1 = 1003 from hf.1]; omega)
        · exact absurd hr1 (by rw [show r1 = 1001 from hf.1]; omega)
        · exact absurd hr1 (by rw [show r1 = 1002 from hf.1]; omega)
    · dsimp only [stx] at h
      rw [if_neg hr1] at h
      exact stp_X hq (fun _ => hr1) h
  case invokespecial idx =>
    by_cases hr1 : r1 < 1000
    · obtain ⟨hd, e, hf⟩ := hq
      cases e
      dsimp only [stx] at h
      rw [if_pos hr1] at h
      obtain ⟨as, S', hn, rfl, k1⟩ := pAs_spec _ _ _ h
      obtain ⟨a, S', rfl, h8, d', rfl, r, M1, hk, hrun⟩ := pA_spec k1
      obtain ⟨S2, h9, rfl⟩ := rt_of (j := 0) hk
      rcases hf with ⟨-, f1, f2, f3, f4, f5, f6⟩ | hf
      · exact (tr_callI hd f1 f2 f3 f4 f5 hn (by rw [hn]; exact f6) h8 hrun).x h9
      · exact absurd hr1 (by rw [show r1 = 1000 from hf.1]; omega)
    · dsimp only [stx] at h
      rw [if_neg hr1] at h
      exact stp_X hq (fun _ => hr1) h
  case invokevirtual idx =>
    by_cases hr1 : r1 < 1000
    · obtain ⟨hd, e, hf⟩ := hq
      cases e
      dsimp only [stx] at h
      rw [if_pos hr1] at h
      obtain ⟨as, S', hn, rfl, k1⟩ := pAs_spec _ _ _ h
      obtain ⟨a, S', rfl, ha, h8, d', rfl, r, M1, hk, hrun⟩ := pA_spec k1
      obtain ⟨S2, h9, rfl⟩ := rt_of (j := 0) hk
      rcases hf with ⟨-, f1, f2, f3, f4, f5, f6⟩ | hf
      · exact (tr_callV hd f1 f2 f3 f4 f5 hn (by rw [hn]; exact f6) h8 ha hrun).x h9
      · exact absurd hr1 (by rw [show r1 = 1005 from hf.1]; omega)
    · dsimp only [stx] at h
      rw [if_neg hr1] at h
      exact stp_X hq (fun _ => hr1) h
  all_goals exact stp_X hq (fun ⟨_, e⟩ => by cases e) h
