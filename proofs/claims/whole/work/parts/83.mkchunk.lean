/-! makeChunk -/
def emP (ws : List WT) (o : Option Nat) (i : Nat) : Bool := match ws[i]? with
  | some x => decide (o = some x.2.1)
  | none => false
/-- the place in the queue of the write of that number -/
def nuA (ws : List WT) (o : Option Nat) : Option Nat := fst_ (emP ws o) 0 ws.length
/-- for which seat a write then waits -/
def seB (pm : Nat → Nat) (o : Option Nat) (s : Nat) : Bool := match o with
  | some i => decide (s = pm i)
  | none => false
theorem k54o {d : Nat} {M : Mm} {k : mQ} {q made : Nat} {o : Option Nat} {pm : Nat → Nat} {ws : List WT} (h : QuC M q pm made ws) (ho : ∀ n, o = some n → n < 1000000) (hk : k (some (.inr (.inr (adO q pm (nuA ws o))))) M) : XC (d + 1) 54 [.inr (some q), .inl (oI o)] M k := by
  refine k54 h (emP ws o) (fun i x hx => ?_) hk
  have hb := (h.2.2.2.2.2 i x hx).2.2.2.2.2.2.2.1
  unfold emP
  rw [hx]
  cases o with
  | none =>
    have e : oI none = -1 := rfl
    rw [e, nI_nm (by omega) (by decide)]
    simp
  | some n =>
    have e : oI (some n) = nI n := rfl
    have := ho n rfl
    rw [e, nI_eq (by omega) (by omega)]
    simp
    exact ⟨fun h => h.symm, fun h => h.symm⟩
/-- the write of block bb of a chunk -/
def wrB (pm : Nat → Nat) (made n p : Nat) (ch : List Nat) (em : Option Nat) (bb : Nat) : WT := (pm (n + bb), made + bb, p + bb, none, fun j => nI ((ch[16 * bb + j]?).getD 0), seB pm em)
def wrs (pm : Nat → Nat) (made n p : Nat) (ch : List Nat) (em : Option Nat) (m : Nat) : List WT := (List.range m).map (wrB pm made n p ch em)
theorem wrs_s (pm : Nat → Nat) (made n p : Nat) (ch : List Nat) (em : Option Nat) (m : Nat) : wrs pm made n p ch em (m + 1) = wrs pm made n p ch em m ++ [wrB pm made n p ch em m] := by
  unfold wrs
  rw [List.range_succ, List.map_append]
  rfl
theorem wrs_len (pm : Nat → Nat) (made n p : Nat) (ch : List Nat) (em : Option Nat) (m : Nat) : (wrs pm made n p ch em m).length = m := by simp [wrs]
theorem fst_lt (p : Nat → Bool) {i m e : Nat} (h : fst_ p i m = some e) : e < i + m := (fst_spec p m i e h).2.2
theorem wrs_rec {pm : Nat → Nat} {made n p : Nat} {ch : List Nat} {em : Option Nat} {m k : Nat} {x : WT} (h : (wrs pm made n p ch em m)[k]? = some x) : x.2.2.2.1 = none := by
  unfold wrs at h
  rw [List.getElem?_map] at h
  cases hk : (List.range m)[k]? with
  | none => rw [hk] at h; cases h
  | some b =>
    rw [hk] at h
    cases h
    rfl
/-- makeChunk changes these -/
def PM (b : Nat) : Nat → Prop := fun y => y = b ∨ PQ (b + 7) y ∨ y = b + 251 ∨ y = b + 252 ∨ y = b + 273 ∨ y = b + 274
section
variable {D : DT} {Q : QT} {C : List Nat × Nat} {L : (Nat → Nat) × Option Nat} {I : IT} {T : List Nat × List Nat} {E : (Nat → Option Nat) × (Nat → Bool)} {F : FT}
theorem lop52 {d : Nat} {k : mQ} {b p nb : Nat} {ch : List Nat} {em : Option Nat} {z1 z2 z3 : Option mL} (hch : ∀ v ∈ ch, v < 256) (hl : (ch.length + 15) / 16 = nb) (hp : p + nb ≤ 128) (hn : Q.2.2.length + nb ≤ 120) (hmd : Q.2.1 + nb < 1000000) (hem : ∀ i, em = some i → i < Q.2.2.length) : ∀ (m bb : Nat) (M : Mm) (z7 : Option mL), bb + m = nb → CP M b D (Q.1, Q.2.1 + bb, Q.2.2 ++ wrs Q.1 Q.2.1 Q.2.2.length p ch em bb) C L I T E F → BC M (b + 273) (b + 274) 263 (ch.map nI) → (∀ M', CP M' b D (Q.1, Q.2.1 + nb, Q.2.2 ++ wrs Q.1 Q.2.1 Q.2.2.length p ch em nb) C L I T E F → Of (PQ (b + 7)) M M' → k (some (.inl (nI p))) M') →
    X (d + 2) 52 66 [some (.inr (some b)), z1, z2, z3, some (.inl (nI p)), some (.inr (adO (b + 7) Q.1 em)), some (.inl (nI bb)), z7] [] M k := by
  have hL2 : ∀ (m bb : Nat) (M : Mm), BC M (b + 273) (b + 274) 263 (ch.map nI) → ch.length ≤ 263 := fun _ _ M h => by have := h.2.2.1; rw [List.length_map] at this; exact this
  intro m
  induction m with
  | zero =>
    intro bb M z7 hi h hb hk
    have e : bb = nb := by omega
    subst e
    have hlc := hL2 0 0 M hb
    have e3 : nI bb * 16 = nI (16 * bb) := by rw [n_16, pk_mul]; congr 1; omega
    have x6 : M.it (b + 273) 1 = nI ch.length := by rw [hb.2.1, List.length_map]
    refine vc_X 30 _ _ _ _ _ _ _ ?_
    simp only [↓v52_0, ↓v52_1, ↓v52_4, ↓v52_5, ↓v52_8, ↓v52_11, ↓v52_14, ↓v52_15, ↓v52_18, ↓v52_20, ↓v52_22, ↓v52_23, ↓v52_26, ↓v52_27, ↓v52_28, ↓v52_29, ↓v52_30, ↓v52_31, ↓v52_34, ↓v52_35, ↓v52_36, ↓v52_39, ↓v52_40, ↓v52_41, ↓v52_44, ↓v52_45, ↓v52_48, ↓v52_49, ↓v52_52, ↓v52_54, ↓v52_56, ↓v52_57, ↓v52_58, ↓v52_61, ↓v52_63, ↓v52_64, ↓v52_66, ↓v52_68, ↓v52_70, ↓v52_71, ↓v52_72, ↓v52_75, ↓v52_78, ↓v52_81, ↓v52_82, ↓v52_85, ↓v52_87, ↓v52_89, ↓v52_90, ↓v52_93, ↓v52_95, ↓v52_97, ↓v52_100, ↓v52_102, ↓v52_103, ↓v52_106, ↓v52_108, ↓v52_110, ↓v52_111, ↓v52_114, ↓v52_116, ↓v52_118, ↓v52_121, ↓v52_124, ↓v52_127, ↓v52_129, ↓qI_c, ↓qL_c, ↓qR_c, ↓pA_o, ↓qC_i, ↓qC_r, ↓oA_s, ↓gI_0, ↓gI_1, ↓gI_2, ↓gI_3, ↓gI_4, ↓gI_5, ↓gI_6, ↓gI_7, ↓gI_8, ↓gI_9, ↓gI_10, ↓gR_0, ↓gR_1, ↓gR_2, ↓gR_3, ↓gR_4, ↓gR_5, ↓gR_6, ↓gR_7, ↓gR_8, ↓gR_9, ↓gR_10, ↓sL_0, ↓sL_1, ↓sL_2, ↓sL_3, ↓sL_4, ↓sL_5, ↓sL_6, ↓sL_7, ↓sL_8, ↓sL_9, ↓sL_10, ↓rrf_si, ↓rrf_sg, ↓shO_si, ↓shO_sg, ↓shO_sr, ↓shA_si, ↓shA_sg, ↓shA_sr, ↓pAs_0, ↓pAs_i, ↓pAs_r, stk_n, stk_i, stk_l, stk_r, List.nil_append, List.cons_append, true_and, and_true, true_or, or_true, Nat.zero_add, dp_s, Nat.reduceAdd, le8_0, le8_1, le8_2, le8_3, le8_4, le8_5, le8_6, le8_7, le8_8, Classical.not_not, aT40, aT41, aT42, aT44, aT54, aT58, aT59, rT54, rT58, rT59, reduceIte, Nat.reduceEqDiff, qn_42, qn_44, true_implies, not_true_eq_false, not_false_eq_true, false_implies, e3, ↓shO_of h.1.1.1, ↓rrf_of h.1.2.1.2.2.2.1, ↓shO_of hb.1.1, x6, le_T, nT (show 16 * bb < 2147483648 by omega), nT (show ch.length < 2147483648 by omega)]
    exact ⟨fun _ => hk M h Of.rf_, fun c => by omega⟩
  | succ m ih =>
    intro bb M z7 hi h hb hk
    have hlc := hL2 0 0 M hb
    have e3 : nI bb * 16 = nI (16 * bb) := by rw [n_16, pk_mul]; congr 1; omega
    have x6 : M.it (b + 273) 1 = nI ch.length := by rw [hb.2.1, List.length_map]
    have hq : QuC M (b + 7) Q.1 (Q.2.1 + bb) (Q.2.2 ++ wrs Q.1 Q.2.1 Q.2.2.length p ch em bb) := h.2.2.1.1
    have ql : (Q.2.2 ++ wrs Q.1 Q.2.1 Q.2.2.length p ch em bb).length = Q.2.2.length + bb := by rw [List.length_append, wrs_len]
    refine vc_X 30 _ _ _ _ _ _ _ ?_
    simp only [↓v52_0, ↓v52_1, ↓v52_4, ↓v52_5, ↓v52_8, ↓v52_11, ↓v52_14, ↓v52_15, ↓v52_18, ↓v52_20, ↓v52_22, ↓v52_23, ↓v52_26, ↓v52_27, ↓v52_28, ↓v52_29, ↓v52_30, ↓v52_31, ↓v52_34, ↓v52_35, ↓v52_36, ↓v52_39, ↓v52_40, ↓v52_41, ↓v52_44, ↓v52_45, ↓v52_48, ↓v52_49, ↓v52_52, ↓v52_54, ↓v52_56, ↓v52_57, ↓v52_58, ↓v52_61, ↓v52_63, ↓v52_64, ↓v52_66, ↓v52_68, ↓v52_70, ↓v52_71, ↓v52_72, ↓v52_75, ↓v52_78, ↓v52_81, ↓v52_82, ↓v52_85, ↓v52_87, ↓v52_89, ↓v52_90, ↓v52_93, ↓v52_95, ↓v52_97, ↓v52_100, ↓v52_102, ↓v52_103, ↓v52_106, ↓v52_108, ↓v52_110, ↓v52_111, ↓v52_114, ↓v52_116, ↓v52_118, ↓v52_121, ↓v52_124, ↓v52_127, ↓v52_129, ↓qI_c, ↓qL_c, ↓qR_c, ↓pA_o, ↓qC_i, ↓qC_r, ↓oA_s, ↓gI_0, ↓gI_1, ↓gI_2, ↓gI_3, ↓gI_4, ↓gI_5, ↓gI_6, ↓gI_7, ↓gI_8, ↓gI_9, ↓gI_10, ↓gR_0, ↓gR_1, ↓gR_2, ↓gR_3, ↓gR_4, ↓gR_5, ↓gR_6, ↓gR_7, ↓gR_8, ↓gR_9, ↓gR_10, ↓sL_0, ↓sL_1, ↓sL_2, ↓sL_3, ↓sL_4, ↓sL_5, ↓sL_6, ↓sL_7, ↓sL_8, ↓sL_9, ↓sL_10, ↓rrf_si, ↓rrf_sg, ↓shO_si, ↓shO_sg, ↓shO_sr, ↓shA_si, ↓shA_sg, ↓shA_sr, ↓pAs_0, ↓pAs_i, ↓pAs_r, stk_n, stk_i, stk_l, stk_r, List.nil_append, List.cons_append, true_and, and_true, true_or, or_true, Nat.zero_add, dp_s, Nat.reduceAdd, le8_0, le8_1, le8_2, le8_3, le8_4, le8_5, le8_6, le8_7, le8_8, Classical.not_not, aT40, aT41, aT42, aT44, aT54, aT58, aT59, rT54, rT58, rT59, reduceIte, Nat.reduceEqDiff, qn_42, qn_44, true_implies, not_true_eq_false, not_false_eq_true, false_implies, e3, ↓shO_of h.1.1.1, ↓rrf_of h.1.2.1.2.2.2.1, ↓shO_of hb.1.1, x6, le_T, nT (show 16 * bb < 2147483648 by omega), nT (show ch.length < 2147483648 by omega), ↓rrf_of h.1.1.2.2.1, ↓shO_of hq.1.1, nI_add]
    refine ⟨fun c => by omega, fun _ => ?_⟩
    refine k55 hq (by rw [ql]; omega) (by omega) (show p + bb < 130 by omega) (fun M1 by_ q1 o1 => ⟨_, rfl, ?_⟩)
    rw [ql] at q1 ⊢
    generalize hw : b + 7 + 2 + 2 * Q.1 (Q.2.2.length + bb) = w
    have hpm := (q1.1.2.2.2.1 (Q.2.2.length + bb) (by omega)).2
    have g1 : Ag (fun y => ¬ PQ (b + 7) y) M M1 := o1.ag (fun _ h => h)
    have hz1 : M1.sz = M.sz := o1.2.1
    have hB1 : CpB M1 b := h.1.ag g1 (fun x hx => by unfold PQ; omega) (by omega)
    have b1 : BC M1 (b + 273) (b + 274) 263 (ch.map nI) := hb.ag g1 (by unfold PQ; omega) (by unfold PQ; omega)
    have wx1 := (q1.2.2.2.2.2 (Q.2.2.length + bb) _ (by rw [List.getElem?_append_right (by rw [ql]; omega), ql, Nat.sub_self]; rfl)).2
    rw [hw] at wx1
    refine vc_X 40 _ _ _ _ _ _ _ ?_
    simp only [↓v52_0, ↓v52_1, ↓v52_4, ↓v52_5, ↓v52_8, ↓v52_11, ↓v52_14, ↓v52_15, ↓v52_18, ↓v52_20, ↓v52_22, ↓v52_23, ↓v52_26, ↓v52_27, ↓v52_28, ↓v52_29, ↓v52_30, ↓v52_31, ↓v52_34, ↓v52_35, ↓v52_36, ↓v52_39, ↓v52_40, ↓v52_41, ↓v52_44, ↓v52_45, ↓v52_48, ↓v52_49, ↓v52_52, ↓v52_54, ↓v52_56, ↓v52_57, ↓v52_58, ↓v52_61, ↓v52_63, ↓v52_64, ↓v52_66, ↓v52_68, ↓v52_70, ↓v52_71, ↓v52_72, ↓v52_75, ↓v52_78, ↓v52_81, ↓v52_82, ↓v52_85, ↓v52_87, ↓v52_89, ↓v52_90, ↓v52_93, ↓v52_95, ↓v52_97, ↓v52_100, ↓v52_102, ↓v52_103, ↓v52_106, ↓v52_108, ↓v52_110, ↓v52_111, ↓v52_114, ↓v52_116, ↓v52_118, ↓v52_121, ↓v52_124, ↓v52_127, ↓v52_129, ↓qI_c, ↓qL_c, ↓qR_c, ↓pA_o, ↓qC_i, ↓qC_r, ↓oA_s, ↓gI_0, ↓gI_1, ↓gI_2, ↓gI_3, ↓gI_4, ↓gI_5, ↓gI_6, ↓gI_7, ↓gI_8, ↓gI_9, ↓gI_10, ↓gR_0, ↓gR_1, ↓gR_2, ↓gR_3, ↓gR_4, ↓gR_5, ↓gR_6, ↓gR_7, ↓gR_8, ↓gR_9, ↓gR_10, ↓sL_0, ↓sL_1, ↓sL_2, ↓sL_3, ↓sL_4, ↓sL_5, ↓sL_6, ↓sL_7, ↓sL_8, ↓sL_9, ↓sL_10, ↓rrf_si, ↓rrf_sg, ↓shO_si, ↓shO_sg, ↓shO_sr, ↓shA_si, ↓shA_sg, ↓shA_sr, ↓pAs_0, ↓pAs_i, ↓pAs_r, stk_n, stk_i, stk_l, stk_r, List.nil_append, List.cons_append, true_and, and_true, true_or, or_true, Nat.zero_add, dp_s, Nat.reduceAdd, le8_0, le8_1, le8_2, le8_3, le8_4, le8_5, le8_6, le8_7, le8_8, Classical.not_not, aT40, aT41, aT42, aT44, aT54, aT58, aT59, rT54, rT58, rT59, reduceIte, Nat.reduceEqDiff, qn_42, qn_44, true_implies, not_true_eq_false, not_false_eq_true, false_implies, sn, ↓shO_of hB1.1.1, ↓rrf_of hB1.2.1.2.2.2.1, e3, ↓shO_of wx1.1.1]
    refine k57 (by omega) (fun v hv => ?_) (by omega) (by omega) wx1.1 b1 (fun M2 f2 o2 => ⟨rfl, ?_⟩)
    · obtain ⟨u, hu, rfl⟩ := List.mem_map.mp hv
      rw [nT (by have := hch u hu; omega)]
      omega
    have o2' : Of (fun y => y = b + 7 + 2 + 2 * Q.1 (Q.2.2.length + bb) ∨ y = b + 7 + 2 + 2 * Q.1 (Q.2.2.length + bb) + 1) M1 M2 := o2.of (fun x hx => by simp at hx; omega)
    have wx2 : WrC M2 w (Q.1 (Q.2.2.length + bb), Q.2.1 + bb, p + bb, none, fun j => nI ((ch[16 * bb + j]?).getD 0), fun _ => false) := by
      obtain ⟨r1, r2, r3, r4, r5, r6, r7⟩ := wx1
      have ow : Of (· = w + 1) M1 M2 := o2.of (fun x hx => by simpa using hx)
      refine ⟨r1.kf ow (by omega), by rw [o2.2.2.2.2.2 w (by simp)]; exact r2, by rw [o2.2.2.2.2.2 w (by simp)]; exact r3, by rw [o2.2.2.2.2.1]; exact r4, fun j hj => ?_, fun s hs => by rw [o2.2.2.2.1]; exact r6 s hs, r7⟩
      rw [f2 j hj]
      unfold blkB
      dsimp only
      rw [List.getElem?_map]
      cases ch[16 * bb + j]? with
      | none => rfl
      | some v => rfl
    have q2 : QuC M2 (b + 7) Q.1 (Q.2.1 + bb + 1) ((Q.2.2 ++ wrs Q.1 Q.2.1 Q.2.2.length p ch em bb) ++ [(Q.1 (Q.2.2.length + bb), Q.2.1 + bb, p + bb, none, fun j => nI ((ch[16 * bb + j]?).getD 0), fun _ => false)]) := by
      have := q1.upd (i := Q.2.2.length + bb) (by rw [List.length_append, ql]; simp) (x' := (Q.1 (Q.2.2.length + bb), Q.2.1 + bb, p + bb, none, fun j => nI ((ch[16 * bb + j]?).getD 0), fun _ => false)) rfl (by rw [hw]; exact wx2) o2'
      rw [← ql, List.set_append_right _ _ (Nat.le_refl _), Nat.sub_self] at this
      rw [ql] at this
      exact this
    have g2 : Ag (fun y => ¬ (y = b + 7 + 2 + 2 * Q.1 (Q.2.2.length + bb) ∨ y = b + 7 + 2 + 2 * Q.1 (Q.2.2.length + bb) + 1)) M1 M2 := o2'.ag (fun _ h => h)
    have step : ∀ M3, WrC M3 w (wrB Q.1 Q.2.1 Q.2.2.length p ch em bb) → Of (· = w) M2 M3 → X (d + 2) 52 121 [some (.inr (some b)), z1, z2, z3, some (.inl (nI p)), some (.inr (adO (b + 7) Q.1 em)), some (.inl (nI bb)), some (.inr (some w))] [] M3 k := by
      intro M3 wx3 o3
      have o3' : Of (fun y => y = b + 7 + 2 + 2 * Q.1 (Q.2.2.length + bb) ∨ y = b + 7 + 2 + 2 * Q.1 (Q.2.2.length + bb) + 1) M2 M3 := o3.mono (fun x hx => Or.inl (by rw [hw]; exact hx))
      have q3 : QuC M3 (b + 7) Q.1 (Q.2.1 + bb + 1) (Q.2.2 ++ wrs Q.1 Q.2.1 Q.2.2.length p ch em (bb + 1)) := by
        have := q2.upd (i := Q.2.2.length + bb) (by rw [List.length_append, ql]; simp) (x' := wrB Q.1 Q.2.1 Q.2.2.length p ch em bb) rfl (by rw [hw]; exact wx3) o3'
        rw [← ql, List.set_append_right _ _ (Nat.le_refl _), Nat.sub_self] at this
        rw [wrs_s, ← List.append_assoc]
        exact this
      have oA : Of (PQ (b + 7)) M M3 := (o1.trans o2' (fun x hx => by unfold PQ; omega)).trans o3' (fun x hx => by unfold PQ; omega)
      have hc3 := h.upQ q3 oA (fun k x a hk ha => by
        by_cases hlt : k < (Q.2.2 ++ wrs Q.1 Q.2.1 Q.2.2.length p ch em bb).length
        · rw [wrs_s, ← List.append_assoc, List.getElem?_append_left hlt] at hk
          exact h.2.2.1.2 k x a hk ha
        · rw [List.getElem?_append_right (by rw [ql] at hlt; omega)] at hk
          rw [wrs_rec hk] at ha
          cases ha)
      refine vc_X 30 _ _ _ _ _ _ _ ?_
      simp only [↓v52_0, ↓v52_1, ↓v52_4, ↓v52_5, ↓v52_8, ↓v52_11, ↓v52_14, ↓v52_15, ↓v52_18, ↓v52_20, ↓v52_22, ↓v52_23, ↓v52_26, ↓v52_27, ↓v52_28, ↓v52_29, ↓v52_30, ↓v52_31, ↓v52_34, ↓v52_35, ↓v52_36, ↓v52_39, ↓v52_40, ↓v52_41, ↓v52_44, ↓v52_45, ↓v52_48, ↓v52_49, ↓v52_52, ↓v52_54, ↓v52_56, ↓v52_57, ↓v52_58, ↓v52_61, ↓v52_63, ↓v52_64, ↓v52_66, ↓v52_68, ↓v52_70, ↓v52_71, ↓v52_72, ↓v52_75, ↓v52_78, ↓v52_81, ↓v52_82, ↓v52_85, ↓v52_87, ↓v52_89, ↓v52_90, ↓v52_93, ↓v52_95, ↓v52_97, ↓v52_100, ↓v52_102, ↓v52_103, ↓v52_106, ↓v52_108, ↓v52_110, ↓v52_111, ↓v52_114, ↓v52_116, ↓v52_118, ↓v52_121, ↓v52_124, ↓v52_127, ↓v52_129, ↓qI_c, ↓qL_c, ↓qR_c, ↓pA_o, ↓qC_i, ↓qC_r, ↓oA_s, ↓gI_0, ↓gI_1, ↓gI_2, ↓gI_3, ↓gI_4, ↓gI_5, ↓gI_6, ↓gI_7, ↓gI_8, ↓gI_9, ↓gI_10, ↓gR_0, ↓gR_1, ↓gR_2, ↓gR_3, ↓gR_4, ↓gR_5, ↓gR_6, ↓gR_7, ↓gR_8, ↓gR_9, ↓gR_10, ↓sL_0, ↓sL_1, ↓sL_2, ↓sL_3, ↓sL_4, ↓sL_5, ↓sL_6, ↓sL_7, ↓sL_8, ↓sL_9, ↓sL_10, ↓rrf_si, ↓rrf_sg, ↓shO_si, ↓shO_sg, ↓shO_sr, ↓shA_si, ↓shA_sg, ↓shA_sr, ↓pAs_0, ↓pAs_i, ↓pAs_r, stk_n, stk_i, stk_l, stk_r, List.nil_append, List.cons_append, true_and, and_true, true_or, or_true, Nat.zero_add, dp_s, Nat.reduceAdd, le8_0, le8_1, le8_2, le8_3, le8_4, le8_5, le8_6, le8_7, le8_8, Classical.not_not, aT40, aT41, aT42, aT44, aT54, aT58, aT59, rT54, rT58, rT59, reduceIte, Nat.reduceEqDiff, qn_42, qn_44, true_implies, not_true_eq_false, not_false_eq_true, false_implies, nI_1]
      exact ih (bb + 1) M3 _ (by omega) hc3 (hb.ag (oA.ag (R := fun y => ¬ PQ (b + 7) y) (fun _ h => h)) (by unfold PQ; omega) (by unfold PQ; omega)) (fun M' h' o' => hk M' h' (oA.trans o' (fun _ x => x)))
    cases hem2 : em with
    | none =>
      rw [hem2] at step
      have e : adO (b + 7) Q.1 none = none := rfl
      rw [e] at step ⊢
      refine vc_X 40 _ _ _ _ _ _ _ ?_
      simp only [↓v52_0, ↓v52_1, ↓v52_4, ↓v52_5, ↓v52_8, ↓v52_11, ↓v52_14, ↓v52_15, ↓v52_18, ↓v52_20, ↓v52_22, ↓v52_23, ↓v52_26, ↓v52_27, ↓v52_28, ↓v52_29, ↓v52_30, ↓v52_31, ↓v52_34, ↓v52_35, ↓v52_36, ↓v52_39, ↓v52_40, ↓v52_41, ↓v52_44, ↓v52_45, ↓v52_48, ↓v52_49, ↓v52_52, ↓v52_54, ↓v52_56, ↓v52_57, ↓v52_58, ↓v52_61, ↓v52_63, ↓v52_64, ↓v52_66, ↓v52_68, ↓v52_70, ↓v52_71, ↓v52_72, ↓v52_75, ↓v52_78, ↓v52_81, ↓v52_82, ↓v52_85, ↓v52_87, ↓v52_89, ↓v52_90, ↓v52_93, ↓v52_95, ↓v52_97, ↓v52_100, ↓v52_102, ↓v52_103, ↓v52_106, ↓v52_108, ↓v52_110, ↓v52_111, ↓v52_114, ↓v52_116, ↓v52_118, ↓v52_121, ↓v52_124, ↓v52_127, ↓v52_129, ↓qI_c, ↓qL_c, ↓qR_c, ↓pA_o, ↓qC_i, ↓qC_r, ↓oA_s, ↓gI_0, ↓gI_1, ↓gI_2, ↓gI_3, ↓gI_4, ↓gI_5, ↓gI_6, ↓gI_7, ↓gI_8, ↓gI_9, ↓gI_10, ↓gR_0, ↓gR_1, ↓gR_2, ↓gR_3, ↓gR_4, ↓gR_5, ↓gR_6, ↓gR_7, ↓gR_8, ↓gR_9, ↓gR_10, ↓sL_0, ↓sL_1, ↓sL_2, ↓sL_3, ↓sL_4, ↓sL_5, ↓sL_6, ↓sL_7, ↓sL_8, ↓sL_9, ↓sL_10, ↓rrf_si, ↓rrf_sg, ↓shO_si, ↓shO_sg, ↓shO_sr, ↓shA_si, ↓shA_sg, ↓shA_sr, ↓pAs_0, ↓pAs_i, ↓pAs_r, stk_n, stk_i, stk_l, stk_r, List.nil_append, List.cons_append, true_and, and_true, true_or, or_true, Nat.zero_add, dp_s, Nat.reduceAdd, le8_0, le8_1, le8_2, le8_3, le8_4, le8_5, le8_6, le8_7, le8_8, Classical.not_not, aT40, aT41, aT42, aT44, aT54, aT58, aT59, rT54, rT58, rT59, reduceIte, Nat.reduceEqDiff, qn_42, qn_44, true_implies, not_true_eq_false, not_false_eq_true, false_implies, ↓shO_of wx2.1.1]
      refine k58n ⟨rfl, ?_⟩
      exact step M2 wx2 Of.rf_
    | some i =>
      rw [hem2] at step
      have e : adO (b + 7) Q.1 (some i) = some (b + 7 + 2 + 2 * Q.1 i) := rfl
      rw [e] at step ⊢
      have hi2 := hem i hem2
      refine vc_X 40 _ _ _ _ _ _ _ ?_
      simp only [↓v52_0, ↓v52_1, ↓v52_4, ↓v52_5, ↓v52_8, ↓v52_11, ↓v52_14, ↓v52_15, ↓v52_18, ↓v52_20, ↓v52_22, ↓v52_23, ↓v52_26, ↓v52_27, ↓v52_28, ↓v52_29, ↓v52_30, ↓v52_31, ↓v52_34, ↓v52_35, ↓v52_36, ↓v52_39, ↓v52_40, ↓v52_41, ↓v52_44, ↓v52_45, ↓v52_48, ↓v52_49, ↓v52_52, ↓v52_54, ↓v52_56, ↓v52_57, ↓v52_58, ↓v52_61, ↓v52_63, ↓v52_64, ↓v52_66, ↓v52_68, ↓v52_70, ↓v52_71, ↓v52_72, ↓v52_75, ↓v52_78, ↓v52_81, ↓v52_82, ↓v52_85, ↓v52_87, ↓v52_89, ↓v52_90, ↓v52_93, ↓v52_95, ↓v52_97, ↓v52_100, ↓v52_102, ↓v52_103, ↓v52_106, ↓v52_108, ↓v52_110, ↓v52_111, ↓v52_114, ↓v52_116, ↓v52_118, ↓v52_121, ↓v52_124, ↓v52_127, ↓v52_129, ↓qI_c, ↓qL_c, ↓qR_c, ↓pA_o, ↓qC_i, ↓qC_r, ↓oA_s, ↓gI_0, ↓gI_1, ↓gI_2, ↓gI_3, ↓gI_4, ↓gI_5, ↓gI_6, ↓gI_7, ↓gI_8, ↓gI_9, ↓gI_10, ↓gR_0, ↓gR_1, ↓gR_2, ↓gR_3, ↓gR_4, ↓gR_5, ↓gR_6, ↓gR_7, ↓gR_8, ↓gR_9, ↓gR_10, ↓sL_0, ↓sL_1, ↓sL_2, ↓sL_3, ↓sL_4, ↓sL_5, ↓sL_6, ↓sL_7, ↓sL_8, ↓sL_9, ↓sL_10, ↓rrf_si, ↓rrf_sg, ↓shO_si, ↓shO_sg, ↓shO_sr, ↓shA_si, ↓shA_sg, ↓shA_sr, ↓pAs_0, ↓pAs_i, ↓pAs_r, stk_n, stk_i, stk_l, stk_r, List.nil_append, List.cons_append, true_and, and_true, true_or, or_true, Nat.zero_add, dp_s, Nat.reduceAdd, le8_0, le8_1, le8_2, le8_3, le8_4, le8_5, le8_6, le8_7, le8_8, Classical.not_not, aT40, aT41, aT42, aT44, aT54, aT58, aT59, rT54, rT58, rT59, reduceIte, Nat.reduceEqDiff, qn_42, qn_44, true_implies, not_true_eq_false, not_false_eq_true, false_implies, ↓shO_of wx2.1.1]
      refine k58 wx2 (q2.seat (t := Q.1 i) (q2.1.2.2.2.1 i (by omega)).2) (fun M3 wx3 o3 => ⟨rfl, ?_⟩)
      refine step M3 ?_ o3
      have e2 : (fun s => (false || decide (s = Q.1 i))) = seB Q.1 (some i) := by
        funext s
        rw [Bool.false_or]
        rfl
      dsimp only at wx3
      rw [e2] at wx3
      exact wx3
theorem k52 {d : Nat} {M : Mm} {k : mQ} {b kind key l e : Nat} {ct : List Nat} (h : CP M b D Q C L I T E F) (hb : BC M (b + 271) (b + 272) 255 (ct.map nI)) (hct : ∀ v ∈ ct, v < 256) (h1 : kind < 256) (h2 : key < 256) (hst : F.2.2.2.1 + 1 < 1000000) (hl : 1 ≤ l ∧ l < 100) (he : tkE L.1 L.2 ((ct.length + 23) / 16) l = some e) (he2 : e < 8 ∧ L.1 e + (ct.length + 23) / 16 ≤ 16) (hn : Q.2.2.length + (ct.length + 23) / 16 ≤ 120) (hmd : Q.2.1 + (ct.length + 23) / 16 < 1000000)
    (hk : ∀ M', CP M' b D (Q.1, Q.2.1 + (ct.length + 23) / 16, Q.2.2 ++ wrs Q.1 Q.2.1 Q.2.2.length (16 * e + L.1 e) (chL kind key ct F.2.2.2.1) (nuA Q.2.2 (E.1 e)) ((ct.length + 23) / 16)) C (upn L.1 e (L.1 e + (ct.length + 23) / 16), some e) I T E (F.1, F.2.1, F.2.2.1, F.2.2.2.1 + 1, F.2.2.2.2) → Of (PM b) M M' → k (some (.inl (nI (16 * e + L.1 e)))) M') : XC (d + 5) 52 [.inr (some b), .inl (nI kind), .inl (nI key), .inl (nI l)] M k := by
  have hlc := hb.2.2.1
  rw [List.length_map] at hlc
  have x6 : M.it (b + 271) 1 = nI ct.length := by rw [hb.2.1, List.length_map]
  refine xc ?_
  show X (d + 4) 52 0 [some (.inr (some b)), some (.inl (nI kind)), some (.inl (nI key)), some (.inl (nI l)), none, none, none, none] [] M k
  refine vc_X 30 _ _ _ _ _ _ _ ?_
  simp only [↓v52_0, ↓v52_1, ↓v52_4, ↓v52_5, ↓v52_8, ↓v52_11, ↓v52_14, ↓v52_15, ↓v52_18, ↓v52_20, ↓v52_22, ↓v52_23, ↓v52_26, ↓v52_27, ↓v52_28, ↓v52_29, ↓v52_30, ↓v52_31, ↓v52_34, ↓v52_35, ↓v52_36, ↓v52_39, ↓v52_40, ↓v52_41, ↓v52_44, ↓v52_45, ↓v52_48, ↓v52_49, ↓v52_52, ↓v52_54, ↓v52_56, ↓v52_57, ↓v52_58, ↓v52_61, ↓v52_63, ↓v52_64, ↓v52_66, ↓v52_68, ↓v52_70, ↓v52_71, ↓v52_72, ↓v52_75, ↓v52_78, ↓v52_81, ↓v52_82, ↓v52_85, ↓v52_87, ↓v52_89, ↓v52_90, ↓v52_93, ↓v52_95, ↓v52_97, ↓v52_100, ↓v52_102, ↓v52_103, ↓v52_106, ↓v52_108, ↓v52_110, ↓v52_111, ↓v52_114, ↓v52_116, ↓v52_118, ↓v52_121, ↓v52_124, ↓v52_127, ↓v52_129, ↓qI_c, ↓qL_c, ↓qR_c, ↓pA_o, ↓qC_i, ↓qC_r, ↓oA_s, ↓gI_0, ↓gI_1, ↓gI_2, ↓gI_3, ↓gI_4, ↓gI_5, ↓gI_6, ↓gI_7, ↓gI_8, ↓gI_9, ↓gI_10, ↓gR_0, ↓gR_1, ↓gR_2, ↓gR_3, ↓gR_4, ↓gR_5, ↓gR_6, ↓gR_7, ↓gR_8, ↓gR_9, ↓gR_10, ↓sL_0, ↓sL_1, ↓sL_2, ↓sL_3, ↓sL_4, ↓sL_5, ↓sL_6, ↓sL_7, ↓sL_8, ↓sL_9, ↓sL_10, ↓rrf_si, ↓rrf_sg, ↓shO_si, ↓shO_sg, ↓shO_sr, ↓shA_si, ↓shA_sg, ↓shA_sr, ↓pAs_0, ↓pAs_i, ↓pAs_r, stk_n, stk_i, stk_l, stk_r, List.nil_append, List.cons_append, true_and, and_true, true_or, or_true, Nat.zero_add, dp_s, Nat.reduceAdd, le8_0, le8_1, le8_2, le8_3, le8_4, le8_5, le8_6, le8_7, le8_8, Classical.not_not, aT40, aT41, aT42, aT44, aT54, aT58, aT59, rT54, rT58, rT59, reduceIte, Nat.reduceEqDiff, qn_42, qn_44, true_implies, not_true_eq_false, not_false_eq_true, false_implies, ↓shO_of h.1.1.1, ↓rrf_of h.1.1.2.2.2.2.1, ↓rrf_of h.1.2.1.2.2.1, ↓shO_of hb.1.1, x6]
  refine k29 (by omega) ⟨_, rfl, ?_⟩
  have hL := h.2.2.2.2.1
  refine vc_X 30 _ _ _ _ _ _ _ ?_
  simp only [↓v52_0, ↓v52_1, ↓v52_4, ↓v52_5, ↓v52_8, ↓v52_11, ↓v52_14, ↓v52_15, ↓v52_18, ↓v52_20, ↓v52_22, ↓v52_23, ↓v52_26, ↓v52_27, ↓v52_28, ↓v52_29, ↓v52_30, ↓v52_31, ↓v52_34, ↓v52_35, ↓v52_36, ↓v52_39, ↓v52_40, ↓v52_41, ↓v52_44, ↓v52_45, ↓v52_48, ↓v52_49, ↓v52_52, ↓v52_54, ↓v52_56, ↓v52_57, ↓v52_58, ↓v52_61, ↓v52_63, ↓v52_64, ↓v52_66, ↓v52_68, ↓v52_70, ↓v52_71, ↓v52_72, ↓v52_75, ↓v52_78, ↓v52_81, ↓v52_82, ↓v52_85, ↓v52_87, ↓v52_89, ↓v52_90, ↓v52_93, ↓v52_95, ↓v52_97, ↓v52_100, ↓v52_102, ↓v52_103, ↓v52_106, ↓v52_108, ↓v52_110, ↓v52_111, ↓v52_114, ↓v52_116, ↓v52_118, ↓v52_121, ↓v52_124, ↓v52_127, ↓v52_129, ↓qI_c, ↓qL_c, ↓qR_c, ↓pA_o, ↓qC_i, ↓qC_r, ↓oA_s, ↓gI_0, ↓gI_1, ↓gI_2, ↓gI_3, ↓gI_4, ↓gI_5, ↓gI_6, ↓gI_7, ↓gI_8, ↓gI_9, ↓gI_10, ↓gR_0, ↓gR_1, ↓gR_2, ↓gR_3, ↓gR_4, ↓gR_5, ↓gR_6, ↓gR_7, ↓gR_8, ↓gR_9, ↓gR_10, ↓sL_0, ↓sL_1, ↓sL_2, ↓sL_3, ↓sL_4, ↓sL_5, ↓sL_6, ↓sL_7, ↓sL_8, ↓sL_9, ↓sL_10, ↓rrf_si, ↓rrf_sg, ↓shO_si, ↓shO_sg, ↓shO_sr, ↓shA_si, ↓shA_sg, ↓shA_sr, ↓pAs_0, ↓pAs_i, ↓pAs_r, stk_n, stk_i, stk_l, stk_r, List.nil_append, List.cons_append, true_and, and_true, true_or, or_true, Nat.zero_add, dp_s, Nat.reduceAdd, le8_0, le8_1, le8_2, le8_3, le8_4, le8_5, le8_6, le8_7, le8_8, Classical.not_not, aT40, aT41, aT42, aT44, aT54, aT58, aT59, rT54, rT58, rT59, reduceIte, Nat.reduceEqDiff, qn_42, qn_44, true_implies, not_true_eq_false, not_false_eq_true, false_implies, ↓shO_of hL.1.1]
  refine k47 hL (by omega) hl (fun c => by rw [he] at c; cases c) (fun e' M1 he' hL1 o1 => ⟨_, rfl, ?_⟩)
  rw [he] at he'
  cases he'
  have hC1 := h.upL hL1 (o1.of (fun x hx => by simpa using hx))
  have hb1 : BC M1 (b + 271) (b + 272) 255 (ct.map nI) := hb.keep o1 (by simp) (by simp)
  refine vc_X 30 _ _ _ _ _ _ _ ?_
  simp only [↓v52_0, ↓v52_1, ↓v52_4, ↓v52_5, ↓v52_8, ↓v52_11, ↓v52_14, ↓v52_15, ↓v52_18, ↓v52_20, ↓v52_22, ↓v52_23, ↓v52_26, ↓v52_27, ↓v52_28, ↓v52_29, ↓v52_30, ↓v52_31, ↓v52_34, ↓v52_35, ↓v52_36, ↓v52_39, ↓v52_40, ↓v52_41, ↓v52_44, ↓v52_45, ↓v52_48, ↓v52_49, ↓v52_52, ↓v52_54, ↓v52_56, ↓v52_57, ↓v52_58, ↓v52_61, ↓v52_63, ↓v52_64, ↓v52_66, ↓v52_68, ↓v52_70, ↓v52_71, ↓v52_72, ↓v52_75, ↓v52_78, ↓v52_81, ↓v52_82, ↓v52_85, ↓v52_87, ↓v52_89, ↓v52_90, ↓v52_93, ↓v52_95, ↓v52_97, ↓v52_100, ↓v52_102, ↓v52_103, ↓v52_106, ↓v52_108, ↓v52_110, ↓v52_111, ↓v52_114, ↓v52_116, ↓v52_118, ↓v52_121, ↓v52_124, ↓v52_127, ↓v52_129, ↓qI_c, ↓qL_c, ↓qR_c, ↓pA_o, ↓qC_i, ↓qC_r, ↓oA_s, ↓gI_0, ↓gI_1, ↓gI_2, ↓gI_3, ↓gI_4, ↓gI_5, ↓gI_6, ↓gI_7, ↓gI_8, ↓gI_9, ↓gI_10, ↓gR_0, ↓gR_1, ↓gR_2, ↓gR_3, ↓gR_4, ↓gR_5, ↓gR_6, ↓gR_7, ↓gR_8, ↓gR_9, ↓gR_10, ↓sL_0, ↓sL_1, ↓sL_2, ↓sL_3, ↓sL_4, ↓sL_5, ↓sL_6, ↓sL_7, ↓sL_8, ↓sL_9, ↓sL_10, ↓rrf_si, ↓rrf_sg, ↓shO_si, ↓shO_sg, ↓shO_sr, ↓shA_si, ↓shA_sg, ↓shA_sr, ↓pAs_0, ↓pAs_i, ↓pAs_r, stk_n, stk_i, stk_l, stk_r, List.nil_append, List.cons_append, true_and, and_true, true_or, or_true, Nat.zero_add, dp_s, Nat.reduceAdd, le8_0, le8_1, le8_2, le8_3, le8_4, le8_5, le8_6, le8_7, le8_8, Classical.not_not, aT40, aT41, aT42, aT44, aT54, aT58, aT59, rT54, rT58, rT59, reduceIte, Nat.reduceEqDiff, qn_42, qn_44, true_implies, not_true_eq_false, not_false_eq_true, false_implies, nI_nm (show 16 * e + L.1 e < 2147483648 by omega) (show (-1 : Int32).toInt < 0 by decide), ↓shO_of hC1.1.1.1]
  refine k53 hC1.1 hb1 hC1.2.2.2.2.2.2.2.2.2.2.2.1 (by omega) h1 h2 hct (fun M2 hc2 o2 => ⟨rfl, ?_⟩)
  have hC2 := hC1.upZn o2 (by simp [PZ])
  have hF := hC2.2.2.2.2.2.2.2.2
  have c16 : (M2.si b 16 (nI (F.2.2.2.1 + 1))).rf = M2.rf := rfl
  have hC3 : CP (M2.si b 16 (nI (F.2.2.2.1 + 1))) b D Q C (upn L.1 e (L.1 e + (ct.length + 23) / 16), some e) I T E (F.1, F.2.1, F.2.2.1, F.2.2.2.1 + 1, F.2.2.2.2) := by
    have o3 : Of (· = b) M2 (M2.si b 16 (nI (F.2.2.2.1 + 1))) := Of.rf_.i rfl
    refine hC2.upF ?_ rfl o3 (fun j _ => rfl)
    obtain ⟨y1, y2, y3, y4, y5, y6, y7, y8⟩ := hF
    have y2' : PRec b F.2.1 := y2.2.1
    unfold PRec at y2'
    refine ⟨y1, y2.ag (o3.ag (R := fun y => ¬ y = b) (fun _ h => h)) (fun x hx => by omega) (Nat.le_refl _), by rw [si_it, if_neg (by simp)]; exact y3, by rw [si_it, if_pos ⟨rfl, rfl⟩], by rw [si_it, if_neg (by simp)]; exact y5, by rw [si_it, if_neg (by simp)]; exact y6, hst, y8⟩
  have o3 : On [b] M2 (M2.si b 16 (nI (F.2.2.2.1 + 1))) := On.rf_.put (by simp)
  have hc3 : BC (M2.si b 16 (nI (F.2.2.2.1 + 1))) (b + 273) (b + 274) 263 ((chL kind key ct F.2.2.2.1).map nI) := hc2.keep o3 (by simp) (by simp)
  generalize hM3 : M2.si b 16 (nI (F.2.2.2.1 + 1)) = M3 at hC3 hc3 o3
  have s3 := hC3.1.1.1
  have q3 := hC3.2.2.1.1
  have f3 := hC3.2.2.2.2.2.2.2.1
  have e12 := hC3.1.2.2.1.2.2.1
  have r12 := hC3.1.2.1.2.2.2.2.2.2.1
  have d16 : nI (16 * e + L.1 e) / 16 = nI ((16 * e + L.1 e) / 16) := by rw [n_16, pk_div (by omega) (by omega) (by omega)]
  have hle := he2.2
  have hoE : M3.it (b + 277) ((16 * e + L.1 e) / 16) = oI (E.1 e) := by
    have : (16 * e + L.1 e) / 16 = e := by
      have : 0 < (ct.length + 23) / 16 := by omega
      omega
    rw [this]
    exact (f3.1 e he2.1).1
  have i16 : ((16 : Int32) = 0) = False := eq_false (by decide)
  refine vc_X 40 _ _ _ _ _ _ _ ?_
  simp only [↓v52_0, ↓v52_1, ↓v52_4, ↓v52_5, ↓v52_8, ↓v52_11, ↓v52_14, ↓v52_15, ↓v52_18, ↓v52_20, ↓v52_22, ↓v52_23, ↓v52_26, ↓v52_27, ↓v52_28, ↓v52_29, ↓v52_30, ↓v52_31, ↓v52_34, ↓v52_35, ↓v52_36, ↓v52_39, ↓v52_40, ↓v52_41, ↓v52_44, ↓v52_45, ↓v52_48, ↓v52_49, ↓v52_52, ↓v52_54, ↓v52_56, ↓v52_57, ↓v52_58, ↓v52_61, ↓v52_63, ↓v52_64, ↓v52_66, ↓v52_68, ↓v52_70, ↓v52_71, ↓v52_72, ↓v52_75, ↓v52_78, ↓v52_81, ↓v52_82, ↓v52_85, ↓v52_87, ↓v52_89, ↓v52_90, ↓v52_93, ↓v52_95, ↓v52_97, ↓v52_100, ↓v52_102, ↓v52_103, ↓v52_106, ↓v52_108, ↓v52_110, ↓v52_111, ↓v52_114, ↓v52_116, ↓v52_118, ↓v52_121, ↓v52_124, ↓v52_127, ↓v52_129, ↓qI_c, ↓qL_c, ↓qR_c, ↓pA_o, ↓qC_i, ↓qC_r, ↓oA_s, ↓gI_0, ↓gI_1, ↓gI_2, ↓gI_3, ↓gI_4, ↓gI_5, ↓gI_6, ↓gI_7, ↓gI_8, ↓gI_9, ↓gI_10, ↓gR_0, ↓gR_1, ↓gR_2, ↓gR_3, ↓gR_4, ↓gR_5, ↓gR_6, ↓gR_7, ↓gR_8, ↓gR_9, ↓gR_10, ↓sL_0, ↓sL_1, ↓sL_2, ↓sL_3, ↓sL_4, ↓sL_5, ↓sL_6, ↓sL_7, ↓sL_8, ↓sL_9, ↓sL_10, ↓rrf_si, ↓rrf_sg, ↓shO_si, ↓shO_sg, ↓shO_sr, ↓shA_si, ↓shA_sg, ↓shA_sr, ↓pAs_0, ↓pAs_i, ↓pAs_r, stk_n, stk_i, stk_l, stk_r, List.nil_append, List.cons_append, true_and, and_true, true_or, or_true, Nat.zero_add, dp_s, Nat.reduceAdd, le8_0, le8_1, le8_2, le8_3, le8_4, le8_5, le8_6, le8_7, le8_8, Classical.not_not, aT40, aT41, aT42, aT44, aT54, aT58, aT59, rT54, rT58, rT59, reduceIte, Nat.reduceEqDiff, qn_42, qn_44, true_implies, not_true_eq_false, not_false_eq_true, false_implies, ↓shO_of hC2.1.1.1, hF.2.2.2.1, nI_1, hM3, ↓rrf_of hC2.1.1.2.2.1, ↓rrf_of hC2.1.2.1.2.2.2.2.2.2.1, ↓shA_of hC2.1.2.2.1.2.2.1, d16, nC (show (16 * e + L.1 e) / 16 < 2147483648 by omega), hoE, ↓shO_of hC2.2.2.1.1.1.1, i16]
  refine ⟨inB_n (by omega) (by omega), ?_⟩
  refine k54o q3 (f3.1 e he2.1).2 ⟨_, rfl, ?_⟩
  refine vc_X 30 _ _ _ _ _ _ _ ?_
  simp only [↓v52_0, ↓v52_1, ↓v52_4, ↓v52_5, ↓v52_8, ↓v52_11, ↓v52_14, ↓v52_15, ↓v52_18, ↓v52_20, ↓v52_22, ↓v52_23, ↓v52_26, ↓v52_27, ↓v52_28, ↓v52_29, ↓v52_30, ↓v52_31, ↓v52_34, ↓v52_35, ↓v52_36, ↓v52_39, ↓v52_40, ↓v52_41, ↓v52_44, ↓v52_45, ↓v52_48, ↓v52_49, ↓v52_52, ↓v52_54, ↓v52_56, ↓v52_57, ↓v52_58, ↓v52_61, ↓v52_63, ↓v52_64, ↓v52_66, ↓v52_68, ↓v52_70, ↓v52_71, ↓v52_72, ↓v52_75, ↓v52_78, ↓v52_81, ↓v52_82, ↓v52_85, ↓v52_87, ↓v52_89, ↓v52_90, ↓v52_93, ↓v52_95, ↓v52_97, ↓v52_100, ↓v52_102, ↓v52_103, ↓v52_106, ↓v52_108, ↓v52_110, ↓v52_111, ↓v52_114, ↓v52_116, ↓v52_118, ↓v52_121, ↓v52_124, ↓v52_127, ↓v52_129, ↓qI_c, ↓qL_c, ↓qR_c, ↓pA_o, ↓qC_i, ↓qC_r, ↓oA_s, ↓gI_0, ↓gI_1, ↓gI_2, ↓gI_3, ↓gI_4, ↓gI_5, ↓gI_6, ↓gI_7, ↓gI_8, ↓gI_9, ↓gI_10, ↓gR_0, ↓gR_1, ↓gR_2, ↓gR_3, ↓gR_4, ↓gR_5, ↓gR_6, ↓gR_7, ↓gR_8, ↓gR_9, ↓gR_10, ↓sL_0, ↓sL_1, ↓sL_2, ↓sL_3, ↓sL_4, ↓sL_5, ↓sL_6, ↓sL_7, ↓sL_8, ↓sL_9, ↓sL_10, ↓rrf_si, ↓rrf_sg, ↓shO_si, ↓shO_sg, ↓shO_sr, ↓shA_si, ↓shA_sg, ↓shA_sr, ↓pAs_0, ↓pAs_i, ↓pAs_r, stk_n, stk_i, stk_l, stk_r, List.nil_append, List.cons_append, true_and, and_true, true_or, or_true, Nat.zero_add, dp_s, Nat.reduceAdd, le8_0, le8_1, le8_2, le8_3, le8_4, le8_5, le8_6, le8_7, le8_8, Classical.not_not, aT40, aT41, aT42, aT44, aT54, aT58, aT59, rT54, rT58, rT59, reduceIte, Nat.reduceEqDiff, qn_42, qn_44, true_implies, not_true_eq_false, not_false_eq_true, false_implies]
  have hC4 : CP M3 b D (Q.1, Q.2.1 + 0, Q.2.2 ++ wrs Q.1 Q.2.1 Q.2.2.length (16 * e + L.1 e) (chL kind key ct F.2.2.2.1) (nuA Q.2.2 (E.1 e)) 0) C (upn L.1 e (L.1 e + (ct.length + 23) / 16), some e) I T E (F.1, F.2.1, F.2.2.1, F.2.2.2.1 + 1, F.2.2.2.2) := by
    show CP M3 b D (Q.1, Q.2.1, Q.2.2 ++ []) C _ I T E _
    rw [List.append_nil]
    exact hC3
  refine lop52 (Q := Q) (ch := chL kind key ct F.2.2.2.1) (nb := (ct.length + 23) / 16) (chL_lt h1 h2 hct (by omega)) (by rw [chL_len]) (by omega) hn hmd (fun i hi => ?_) ((ct.length + 23) / 16) 0 M3 _ (by omega) hC4 hc3 (fun M' h' o' => ?_)
  · have := fst_lt _ hi
    omega
  · refine hk M' h' ?_
    exact (((o1.of (P := PM b) (fun x hx => by simp at hx; unfold PM; omega)).trans (o2.of (P := PM b) (fun x hx => by simp at hx; unfold PM; omega)) (fun _ x => x)).trans (o3.of (P := PM b) (fun x hx => by simp at hx; unfold PM; omega)) (fun _ x => x)).trans o' (fun x hx => Or.inr (Or.inl hx))
end
