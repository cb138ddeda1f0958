/-! the reference: needsChunk -/
theorem Dm.rf {r w : Nat} {M M' : Mm} (h : Dm r w M M') : Rf r (fun y => y = r + 12 ∨ y = r + 13) [] M M' := ⟨h.1.mono (fun _ q => Or.inr q), fun j _ => h.1.at_ (by omega) j⟩
def nmT (W : List Wm) (f : Nat) (l : List Nat) : Prop := ∀ n, n ∈ l → ∃ v, v ∈ W.take f ∧ v.n = n
theorem nmT_len {W : List Wm} {f : Nat} {l : List Nat} (h : nmT W f l) (nd : l.Nodup) : l.length ≤ f := by
  have : l ⊆ (W.take f).map Wm.n := fun n hn => by
    obtain ⟨v, hv, e⟩ := h n hn
    exact List.mem_map.mpr ⟨v, hv, e⟩
  have := nd.length_le_of_subset this
  rw [List.length_map, List.length_take] at this
  omega
theorem take_s {W : List Wm} {i : Nat} {x : Wm} (h : W[i]? = some x) : W.take (i + 1) = W.take i ++ [x] := by rw [List.take_add_one, h]; rfl
theorem e142 {d : Nat} {M : Mm} {k : mQ} {r w p f md : Nat} {l : List Nat} {W : List Wm} {dk : Nat → Nat → Nat} (h : RD2 M r dk W md) (hf : M.it r 38 = nI f) (hfl : f ≤ W.length) (hf2 : f < 160) (dc : DepC M r w l) (nd : l.Nodup) (hsub : nmT W f l) (hw : w < 160) (hp : p < 128) (hk : ∀ M' l', DepC M' r w l' → l'.Nodup → nmT W f l' → (∀ n, n ∈ l' ↔ n ∈ l ∨ ∃ v, v ∈ W.take f ∧ v.n = n ∧ p ≤ v.t ∧ v.t < p + nbS (vw dk W) p) → Dm r w M M' → k none M') : XC (d + 4) 142 [.inr (some r), .inl (nI w), .inl (nI p)] M k := by
  have hv : vw dk W p 3 < 256 := vw_bt h.2.2.2.2.2.2 (fun x hx => (h.2.2.2.2.2.1.2 x hx).2.2.1) (fun x hx tx => by
    cases hr : x.r with
    | none => rfl
    | some q => have := (h.2.2.2.2.2.1.2 x hx).2.2.2 q hr; omega) 3
  have hn : nbS (vw dk W) p ≤ 17 := by unfold nbS; omega
  have hs := h.1
  refine xc ?_
  show X (d + 3) 142 0 [some (.inr (some r)), some (.inl (nI w)), some (.inl (nI p)), none, none] [] M k
  have lop : ∀ (m i : Nat) (M1 : Mm) (l1 : List Nat), i + m = f → DepC M1 r w l1 → l1.Nodup → nmT W f l1 → (∀ n, n ∈ l1 ↔ n ∈ l ∨ ∃ v, v ∈ W.take i ∧ v.n = n ∧ p ≤ v.t ∧ v.t < p + nbS (vw dk W) p) → Dm r w M M1 → X (d + 3) 142 12 [some (.inr (some r)), some (.inl (nI w)), some (.inl (nI p)), some (.inl (nI (nbS (vw dk W) p))), some (.inl (nI i))] [] M1 k := by
    intro m
    induction m with
    | zero =>
      intro i M1 l1 hi d1 n1 s1 m1 o1
      have e : i = f := by omega
      subst e
      have hs1 := hs.oi o1.1
      have f38 : M1.it r 38 = nI i := by rw [o1.rf.2 38 (by simp)]; exact hf
      refine vc_X 20 _ _ _ _ _ _ _ ?_
      simp only [↓v142_0, ↓v142_1, ↓v142_2, ↓v142_5, ↓v142_8, ↓v142_9, ↓v142_10, ↓v142_12, ↓v142_14, ↓v142_15, ↓v142_18, ↓v142_21, ↓v142_22, ↓v142_25, ↓v142_27, ↓v142_28, ↓v142_29, ↓v142_32, ↓v142_33, ↓v142_36, ↓v142_38, ↓v142_39, ↓v142_40, ↓v142_41, ↓v142_42, ↓v142_45, ↓v142_46, ↓v142_47, ↓v142_48, ↓v142_51, ↓v142_53, ↓v142_54, ↓v142_57, ↓v142_60, ↓v142_63, ↓qI_c, ↓qL_c, ↓qR_c, ↓pA_o, ↓qC_i, ↓qC_r, ↓oA_s, ↓gI_0, ↓gI_1, ↓gI_2, ↓gI_3, ↓gI_4, ↓gI_5, ↓gI_6, ↓gI_7, ↓gI_8, ↓gI_9, ↓gI_10, ↓gR_0, ↓gR_1, ↓gR_2, ↓gR_3, ↓gR_4, ↓gR_5, ↓gR_6, ↓gR_7, ↓gR_8, ↓gR_9, ↓gR_10, ↓sL_0, ↓sL_1, ↓sL_2, ↓sL_3, ↓sL_4, ↓sL_5, ↓sL_6, ↓sL_7, ↓sL_8, ↓sL_9, ↓sL_10, ↓rrf_si, ↓rrf_sg, ↓shO_si, ↓shO_sg, ↓shO_sr, ↓shA_si, ↓shA_sg, ↓shA_sr, ↓pAs_0, ↓pAs_i, ↓pAs_r, stk_n, stk_i, stk_l, stk_r, List.nil_append, List.cons_append, true_and, and_true, true_or, or_true, Nat.zero_add, dp_s, Nat.reduceAdd, le8_0, le8_1, le8_2, le8_3, le8_4, le8_5, le8_6, le8_7, le8_8, Classical.not_not, aT40, aT41, aT42, aT44, aT54, aT58, aT59, rT54, rT58, rT59, reduceIte, Nat.reduceEqDiff, qn_42, qn_44, true_implies, not_true_eq_false, not_false_eq_true, false_implies, ↓shO_of hs1.1.1, f38, le_T, nT (show i < 2147483648 by omega), Int.le_refl]
      exact hk M1 l1 d1 n1 s1 m1 o1
    | succ m ih =>
      intro i M1 l1 hi d1 n1 s1 m1 o1
      have hs1 := hs.oi o1.1
      have f38 : M1.it r 38 = nI f := by rw [o1.rf.2 38 (by simp)]; exact hf
      have hx : W[i]? = some W[i] := List.getElem?_eq_getElem (by omega)
      have hm := List.mem_of_getElem? hx
      obtain ⟨⟨w1, w2, w3, w4⟩, -, -, -⟩ := h.2.1 i _ hx
      have g10 : M1.it (r + 10) i = nI W[i].n := by rw [o1.1.at_ (by omega)]; exact w1
      have g11 : M1.it (r + 11) i = nI W[i].t := by rw [o1.1.at_ (by omega)]; exact w2
      have hin : W[i] ∈ W.take f := List.mem_of_getElem? (i := i) (by rw [List.getElem?_take, if_pos (by omega)]; exact hx)
      have hlen := nmT_len s1 n1
      have e2 : nI p + nI (nbS (vw dk W) p) = nI (p + nbS (vw dk W) p) := nI_add _ _
      refine vc_X 40 _ _ _ _ _ _ _ ?_
      simp only [↓v142_0, ↓v142_1, ↓v142_2, ↓v142_5, ↓v142_8, ↓v142_9, ↓v142_10, ↓v142_12, ↓v142_14, ↓v142_15, ↓v142_18, ↓v142_21, ↓v142_22, ↓v142_25, ↓v142_27, ↓v142_28, ↓v142_29, ↓v142_32, ↓v142_33, ↓v142_36, ↓v142_38, ↓v142_39, ↓v142_40, ↓v142_41, ↓v142_42, ↓v142_45, ↓v142_46, ↓v142_47, ↓v142_48, ↓v142_51, ↓v142_53, ↓v142_54, ↓v142_57, ↓v142_60, ↓v142_63, ↓qI_c, ↓qL_c, ↓qR_c, ↓pA_o, ↓qC_i, ↓qC_r, ↓oA_s, ↓gI_0, ↓gI_1, ↓gI_2, ↓gI_3, ↓gI_4, ↓gI_5, ↓gI_6, ↓gI_7, ↓gI_8, ↓gI_9, ↓gI_10, ↓gR_0, ↓gR_1, ↓gR_2, ↓gR_3, ↓gR_4, ↓gR_5, ↓gR_6, ↓gR_7, ↓gR_8, ↓gR_9, ↓gR_10, ↓sL_0, ↓sL_1, ↓sL_2, ↓sL_3, ↓sL_4, ↓sL_5, ↓sL_6, ↓sL_7, ↓sL_8, ↓sL_9, ↓sL_10, ↓rrf_si, ↓rrf_sg, ↓shO_si, ↓shO_sg, ↓shO_sr, ↓shA_si, ↓shA_sg, ↓shA_sr, ↓pAs_0, ↓pAs_i, ↓pAs_r, stk_n, stk_i, stk_l, stk_r, List.nil_append, List.cons_append, true_and, and_true, true_or, or_true, Nat.zero_add, dp_s, Nat.reduceAdd, le8_0, le8_1, le8_2, le8_3, le8_4, le8_5, le8_6, le8_7, le8_8, Classical.not_not, aT40, aT41, aT42, aT44, aT54, aT58, aT59, rT54, rT58, rT59, reduceIte, Nat.reduceEqDiff, qn_42, qn_44, true_implies, not_true_eq_false, not_false_eq_true, false_implies, ↓shO_of hs1.1.1, f38, le_T, lt_T, nT (show i < 2147483648 by omega), nT (show f < 2147483648 by omega), ↓rrf_of hs1.2.1.2.2.2.2.1, ↓shA_of hs1.2.2.2.2.1.2.2.1, nC (show i < 2147483648 by omega), g11, nT (show W[i].t < 2147483648 by omega), nT (show p < 2147483648 by omega), e2, nT (show p + nbS (vw dk W) p < 2147483648 by omega), ↓rrf_of hs1.2.1.2.2.2.1, ↓shA_of hs1.2.2.2.2.1.2.1, g10, nI_1]
      have no : ¬ (p ≤ W[i].t ∧ W[i].t < p + nbS (vw dk W) p) → X (d + 3) 142 57 [some (.inr (some r)), some (.inl (nI w)), some (.inl (nI p)), some (.inl (nI (nbS (vw dk W) p))), some (.inl (nI i))] [] M1 k := by
        intro c
        refine vc_X 20 _ _ _ _ _ _ _ ?_
        simp only [↓v142_0, ↓v142_1, ↓v142_2, ↓v142_5, ↓v142_8, ↓v142_9, ↓v142_10, ↓v142_12, ↓v142_14, ↓v142_15, ↓v142_18, ↓v142_21, ↓v142_22, ↓v142_25, ↓v142_27, ↓v142_28, ↓v142_29, ↓v142_32, ↓v142_33, ↓v142_36, ↓v142_38, ↓v142_39, ↓v142_40, ↓v142_41, ↓v142_42, ↓v142_45, ↓v142_46, ↓v142_47, ↓v142_48, ↓v142_51, ↓v142_53, ↓v142_54, ↓v142_57, ↓v142_60, ↓v142_63, ↓qI_c, ↓qL_c, ↓qR_c, ↓pA_o, ↓qC_i, ↓qC_r, ↓oA_s, ↓gI_0, ↓gI_1, ↓gI_2, ↓gI_3, ↓gI_4, ↓gI_5, ↓gI_6, ↓gI_7, ↓gI_8, ↓gI_9, ↓gI_10, ↓gR_0, ↓gR_1, ↓gR_2, ↓gR_3, ↓gR_4, ↓gR_5, ↓gR_6, ↓gR_7, ↓gR_8, ↓gR_9, ↓gR_10, ↓sL_0, ↓sL_1, ↓sL_2, ↓sL_3, ↓sL_4, ↓sL_5, ↓sL_6, ↓sL_7, ↓sL_8, ↓sL_9, ↓sL_10, ↓rrf_si, ↓rrf_sg, ↓shO_si, ↓shO_sg, ↓shO_sr, ↓shA_si, ↓shA_sg, ↓shA_sr, ↓pAs_0, ↓pAs_i, ↓pAs_r, stk_n, stk_i, stk_l, stk_r, List.nil_append, List.cons_append, true_and, and_true, true_or, or_true, Nat.zero_add, dp_s, Nat.reduceAdd, le8_0, le8_1, le8_2, le8_3, le8_4, le8_5, le8_6, le8_7, le8_8, Classical.not_not, aT40, aT41, aT42, aT44, aT54, aT58, aT59, rT54, rT58, rT59, reduceIte, Nat.reduceEqDiff, qn_42, qn_44, true_implies, not_true_eq_false, not_false_eq_true, false_implies, nI_1]
        refine ih (i + 1) M1 l1 (by omega) d1 n1 s1 (fun n => ?_) o1
        rw [m1 n, take_s hx]
        refine or_congr Iff.rfl ⟨fun ⟨v, hv, z⟩ => ⟨v, List.mem_append_left _ hv, z⟩, fun ⟨v, hv, z⟩ => ?_⟩
        rcases List.mem_append.mp hv with hv | hv
        · exact ⟨v, hv, z⟩
        · rw [List.mem_singleton] at hv
          rw [hv] at z
          exact (c z.2).elim
      have i160 : inB (nI i) 160 := inB_n (by omega) (by omega)
      refine ⟨fun c => by omega, fun _ => ⟨i160, fun c => no (by omega), fun c => ⟨i160, fun c2 => no (by omega), fun c2 => ⟨i160, ?_⟩⟩⟩⟩
      refine e126 hs1 d1 hw w3 (by omega) (fun M2 d2 o2 => ⟨rfl, ?_⟩)
      refine vc_X 20 _ _ _ _ _ _ _ ?_
      simp only [↓v142_0, ↓v142_1, ↓v142_2, ↓v142_5, ↓v142_8, ↓v142_9, ↓v142_10, ↓v142_12, ↓v142_14, ↓v142_15, ↓v142_18, ↓v142_21, ↓v142_22, ↓v142_25, ↓v142_27, ↓v142_28, ↓v142_29, ↓v142_32, ↓v142_33, ↓v142_36, ↓v142_38, ↓v142_39, ↓v142_40, ↓v142_41, ↓v142_42, ↓v142_45, ↓v142_46, ↓v142_47, ↓v142_48, ↓v142_51, ↓v142_53, ↓v142_54, ↓v142_57, ↓v142_60, ↓v142_63, ↓qI_c, ↓qL_c, ↓qR_c, ↓pA_o, ↓qC_i, ↓qC_r, ↓oA_s, ↓gI_0, ↓gI_1, ↓gI_2, ↓gI_3, ↓gI_4, ↓gI_5, ↓gI_6, ↓gI_7, ↓gI_8, ↓gI_9, ↓gI_10, ↓gR_0, ↓gR_1, ↓gR_2, ↓gR_3, ↓gR_4, ↓gR_5, ↓gR_6, ↓gR_7, ↓gR_8, ↓gR_9, ↓gR_10, ↓sL_0, ↓sL_1, ↓sL_2, ↓sL_3, ↓sL_4, ↓sL_5, ↓sL_6, ↓sL_7, ↓sL_8, ↓sL_9, ↓sL_10, ↓rrf_si, ↓rrf_sg, ↓shO_si, ↓shO_sg, ↓shO_sr, ↓shA_si, ↓shA_sg, ↓shA_sr, ↓pAs_0, ↓pAs_i, ↓pAs_r, stk_n, stk_i, stk_l, stk_r, List.nil_append, List.cons_append, true_and, and_true, true_or, or_true, Nat.zero_add, dp_s, Nat.reduceAdd, le8_0, le8_1, le8_2, le8_3, le8_4, le8_5, le8_6, le8_7, le8_8, Classical.not_not, aT40, aT41, aT42, aT44, aT54, aT58, aT59, rT54, rT58, rT59, reduceIte, Nat.reduceEqDiff, qn_42, qn_44, true_implies, not_true_eq_false, not_false_eq_true, false_implies, nI_1]
      refine ih (i + 1) M2 _ (by omega) d2 (addN_nd n1) (fun n hn => ?_) (fun n => ?_) (o1.trans o2)
      · rcases addN_mem.mp hn with hn | hn
        · exact s1 n hn
        · exact ⟨_, hin, hn.symm⟩
      · rw [addN_mem, m1 n, take_s hx, or_assoc]
        refine or_congr Iff.rfl ⟨fun q => ?_, fun ⟨v, hv, z⟩ => ?_⟩
        · rcases q with ⟨v, hv, z⟩ | q
          · exact ⟨v, List.mem_append_left _ hv, z⟩
          · exact ⟨_, List.mem_append_right _ (List.mem_singleton.mpr rfl), q.symm, by omega, by omega⟩
        · rcases List.mem_append.mp hv with hv | hv
          · exact Or.inl ⟨v, hv, z⟩
          · rw [List.mem_singleton] at hv
            rw [hv] at z
            exact Or.inr z.1.symm
  refine vc_X 20 _ _ _ _ _ _ _ ?_
  simp only [↓v142_0, ↓v142_1, ↓v142_2, ↓v142_5, ↓v142_8, ↓v142_9, ↓v142_10, ↓v142_12, ↓v142_14, ↓v142_15, ↓v142_18, ↓v142_21, ↓v142_22, ↓v142_25, ↓v142_27, ↓v142_28, ↓v142_29, ↓v142_32, ↓v142_33, ↓v142_36, ↓v142_38, ↓v142_39, ↓v142_40, ↓v142_41, ↓v142_42, ↓v142_45, ↓v142_46, ↓v142_47, ↓v142_48, ↓v142_51, ↓v142_53, ↓v142_54, ↓v142_57, ↓v142_60, ↓v142_63, ↓qI_c, ↓qL_c, ↓qR_c, ↓pA_o, ↓qC_i, ↓qC_r, ↓oA_s, ↓gI_0, ↓gI_1, ↓gI_2, ↓gI_3, ↓gI_4, ↓gI_5, ↓gI_6, ↓gI_7, ↓gI_8, ↓gI_9, ↓gI_10, ↓gR_0, ↓gR_1, ↓gR_2, ↓gR_3, ↓gR_4, ↓gR_5, ↓gR_6, ↓gR_7, ↓gR_8, ↓gR_9, ↓gR_10, ↓sL_0, ↓sL_1, ↓sL_2, ↓sL_3, ↓sL_4, ↓sL_5, ↓sL_6, ↓sL_7, ↓sL_8, ↓sL_9, ↓sL_10, ↓rrf_si, ↓rrf_sg, ↓shO_si, ↓shO_sg, ↓shO_sr, ↓shA_si, ↓shA_sg, ↓shA_sr, ↓pAs_0, ↓pAs_i, ↓pAs_r, stk_n, stk_i, stk_l, stk_r, List.nil_append, List.cons_append, true_and, and_true, true_or, or_true, Nat.zero_add, dp_s, Nat.reduceAdd, le8_0, le8_1, le8_2, le8_3, le8_4, le8_5, le8_6, le8_7, le8_8, Classical.not_not, aT40, aT41, aT42, aT44, aT54, aT58, aT59, rT54, rT58, rT59, reduceIte, Nat.reduceEqDiff, qn_42, qn_44, true_implies, not_true_eq_false, not_false_eq_true, false_implies, ↓shO_of hs.1.1]
  refine e131 h hp ⟨_, rfl, ?_⟩
  refine vc_X 20 _ _ _ _ _ _ _ ?_
  simp only [↓v142_0, ↓v142_1, ↓v142_2, ↓v142_5, ↓v142_8, ↓v142_9, ↓v142_10, ↓v142_12, ↓v142_14, ↓v142_15, ↓v142_18, ↓v142_21, ↓v142_22, ↓v142_25, ↓v142_27, ↓v142_28, ↓v142_29, ↓v142_32, ↓v142_33, ↓v142_36, ↓v142_38, ↓v142_39, ↓v142_40, ↓v142_41, ↓v142_42, ↓v142_45, ↓v142_46, ↓v142_47, ↓v142_48, ↓v142_51, ↓v142_53, ↓v142_54, ↓v142_57, ↓v142_60, ↓v142_63, ↓qI_c, ↓qL_c, ↓qR_c, ↓pA_o, ↓qC_i, ↓qC_r, ↓oA_s, ↓gI_0, ↓gI_1, ↓gI_2, ↓gI_3, ↓gI_4, ↓gI_5, ↓gI_6, ↓gI_7, ↓gI_8, ↓gI_9, ↓gI_10, ↓gR_0, ↓gR_1, ↓gR_2, ↓gR_3, ↓gR_4, ↓gR_5, ↓gR_6, ↓gR_7, ↓gR_8, ↓gR_9, ↓gR_10, ↓sL_0, ↓sL_1, ↓sL_2, ↓sL_3, ↓sL_4, ↓sL_5, ↓sL_6, ↓sL_7, ↓sL_8, ↓sL_9, ↓sL_10, ↓rrf_si, ↓rrf_sg, ↓shO_si, ↓shO_sg, ↓shO_sr, ↓shA_si, ↓shA_sg, ↓shA_sr, ↓pAs_0, ↓pAs_i, ↓pAs_r, stk_n, stk_i, stk_l, stk_r, List.nil_append, List.cons_append, true_and, and_true, true_or, or_true, Nat.zero_add, dp_s, Nat.reduceAdd, le8_0, le8_1, le8_2, le8_3, le8_4, le8_5, le8_6, le8_7, le8_8, Classical.not_not, aT40, aT41, aT42, aT44, aT54, aT58, aT59, rT54, rT58, rT59, reduceIte, Nat.reduceEqDiff, qn_42, qn_44, true_implies, not_true_eq_false, not_false_eq_true, false_implies]
  refine e122 (by unfold lnS; omega) ⟨_, rfl, ?_⟩
  refine vc_X 20 _ _ _ _ _ _ _ ?_
  simp only [↓v142_0, ↓v142_1, ↓v142_2, ↓v142_5, ↓v142_8, ↓v142_9, ↓v142_10, ↓v142_12, ↓v142_14, ↓v142_15, ↓v142_18, ↓v142_21, ↓v142_22, ↓v142_25, ↓v142_27, ↓v142_28, ↓v142_29, ↓v142_32, ↓v142_33, ↓v142_36, ↓v142_38, ↓v142_39, ↓v142_40, ↓v142_41, ↓v142_42, ↓v142_45, ↓v142_46, ↓v142_47, ↓v142_48, ↓v142_51, ↓v142_53, ↓v142_54, ↓v142_57, ↓v142_60, ↓v142_63, ↓qI_c, ↓qL_c, ↓qR_c, ↓pA_o, ↓qC_i, ↓qC_r, ↓oA_s, ↓gI_0, ↓gI_1, ↓gI_2, ↓gI_3, ↓gI_4, ↓gI_5, ↓gI_6, ↓gI_7, ↓gI_8, ↓gI_9, ↓gI_10, ↓gR_0, ↓gR_1, ↓gR_2, ↓gR_3, ↓gR_4, ↓gR_5, ↓gR_6, ↓gR_7, ↓gR_8, ↓gR_9, ↓gR_10, ↓sL_0, ↓sL_1, ↓sL_2, ↓sL_3, ↓sL_4, ↓sL_5, ↓sL_6, ↓sL_7, ↓sL_8, ↓sL_9, ↓sL_10, ↓rrf_si, ↓rrf_sg, ↓shO_si, ↓shO_sg, ↓shO_sr, ↓shA_si, ↓shA_sg, ↓shA_sr, ↓pAs_0, ↓pAs_i, ↓pAs_r, stk_n, stk_i, stk_l, stk_r, List.nil_append, List.cons_append, true_and, and_true, true_or, or_true, Nat.zero_add, dp_s, Nat.reduceAdd, le8_0, le8_1, le8_2, le8_3, le8_4, le8_5, le8_6, le8_7, le8_8, Classical.not_not, aT40, aT41, aT42, aT44, aT54, aT58, aT59, rT54, rT58, rT59, reduceIte, Nat.reduceEqDiff, qn_42, qn_44, true_implies, not_true_eq_false, not_false_eq_true, false_implies]
  exact lop f 0 M l (by omega) dc nd hsub (fun n => by simp) Dm.rf_
