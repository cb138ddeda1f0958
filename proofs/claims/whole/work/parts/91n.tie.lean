/-! the reference: a table's writes wait for the objects' -/
def nwG (md p : Nat) (cl : List Nat) (D : Nat → Nat → Bool) (nb : Nat) : List Wm := (List.range nb).map (fun i => wmk (md + i) (p + i) none (fun j => (cl[16 * i + j]?).getD 0) (D i) [] (fun _ _ => 0))
theorem nwG_M {ws : List Wm} {md p nb : Nat} {cl : List Nat} {o : Option Nat} {f : Nat → Bool} : nwM ws md p cl o f nb = nwG md p cl (fun _ n => emD ws o n || f n) nb := rfl
theorem nwG_len {md p nb : Nat} {cl : List Nat} {D : Nat → Nat → Bool} : (nwG md p cl D nb).length = nb := by unfold nwG; simp
theorem nwG_at {md p nb j : Nat} {cl : List Nat} {D : Nat → Nat → Bool} (hj : j < nb) : (nwG md p cl D nb)[j]? = some (wmk (md + j) (p + j) none (fun i => (cl[16 * j + i]?).getD 0) (D j) [] (fun _ _ => 0)) := by
  unfold nwG
  rw [List.getElem?_map, List.getElem?_range hj]
  rfl
theorem nwG_mem {md p nb : Nat} {cl : List Nat} {D : Nat → Nat → Bool} {y : Wm} (h : y ∈ nwG md p cl D nb) : ∃ i, i < nb ∧ y.n = md + i ∧ y.t = p + i ∧ y.r = none ∧ (y.y = fun j => (cl[16 * i + j]?).getD 0) ∧ y.d = D i := by
  unfold nwG at h
  obtain ⟨i, hi, e⟩ := List.mem_map.mp h
  rw [List.mem_range] at hi
  subst e
  exact ⟨i, hi, rfl, rfl, rfl, rfl, rfl⟩
theorem nwG_bt {dk : Nat → Nat → Nat} {ws : List Wm} {md p nb : Nat} {cl : List Nat} {D : Nat → Nat → Bool} (h : BtI dk ws) (hc : ∀ v, v ∈ cl → v < 256) : BtI dk (ws ++ nwG md p cl D nb) := by
  refine ⟨h.1, fun w hw hr i => ?_⟩
  rcases List.mem_append.mp hw with hw | hw
  · exact h.2 w hw hr i
  · obtain ⟨j, _, _, _, _, h4, _⟩ := nwG_mem hw
    rw [h4]
    show (cl[16 * j + i]?).getD 0 < 256
    cases hg : cl[16 * j + i]? with
    | none => show 0 < 256; omega
    | some v => exact hc v (List.mem_of_getElem? hg)
theorem vw_g {dk : Nat → Nat → Nat} {ws : List Wm} {md p nb : Nat} {cl : List Nat} (D D2 : Nat → Nat → Bool) : vw dk (ws ++ nwG md p cl D nb) = vw dk (ws ++ nwG md p cl D2 nb) := by
  funext b
  rw [vw_app, vw_app]
  unfold nwG
  rw [List.foldl_map, List.foldl_map]
  rfl
theorem nwG_nb {ws : List Wm} {md p nb : Nat} {cl : List Nat} {D : Nat → Nat → Bool} (h : NbI md ws) (hp : p + nb ≤ 128) (hD : ∀ j n, D j n = true → n < md) : NbI (md + nb) (ws ++ nwG md p cl D nb) := by
  refine ⟨List.pairwise_append.mpr ⟨h.1, ?_, fun x hx y hy => ?_⟩, fun x hx => ?_⟩
  · unfold nwG
    refine List.pairwise_map.mpr ?_
    refine List.Pairwise.imp ?_ List.pairwise_lt_range
    intro a b hab
    show md + a < md + b
    omega
  · obtain ⟨i, hi, h1, _⟩ := nwG_mem hy
    have := (h.2 x hx).1
    omega
  · rcases List.mem_append.mp hx with hx | hx
    · have := h.2 x hx
      exact ⟨by omega, this.2⟩
    · obtain ⟨i, hi, h1, h2, h3, h4, h5⟩ := nwG_mem hx
      refine ⟨by omega, fun n hn => ?_, fun _ => by omega, fun q hq => by rw [h3] at hq; cases hq⟩
      rw [h5] at hn
      have := hD i n hn
      omega
theorem RWs.dep {M M' : Mm} {r md p nb b : Nat} {ws : List Wm} {cl l : List Nat} {D D' : Nat → Nat → Bool} (h : RWs M r (ws ++ nwG md p cl D nb)) (hb : b < nb) (dm : Dm r (ws.length + b) M M') (nd : l.Nodup) (hl : ∀ n, n ∈ l ↔ D' b n = true) (dc : DepC M' r (ws.length + b) l) (hD : ∀ j, j ≠ b → D' j = D j) : RWs M' r (ws ++ nwG md p cl D' nb) := by
  intro i w hw
  rcases get_app hw with hw | ⟨h1, hw⟩
  · have hil := (List.getElem?_eq_some_iff.mp hw).1
    exact (h i w (by rw [List.getElem?_append_left hil]; exact hw)).wn (by omega) dm.wn
  · have hjl := (List.getElem?_eq_some_iff.mp hw).1
    rw [nwG_len] at hjl
    rw [nwG_at hjl] at hw
    have hx := h i _ (by rw [List.getElem?_append_right h1]; exact nwG_at hjl)
    by_cases cb : i - ws.length = b
    · have ei : i = ws.length + b := by omega
      subst ei
      rw [cb] at hw hx
      cases hw
      obtain ⟨⟨a1, a2, a3⟩, -, a5, a6⟩ := hx
      refine ⟨⟨by rw [dm.1.at_ (by omega)]; exact a1, by rw [dm.1.at_ (by omega)]; exact a2, a3⟩, ⟨l, nd, hl, dc⟩, fun hr j hj => by rw [dm.1.at_ (by omega)]; exact a5 hr j hj, fun q hq => by cases hq⟩
    · rw [hD _ cb] at hw
      cases hw
      exact hx.wn (by omega) dm.wn
/-- by the keys below i -/
def tieK (ws : List Wm) (S : Nat → Nat → Nat) (fr : Nat → Option Nat) (i n : Nat) : Bool := ws.any (fun v => v.n == n && (List.range i).any (fun k => match noG (fr k) with
  | some q => decide (q ≤ v.t) && decide (v.t < q + nbS S q)
  | none => false))
theorem tieK_iff {ws : List Wm} {S : Nat → Nat → Nat} {fr : Nat → Option Nat} {i n : Nat} : tieK ws S fr i n = true ↔ ∃ v, v ∈ ws ∧ v.n = n ∧ ∃ k q, k < i ∧ noG (fr k) = some q ∧ q ≤ v.t ∧ v.t < q + nbS S q := by
  unfold tieK
  rw [List.any_eq_true]
  refine exists_congr fun v => and_congr_right fun _ => ?_
  rw [Bool.and_eq_true, beq_iff_eq, List.any_eq_true]
  refine and_congr_right fun _ => ?_
  constructor
  · rintro ⟨k, hk, h⟩
    rw [List.mem_range] at hk
    cases hq : noG (fr k) with
    | none => rw [hq] at h; cases h
    | some q =>
      rw [hq] at h
      have h : (decide (q ≤ v.t) && decide (v.t < q + nbS S q)) = true := h
      rw [Bool.and_eq_true, decide_eq_true_eq, decide_eq_true_eq] at h
      exact ⟨k, q, hk, hq, h⟩
  · rintro ⟨k, q, hk, hq, h1, h2⟩
    refine ⟨k, List.mem_range.mpr hk, ?_⟩
    rw [hq]
    show (decide (q ≤ v.t) && decide (v.t < q + nbS S q)) = true
    rw [Bool.and_eq_true, decide_eq_true_eq, decide_eq_true_eq]
    exact ⟨h1, h2⟩
theorem tieK_s {ws : List Wm} {S : Nat → Nat → Nat} {fr : Nat → Option Nat} {i n : Nat} : tieK ws S fr (i + 1) n = true ↔ tieK ws S fr i n = true ∨ ∃ v, v ∈ ws ∧ v.n = n ∧ ∃ q, noG (fr i) = some q ∧ q ≤ v.t ∧ v.t < q + nbS S q := by
  rw [tieK_iff, tieK_iff]
  constructor
  · rintro ⟨v, hv, hn, k, q, hk, h⟩
    by_cases c : k = i
    · subst c
      exact Or.inr ⟨v, hv, hn, q, h⟩
    · exact Or.inl ⟨v, hv, hn, k, q, by omega, h⟩
  · rintro (⟨v, hv, hn, k, q, hk, h⟩ | ⟨v, hv, hn, q, h⟩)
    · exact ⟨v, hv, hn, k, q, by omega, h⟩
    · exact ⟨v, hv, hn, i, q, by omega, h⟩
theorem tieK_48 {ws : List Wm} {S : Nat → Nat → Nat} {fr : Nat → Option Nat} (hS : ∀ k q, k < 48 → noG (fr k) = some q → q + nbS S q ≤ 128) (n : Nat) : tieK ws S fr 48 n = tieD ws S fr n := by
  rw [Bool.eq_iff_iff, tieK_iff, tieD_iff]
  refine exists_congr fun v => and_congr_right fun _ => and_congr_right fun _ => ?_
  rw [mkB_iff]
  constructor
  · rintro ⟨k, q, hk, h1, h2, h3⟩
    have := hS k q hk h1
    exact ⟨by omega, k, q, hk, h1, h2, h3⟩
  · rintro ⟨_, h⟩
    exact h
def dpD (ws : List Wm) (S : Nat → Nat → Nat) (fr : Nat → Option Nat) (o : Option Nat) (b i j n : Nat) : Bool := emD ws o n || (if j < b then tieK ws S fr 48 n else if j = b then tieK ws S fr i n else false)
theorem dpD_lt {ws : List Wm} {S : Nat → Nat → Nat} {fr : Nat → Option Nat} {o : Option Nat} {b i j n md : Nat} (hN : NbI md ws) (h : dpD ws S fr o b i j n = true) : n < md := by
  have key : ∀ i, tieK ws S fr i n = true → n < md := fun i h => by
    obtain ⟨v, hv, hn, _⟩ := tieK_iff.mp h
    have := (hN.2 v hv).1
    omega
  unfold dpD at h
  rw [Bool.or_eq_true] at h
  rcases h with h | h
  · obtain ⟨_, v, hv, hn⟩ := emD_iff.mp h
    have := (hN.2 v hv).1
    omega
  · split at h
    · exact key _ h
    · split at h
      · exact key _ h
      · cases h
theorem tieK_0 {ws : List Wm} {S : Nat → Nat → Nat} {fr : Nat → Option Nat} {n : Nat} : tieK ws S fr 0 n = false := by
  cases h : tieK ws S fr 0 n with
  | false => rfl
  | true =>
    obtain ⟨v, _, _, k, q, hk, _⟩ := tieK_iff.mp h
    omega
theorem dpD_next {ws : List Wm} {S : Nat → Nat → Nat} {fr : Nat → Option Nat} {o : Option Nat} {b : Nat} : dpD ws S fr o b 48 = dpD ws S fr o (b + 1) 0 := by
  funext j n
  unfold dpD
  by_cases c1 : j < b
  · rw [if_pos c1, if_pos (by omega)]
  · rw [if_neg c1]
    by_cases c2 : j = b
    · rw [if_pos c2, if_pos (by omega)]
    · rw [if_neg c2, if_neg (by omega), tieK_0]
      split <;> rfl
theorem tieL {d : Nat} {k : mQ} {r md p nb : Nat} {x : Int32} {ws : List Wm} {cl : List Nat} {o : Option Nat} {fr : Nat → Option Nat} {dk S : Nat → Nat → Nat} {M0 : Mm} {z1 z2 : Option mL} (hN : NbI md ws) (hB : BtI dk ws) (hcl : ∀ v, v ∈ cl → v < 256) (hwl : ws.length + nb ≤ 160) (hw1 : ws.length < 160) (hp : p + nb ≤ 128) (hfr : spOK fr) (hS : S = vw dk (ws ++ nwG md p cl (fun _ _ => false) nb)) (hs0 : RS M0 r) (f14 : M0.it r 14 = nI (ws.length + nb)) (f38 : M0.it r 38 = nI ws.length) (f39 : M0.it r 39 = nI (ws.length + nb)) (hdk : RDk M0 (r + 2) dk) (h23 : ∀ q, q < 48 → M0.it (r + 23) q = oI (fr q)) (hk : ∀ M', RWs M' r (ws ++ nwG md p cl (dpD ws S fr o nb 0) nb) → Rf r (fun y => y = r + 12 ∨ y = r + 13) [] M0 M' → k (some (.inl x)) M') :
    ∀ (m b : Nat) (M : Mm) (z5 : Option mL), b + m = nb → RWs M r (ws ++ nwG md p cl (dpD ws S fr o b 0) nb) → Rf r (fun y => y = r + 12 ∨ y = r + 13) [] M0 M → X (d + 4) 141 196 [some (.inr (some r)), z1, z2, some (.inl x), some (.inl (nI (ws.length + b))), z5] [] M k := by
  intro m
  induction m with
  | zero =>
    intro b M z5 hb hw o1
    have e : b = nb := by omega
    subst e
    have hs := hs0.oi o1.1
    have g39 : M.it r 39 = nI (ws.length + b) := by rw [o1.2 39 (by simp)]; exact f39
    refine vc_X 20 _ _ _ _ _ _ _ ?_
    simp only [↓v141_0, ↓v141_1, ↓v141_2, ↓v141_3, ↓v141_4, ↓v141_5, ↓v141_7, ↓v141_10, ↓v141_11, ↓v141_14, ↓v141_15, ↓v141_16, ↓v141_19, ↓v141_20, ↓v141_21, ↓v141_24, ↓v141_27, ↓v141_28, ↓v141_31, ↓v141_32, ↓v141_33, ↓v141_34, ↓v141_35, ↓v141_38, ↓v141_39, ↓v141_40, ↓v141_41, ↓v141_44, ↓v141_47, ↓v141_48, ↓v141_51, ↓v141_53, ↓v141_54, ↓v141_55, ↓v141_56, ↓v141_57, ↓v141_58, ↓v141_59, ↓v141_60, ↓v141_61, ↓v141_64, ↓v141_66, ↓v141_67, ↓v141_68, ↓v141_69, ↓v141_70, ↓v141_71, ↓v141_74, ↓v141_75, ↓v141_76, ↓v141_79, ↓v141_82, ↓v141_85, ↓v141_88, ↓v141_89, ↓v141_92, ↓v141_93, ↓v141_94, ↓v141_96, ↓v141_97, ↓v141_98, ↓v141_99, ↓v141_100, ↓v141_103, ↓v141_105, ↓v141_106, ↓v141_107, ↓v141_108, ↓v141_109, ↓v141_110, ↓v141_113, ↓v141_114, ↓v141_115, ↓v141_118, ↓v141_121, ↓v141_122, ↓v141_125, ↓v141_126, ↓v141_129, ↓v141_130, ↓v141_131, ↓v141_133, ↓v141_134, ↓v141_135, ↓v141_136, ↓v141_139, ↓v141_142, ↓v141_145, ↓v141_146, ↓v141_149, ↓v141_151, ↓v141_152, ↓v141_153, ↓v141_154, ↓v141_155, ↓v141_156, ↓v141_159, ↓v141_162, ↓v141_163, ↓v141_164, ↓v141_165, ↓v141_166, ↓v141_167, ↓v141_168, ↓v141_169, ↓v141_170, ↓v141_171, ↓v141_174, ↓v141_175, ↓v141_176, ↓v141_177, ↓v141_180, ↓v141_183, ↓v141_184, ↓v141_185, ↓v141_188, ↓v141_189, ↓v141_190, ↓v141_191, ↓v141_194, ↓v141_196, ↓v141_198, ↓v141_199, ↓v141_202, ↓v141_205, ↓v141_206, ↓v141_208, ↓v141_210, ↓v141_212, ↓v141_215, ↓v141_216, ↓v141_219, ↓v141_221, ↓v141_222, ↓v141_223, ↓v141_226, ↓v141_227, ↓v141_230, ↓v141_232, ↓v141_233, ↓v141_236, ↓v141_239, ↓v141_240, ↓v141_242, ↓v141_243, ↓v141_246, ↓v141_248, ↓v141_249, ↓v141_252, ↓v141_255, ↓v141_258, ↓v141_261, ↓v141_264, ↓v141_265, ↓qI_c, ↓qL_c, ↓qR_c, ↓pA_o, ↓qC_i, ↓qC_r, ↓oA_s, ↓gI_0, ↓gI_1, ↓gI_2, ↓gI_3, ↓gI_4, ↓gI_5, ↓gI_6, ↓gI_7, ↓gI_8, ↓gI_9, ↓gI_10, ↓gR_0, ↓gR_1, ↓gR_2, ↓gR_3, ↓gR_4, ↓gR_5, ↓gR_6, ↓gR_7, ↓gR_8, ↓gR_9, ↓gR_10, ↓sL_0, ↓sL_1, ↓sL_2, ↓sL_3, ↓sL_4, ↓sL_5, ↓sL_6, ↓sL_7, ↓sL_8, ↓sL_9, ↓sL_10, ↓rrf_si, ↓rrf_sg, ↓shO_si, ↓shO_sg, ↓shO_sr, ↓shA_si, ↓shA_sg, ↓shA_sr, ↓pAs_0, ↓pAs_i, ↓pAs_r, stk_n, stk_i, stk_l, stk_r, List.nil_append, List.cons_append, true_and, and_true, true_or, or_true, Nat.zero_add, dp_s, Nat.reduceAdd, le8_0, le8_1, le8_2, le8_3, le8_4, le8_5, le8_6, le8_7, le8_8, Classical.not_not, aT40, aT41, aT42, aT44, aT54, aT58, aT59, rT54, rT58, rT59, reduceIte, Nat.reduceEqDiff, qn_42, qn_44, true_implies, not_true_eq_false, not_false_eq_true, false_implies, ↓shO_of hs.1.1, g39, le_T, nT (show ws.length + b < 2147483648 by omega), Int.le_refl]
    exact hk M hw o1
  | succ m ih =>
    intro b M z5 hb hw o1
    have hs := hs0.oi o1.1
    have g39 : M.it r 39 = nI (ws.length + nb) := by rw [o1.2 39 (by simp)]; exact f39
    have lop : ∀ (m2 i : Nat) (M2 : Mm), i + m2 = 48 → RWs M2 r (ws ++ nwG md p cl (dpD ws S fr o b i) nb) → Rf r (fun y => y = r + 12 ∨ y = r + 13) [] M0 M2 → X (d + 4) 141 208 [some (.inr (some r)), z1, z2, some (.inl x), some (.inl (nI (ws.length + b))), some (.inl (nI i))] [] M2 k := by
      intro m2
      induction m2 with
      | zero =>
        intro i M2 hi2 hw2 o2
        have e : i = 48 := by omega
        subst e
        refine vc_X 20 _ _ _ _ _ _ _ ?_
        simp only [↓v141_0, ↓v141_1, ↓v141_2, ↓v141_3, ↓v141_4, ↓v141_5, ↓v141_7, ↓v141_10, ↓v141_11, ↓v141_14, ↓v141_15, ↓v141_16, ↓v141_19, ↓v141_20, ↓v141_21, ↓v141_24, ↓v141_27, ↓v141_28, ↓v141_31, ↓v141_32, ↓v141_33, ↓v141_34, ↓v141_35, ↓v141_38, ↓v141_39, ↓v141_40, ↓v141_41, ↓v141_44, ↓v141_47, ↓v141_48, ↓v141_51, ↓v141_53, ↓v141_54, ↓v141_55, ↓v141_56, ↓v141_57, ↓v141_58, ↓v141_59, ↓v141_60, ↓v141_61, ↓v141_64, ↓v141_66, ↓v141_67, ↓v141_68, ↓v141_69, ↓v141_70, ↓v141_71, ↓v141_74, ↓v141_75, ↓v141_76, ↓v141_79, ↓v141_82, ↓v141_85, ↓v141_88, ↓v141_89, ↓v141_92, ↓v141_93, ↓v141_94, ↓v141_96, ↓v141_97, ↓v141_98, ↓v141_99, ↓v141_100, ↓v141_103, ↓v141_105, ↓v141_106, ↓v141_107, ↓v141_108, ↓v141_109, ↓v141_110, ↓v141_113, ↓v141_114, ↓v141_115, ↓v141_118, ↓v141_121, ↓v141_122, ↓v141_125, ↓v141_126, ↓v141_129, ↓v141_130, ↓v141_131, ↓v141_133, ↓v141_134, ↓v141_135, ↓v141_136, ↓v141_139, ↓v141_142, ↓v141_145, ↓v141_146, ↓v141_149, ↓v141_151, ↓v141_152, ↓v141_153, ↓v141_154, ↓v141_155, ↓v141_156, ↓v141_159, ↓v141_162, ↓v141_163, ↓v141_164, ↓v141_165, ↓v141_166, ↓v141_167, ↓v141_168, ↓v141_169, ↓v141_170, ↓v141_171, ↓v141_174, ↓v141_175, ↓v141_176, ↓v141_177, ↓v141_180, ↓v141_183, ↓v141_184, ↓v141_185, ↓v141_188, ↓v141_189, ↓v141_190, ↓v141_191, ↓v141_194, ↓v141_196, ↓v141_198, ↓v141_199, ↓v141_202, ↓v141_205, ↓v141_206, ↓v141_208, ↓v141_210, ↓v141_212, ↓v141_215, ↓v141_216, ↓v141_219, ↓v141_221, ↓v141_222, ↓v141_223, ↓v141_226, ↓v141_227, ↓v141_230, ↓v141_232, ↓v141_233, ↓v141_236, ↓v141_239, ↓v141_240, ↓v141_242, ↓v141_243, ↓v141_246, ↓v141_248, ↓v141_249, ↓v141_252, ↓v141_255, ↓v141_258, ↓v141_261, ↓v141_264, ↓v141_265, ↓qI_c, ↓qL_c, ↓qR_c, ↓pA_o, ↓qC_i, ↓qC_r, ↓oA_s, ↓gI_0, ↓gI_1, ↓gI_2, ↓gI_3, ↓gI_4, ↓gI_5, ↓gI_6, ↓gI_7, ↓gI_8, ↓gI_9, ↓gI_10, ↓gR_0, ↓gR_1, ↓gR_2, ↓gR_3, ↓gR_4, ↓gR_5, ↓gR_6, ↓gR_7, ↓gR_8, ↓gR_9, ↓gR_10, ↓sL_0, ↓sL_1, ↓sL_2, ↓sL_3, ↓sL_4, ↓sL_5, ↓sL_6, ↓sL_7, ↓sL_8, ↓sL_9, ↓sL_10, ↓rrf_si, ↓rrf_sg, ↓shO_si, ↓shO_sg, ↓shO_sr, ↓shA_si, ↓shA_sg, ↓shA_sr, ↓pAs_0, ↓pAs_i, ↓pAs_r, stk_n, stk_i, stk_l, stk_r, List.nil_append, List.cons_append, true_and, and_true, true_or, or_true, Nat.zero_add, dp_s, Nat.reduceAdd, le8_0, le8_1, le8_2, le8_3, le8_4, le8_5, le8_6, le8_7, le8_8, Classical.not_not, aT40, aT41, aT42, aT44, aT54, aT58, aT59, rT54, rT58, rT59, reduceIte, Nat.reduceEqDiff, qn_42, qn_44, true_implies, not_true_eq_false, not_false_eq_true, false_implies, le_T, T_48, nT (show 48 < 2147483648 by omega), nI_1]
        refine ⟨fun _ => ?_, fun c => absurd (by decide) c⟩
        rw [dpD_next] at hw2
        exact ih (b + 1) M2 _ (by omega) hw2 o2
      | succ m2 ih2 =>
        intro i M2 hi2 hw2 o2
        have hs2 := hs0.oi o2.1
        have g23 : M2.it (r + 23) i = oI (fr i) := by rw [o2.at_ (by omega) (by omega)]; exact h23 i (by omega)
        have same : noG (fr i) = none → RWs M2 r (ws ++ nwG md p cl (dpD ws S fr o b (i + 1)) nb) := by
          intro hn
          have : dpD ws S fr o b (i + 1) = dpD ws S fr o b i := by
            funext j n
            unfold dpD
            rw [show tieK ws S fr (i + 1) n = tieK ws S fr i n by
              rw [Bool.eq_iff_iff, tieK_s, hn]
              exact ⟨fun q => q.elim id (fun ⟨_, _, _, _, c, _⟩ => by cases c), Or.inl⟩]
          rw [this]
          exact hw2
        cases hfi : fr i with
        | none =>
          rw [hfi, oI_none] at g23
          refine vc_X 40 _ _ _ _ _ _ _ ?_
          simp only [↓v141_0, ↓v141_1, ↓v141_2, ↓v141_3, ↓v141_4, ↓v141_5, ↓v141_7, ↓v141_10, ↓v141_11, ↓v141_14, ↓v141_15, ↓v141_16, ↓v141_19, ↓v141_20, ↓v141_21, ↓v141_24, ↓v141_27, ↓v141_28, ↓v141_31, ↓v141_32, ↓v141_33, ↓v141_34, ↓v141_35, ↓v141_38, ↓v141_39, ↓v141_40, ↓v141_41, ↓v141_44, ↓v141_47, ↓v141_48, ↓v141_51, ↓v141_53, ↓v141_54, ↓v141_55, ↓v141_56, ↓v141_57, ↓v141_58, ↓v141_59, ↓v141_60, ↓v141_61, ↓v141_64, ↓v141_66, ↓v141_67, ↓v141_68, ↓v141_69, ↓v141_70, ↓v141_71, ↓v141_74, ↓v141_75, ↓v141_76, ↓v141_79, ↓v141_82, ↓v141_85, ↓v141_88, ↓v141_89, ↓v141_92, ↓v141_93, ↓v141_94, ↓v141_96, ↓v141_97, ↓v141_98, ↓v141_99, ↓v141_100, ↓v141_103, ↓v141_105, ↓v141_106, ↓v141_107, ↓v141_108, ↓v141_109, ↓v141_110, ↓v141_113, ↓v141_114, ↓v141_115, ↓v141_118, ↓v141_121, ↓v141_122, ↓v141_125, ↓v141_126, ↓v141_129, ↓v141_130, ↓v141_131, ↓v141_133, ↓v141_134, ↓v141_135, ↓v141_136, ↓v141_139, ↓v141_142, ↓v141_145, ↓v141_146, ↓v141_149, ↓v141_151, ↓v141_152, ↓v141_153, ↓v141_154, ↓v141_155, ↓v141_156, ↓v141_159, ↓v141_162, ↓v141_163, ↓v141_164, ↓v141_165, ↓v141_166, ↓v141_167, ↓v141_168, ↓v141_169, ↓v141_170, ↓v141_171, ↓v141_174, ↓v141_175, ↓v141_176, ↓v141_177, ↓v141_180, ↓v141_183, ↓v141_184, ↓v141_185, ↓v141_188, ↓v141_189, ↓v141_190, ↓v141_191, ↓v141_194, ↓v141_196, ↓v141_198, ↓v141_199, ↓v141_202, ↓v141_205, ↓v141_206, ↓v141_208, ↓v141_210, ↓v141_212, ↓v141_215, ↓v141_216, ↓v141_219, ↓v141_221, ↓v141_222, ↓v141_223, ↓v141_226, ↓v141_227, ↓v141_230, ↓v141_232, ↓v141_233, ↓v141_236, ↓v141_239, ↓v141_240, ↓v141_242, ↓v141_243, ↓v141_246, ↓v141_248, ↓v141_249, ↓v141_252, ↓v141_255, ↓v141_258, ↓v141_261, ↓v141_264, ↓v141_265, ↓qI_c, ↓qL_c, ↓qR_c, ↓pA_o, ↓qC_i, ↓qC_r, ↓oA_s, ↓gI_0, ↓gI_1, ↓gI_2, ↓gI_3, ↓gI_4, ↓gI_5, ↓gI_6, ↓gI_7, ↓gI_8, ↓gI_9, ↓gI_10, ↓gR_0, ↓gR_1, ↓gR_2, ↓gR_3, ↓gR_4, ↓gR_5, ↓gR_6, ↓gR_7, ↓gR_8, ↓gR_9, ↓gR_10, ↓sL_0, ↓sL_1, ↓sL_2, ↓sL_3, ↓sL_4, ↓sL_5, ↓sL_6, ↓sL_7, ↓sL_8, ↓sL_9, ↓sL_10, ↓rrf_si, ↓rrf_sg, ↓shO_si, ↓shO_sg, ↓shO_sr, ↓shA_si, ↓shA_sg, ↓shA_sr, ↓pAs_0, ↓pAs_i, ↓pAs_r, stk_n, stk_i, stk_l, stk_r, List.nil_append, List.cons_append, true_and, and_true, true_or, or_true, Nat.zero_add, dp_s, Nat.reduceAdd, le8_0, le8_1, le8_2, le8_3, le8_4, le8_5, le8_6, le8_7, le8_8, Classical.not_not, aT40, aT41, aT42, aT44, aT54, aT58, aT59, rT54, rT58, rT59, reduceIte, Nat.reduceEqDiff, qn_42, qn_44, true_implies, not_true_eq_false, not_false_eq_true, false_implies, le_T, T_48, nT (show i < 2147483648 by omega), ↓shO_of hs2.1.1, ↓rrf_of hs2.2.2.1.2.2.2.2.2.2.2.2, ↓shA_of hs2.2.2.2.2.2.2.2.2.2.2.2, nC (show i < 2147483648 by omega), g23, m11, nI_1]
          refine ⟨fun c => by omega, fun _ => ⟨inB_n (by omega) (by omega), ?_⟩⟩
          refine vc_X 20 _ _ _ _ _ _ _ ?_
          simp only [↓v141_0, ↓v141_1, ↓v141_2, ↓v141_3, ↓v141_4, ↓v141_5, ↓v141_7, ↓v141_10, ↓v141_11, ↓v141_14, ↓v141_15, ↓v141_16, ↓v141_19, ↓v141_20, ↓v141_21, ↓v141_24, ↓v141_27, ↓v141_28, ↓v141_31, ↓v141_32, ↓v141_33, ↓v141_34, ↓v141_35, ↓v141_38, ↓v141_39, ↓v141_40, ↓v141_41, ↓v141_44, ↓v141_47, ↓v141_48, ↓v141_51, ↓v141_53, ↓v141_54, ↓v141_55, ↓v141_56, ↓v141_57, ↓v141_58, ↓v141_59, ↓v141_60, ↓v141_61, ↓v141_64, ↓v141_66, ↓v141_67, ↓v141_68, ↓v141_69, ↓v141_70, ↓v141_71, ↓v141_74, ↓v141_75, ↓v141_76, ↓v141_79, ↓v141_82, ↓v141_85, ↓v141_88, ↓v141_89, ↓v141_92, ↓v141_93, ↓v141_94, ↓v141_96, ↓v141_97, ↓v141_98, ↓v141_99, ↓v141_100, ↓v141_103, ↓v141_105, ↓v141_106, ↓v141_107, ↓v141_108, ↓v141_109, ↓v141_110, ↓v141_113, ↓v141_114, ↓v141_115, ↓v141_118, ↓v141_121, ↓v141_122, ↓v141_125, ↓v141_126, ↓v141_129, ↓v141_130, ↓v141_131, ↓v141_133, ↓v141_134, ↓v141_135, ↓v141_136, ↓v141_139, ↓v141_142, ↓v141_145, ↓v141_146, ↓v141_149, ↓v141_151, ↓v141_152, ↓v141_153, ↓v141_154, ↓v141_155, ↓v141_156, ↓v141_159, ↓v141_162, ↓v141_163, ↓v141_164, ↓v141_165, ↓v141_166, ↓v141_167, ↓v141_168, ↓v141_169, ↓v141_170, ↓v141_171, ↓v141_174, ↓v141_175, ↓v141_176, ↓v141_177, ↓v141_180, ↓v141_183, ↓v141_184, ↓v141_185, ↓v141_188, ↓v141_189, ↓v141_190, ↓v141_191, ↓v141_194, ↓v141_196, ↓v141_198, ↓v141_199, ↓v141_202, ↓v141_205, ↓v141_206, ↓v141_208, ↓v141_210, ↓v141_212, ↓v141_215, ↓v141_216, ↓v141_219, ↓v141_221, ↓v141_222, ↓v141_223, ↓v141_226, ↓v141_227, ↓v141_230, ↓v141_232, ↓v141_233, ↓v141_236, ↓v141_239, ↓v141_240, ↓v141_242, ↓v141_243, ↓v141_246, ↓v141_248, ↓v141_249, ↓v141_252, ↓v141_255, ↓v141_258, ↓v141_261, ↓v141_264, ↓v141_265, ↓qI_c, ↓qL_c, ↓qR_c, ↓pA_o, ↓qC_i, ↓qC_r, ↓oA_s, ↓gI_0, ↓gI_1, ↓gI_2, ↓gI_3, ↓gI_4, ↓gI_5, ↓gI_6, ↓gI_7, ↓gI_8, ↓gI_9, ↓gI_10, ↓gR_0, ↓gR_1, ↓gR_2, ↓gR_3, ↓gR_4, ↓gR_5, ↓gR_6, ↓gR_7, ↓gR_8, ↓gR_9, ↓gR_10, ↓sL_0, ↓sL_1, ↓sL_2, ↓sL_3, ↓sL_4, ↓sL_5, ↓sL_6, ↓sL_7, ↓sL_8, ↓sL_9, ↓sL_10, ↓rrf_si, ↓rrf_sg, ↓shO_si, ↓shO_sg, ↓shO_sr, ↓shA_si, ↓shA_sg, ↓shA_sr, ↓pAs_0, ↓pAs_i, ↓pAs_r, stk_n, stk_i, stk_l, stk_r, List.nil_append, List.cons_append, true_and, and_true, true_or, or_true, Nat.zero_add, dp_s, Nat.reduceAdd, le8_0, le8_1, le8_2, le8_3, le8_4, le8_5, le8_6, le8_7, le8_8, Classical.not_not, aT40, aT41, aT42, aT44, aT54, aT58, aT59, rT54, rT58, rT59, reduceIte, Nat.reduceEqDiff, qn_42, qn_44, true_implies, not_true_eq_false, not_false_eq_true, false_implies, nI_1]
          exact ih2 (i + 1) M2 (by omega) (same (by rw [hfi]; rfl)) o2
        | some q =>
          have hq := hfr i q (by omega) hfi
          have e1 : oI (some q) = nI q := rfl
          rw [hfi, e1] at g23
          have n255 : (255 : Int32) = nI 255 := rfl
          refine vc_X 40 _ _ _ _ _ _ _ ?_
          simp only [↓v141_0, ↓v141_1, ↓v141_2, ↓v141_3, ↓v141_4, ↓v141_5, ↓v141_7, ↓v141_10, ↓v141_11, ↓v141_14, ↓v141_15, ↓v141_16, ↓v141_19, ↓v141_20, ↓v141_21, ↓v141_24, ↓v141_27, ↓v141_28, ↓v141_31, ↓v141_32, ↓v141_33, ↓v141_34, ↓v141_35, ↓v141_38, ↓v141_39, ↓v141_40, ↓v141_41, ↓v141_44, ↓v141_47, ↓v141_48, ↓v141_51, ↓v141_53, ↓v141_54, ↓v141_55, ↓v141_56, ↓v141_57, ↓v141_58, ↓v141_59, ↓v141_60, ↓v141_61, ↓v141_64, ↓v141_66, ↓v141_67, ↓v141_68, ↓v141_69, ↓v141_70, ↓v141_71, ↓v141_74, ↓v141_75, ↓v141_76, ↓v141_79, ↓v141_82, ↓v141_85, ↓v141_88, ↓v141_89, ↓v141_92, ↓v141_93, ↓v141_94, ↓v141_96, ↓v141_97, ↓v141_98, ↓v141_99, ↓v141_100, ↓v141_103, ↓v141_105, ↓v141_106, ↓v141_107, ↓v141_108, ↓v141_109, ↓v141_110, ↓v141_113, ↓v141_114, ↓v141_115, ↓v141_118, ↓v141_121, ↓v141_122, ↓v141_125, ↓v141_126, ↓v141_129, ↓v141_130, ↓v141_131, ↓v141_133, ↓v141_134, ↓v141_135, ↓v141_136, ↓v141_139, ↓v141_142, ↓v141_145, ↓v141_146, ↓v141_149, ↓v141_151, ↓v141_152, ↓v141_153, ↓v141_154, ↓v141_155, ↓v141_156, ↓v141_159, ↓v141_162, ↓v141_163, ↓v141_164, ↓v141_165, ↓v141_166, ↓v141_167, ↓v141_168, ↓v141_169, ↓v141_170, ↓v141_171, ↓v141_174, ↓v141_175, ↓v141_176, ↓v141_177, ↓v141_180, ↓v141_183, ↓v141_184, ↓v141_185, ↓v141_188, ↓v141_189, ↓v141_190, ↓v141_191, ↓v141_194, ↓v141_196, ↓v141_198, ↓v141_199, ↓v141_202, ↓v141_205, ↓v141_206, ↓v141_208, ↓v141_210, ↓v141_212, ↓v141_215, ↓v141_216, ↓v141_219, ↓v141_221, ↓v141_222, ↓v141_223, ↓v141_226, ↓v141_227, ↓v141_230, ↓v141_232, ↓v141_233, ↓v141_236, ↓v141_239, ↓v141_240, ↓v141_242, ↓v141_243, ↓v141_246, ↓v141_248, ↓v141_249, ↓v141_252, ↓v141_255, ↓v141_258, ↓v141_261, ↓v141_264, ↓v141_265, ↓qI_c, ↓qL_c, ↓qR_c, ↓pA_o, ↓qC_i, ↓qC_r, ↓oA_s, ↓gI_0, ↓gI_1, ↓gI_2, ↓gI_3, ↓gI_4, ↓gI_5, ↓gI_6, ↓gI_7, ↓gI_8, ↓gI_9, ↓gI_10, ↓gR_0, ↓gR_1, ↓gR_2, ↓gR_3, ↓gR_4, ↓gR_5, ↓gR_6, ↓gR_7, ↓gR_8, ↓gR_9, ↓gR_10, ↓sL_0, ↓sL_1, ↓sL_2, ↓sL_3, ↓sL_4, ↓sL_5, ↓sL_6, ↓sL_7, ↓sL_8, ↓sL_9, ↓sL_10, ↓rrf_si, ↓rrf_sg, ↓shO_si, ↓shO_sg, ↓shO_sr, ↓shA_si, ↓shA_sg, ↓shA_sr, ↓pAs_0, ↓pAs_i, ↓pAs_r, stk_n, stk_i, stk_l, stk_r, List.nil_append, List.cons_append, true_and, and_true, true_or, or_true, Nat.zero_add, dp_s, Nat.reduceAdd, le8_0, le8_1, le8_2, le8_3, le8_4, le8_5, le8_6, le8_7, le8_8, Classical.not_not, aT40, aT41, aT42, aT44, aT54, aT58, aT59, rT54, rT58, rT59, reduceIte, Nat.reduceEqDiff, qn_42, qn_44, true_implies, not_true_eq_false, not_false_eq_true, false_implies, le_T, T_48, nT (show i < 2147483648 by omega), ↓shO_of hs2.1.1, ↓rrf_of hs2.2.2.1.2.2.2.2.2.2.2.2, ↓shA_of hs2.2.2.2.2.2.2.2.2.2.2.2, nC (show i < 2147483648 by omega), g23, nI_nm (show q < 2147483648 by omega) (show ((-1 : Int32)).toInt < 0 by decide), nI_1]
          have i48 : inB (nI i) 48 := inB_n (by omega) (by omega)
          refine ⟨fun c => by omega, fun _ => ⟨i48, i48, fun c => ?_, fun c => ⟨i48, ?_⟩⟩⟩
          · rw [n255, nI_eq (by omega) (by omega)] at c
            refine vc_X 20 _ _ _ _ _ _ _ ?_
            simp only [↓v141_0, ↓v141_1, ↓v141_2, ↓v141_3, ↓v141_4, ↓v141_5, ↓v141_7, ↓v141_10, ↓v141_11, ↓v141_14, ↓v141_15, ↓v141_16, ↓v141_19, ↓v141_20, ↓v141_21, ↓v141_24, ↓v141_27, ↓v141_28, ↓v141_31, ↓v141_32, ↓v141_33, ↓v141_34, ↓v141_35, ↓v141_38, ↓v141_39, ↓v141_40, ↓v141_41, ↓v141_44, ↓v141_47, ↓v141_48, ↓v141_51, ↓v141_53, ↓v141_54, ↓v141_55, ↓v141_56, ↓v141_57, ↓v141_58, ↓v141_59, ↓v141_60, ↓v141_61, ↓v141_64, ↓v141_66, ↓v141_67, ↓v141_68, ↓v141_69, ↓v141_70, ↓v141_71, ↓v141_74, ↓v141_75, ↓v141_76, ↓v141_79, ↓v141_82, ↓v141_85, ↓v141_88, ↓v141_89, ↓v141_92, ↓v141_93, ↓v141_94, ↓v141_96, ↓v141_97, ↓v141_98, ↓v141_99, ↓v141_100, ↓v141_103, ↓v141_105, ↓v141_106, ↓v141_107, ↓v141_108, ↓v141_109, ↓v141_110, ↓v141_113, ↓v141_114, ↓v141_115, ↓v141_118, ↓v141_121, ↓v141_122, ↓v141_125, ↓v141_126, ↓v141_129, ↓v141_130, ↓v141_131, ↓v141_133, ↓v141_134, ↓v141_135, ↓v141_136, ↓v141_139, ↓v141_142, ↓v141_145, ↓v141_146, ↓v141_149, ↓v141_151, ↓v141_152, ↓v141_153, ↓v141_154, ↓v141_155, ↓v141_156, ↓v141_159, ↓v141_162, ↓v141_163, ↓v141_164, ↓v141_165, ↓v141_166, ↓v141_167, ↓v141_168, ↓v141_169, ↓v141_170, ↓v141_171, ↓v141_174, ↓v141_175, ↓v141_176, ↓v141_177, ↓v141_180, ↓v141_183, ↓v141_184, ↓v141_185, ↓v141_188, ↓v141_189, ↓v141_190, ↓v141_191, ↓v141_194, ↓v141_196, ↓v141_198, ↓v141_199, ↓v141_202, ↓v141_205, ↓v141_206, ↓v141_208, ↓v141_210, ↓v141_212, ↓v141_215, ↓v141_216, ↓v141_219, ↓v141_221, ↓v141_222, ↓v141_223, ↓v141_226, ↓v141_227, ↓v141_230, ↓v141_232, ↓v141_233, ↓v141_236, ↓v141_239, ↓v141_240, ↓v141_242, ↓v141_243, ↓v141_246, ↓v141_248, ↓v141_249, ↓v141_252, ↓v141_255, ↓v141_258, ↓v141_261, ↓v141_264, ↓v141_265, ↓qI_c, ↓qL_c, ↓qR_c, ↓pA_o, ↓qC_i, ↓qC_r, ↓oA_s, ↓gI_0, ↓gI_1, ↓gI_2, ↓gI_3, ↓gI_4, ↓gI_5, ↓gI_6, ↓gI_7, ↓gI_8, ↓gI_9, ↓gI_10, ↓gR_0, ↓gR_1, ↓gR_2, ↓gR_3, ↓gR_4, ↓gR_5, ↓gR_6, ↓gR_7, ↓gR_8, ↓gR_9, ↓gR_10, ↓sL_0, ↓sL_1, ↓sL_2, ↓sL_3, ↓sL_4, ↓sL_5, ↓sL_6, ↓sL_7, ↓sL_8, ↓sL_9, ↓sL_10, ↓rrf_si, ↓rrf_sg, ↓shO_si, ↓shO_sg, ↓shO_sr, ↓shA_si, ↓shA_sg, ↓shA_sr, ↓pAs_0, ↓pAs_i, ↓pAs_r, stk_n, stk_i, stk_l, stk_r, List.nil_append, List.cons_append, true_and, and_true, true_or, or_true, Nat.zero_add, dp_s, Nat.reduceAdd, le8_0, le8_1, le8_2, le8_3, le8_4, le8_5, le8_6, le8_7, le8_8, Classical.not_not, aT40, aT41, aT42, aT44, aT54, aT58, aT59, rT54, rT58, rT59, reduceIte, Nat.reduceEqDiff, qn_42, qn_44, true_implies, not_true_eq_false, not_false_eq_true, false_implies, nI_1]
            exact ih2 (i + 1) M2 (by omega) (same (by rw [hfi]; exact if_pos c)) o2
          · have hq5 : q ≠ 255 := fun e => c (by rw [e]; rfl)
            have hng : noG (fr i) = some q := by rw [hfi]; exact if_neg hq5
            have hget : (ws ++ nwG md p cl (dpD ws S fr o b i) nb)[ws.length + b]? = some (wmk (md + b) (p + b) none (fun i => (cl[16 * b + i]?).getD 0) (dpD ws S fr o b i b) [] (fun _ _ => 0)) := by
              rw [List.getElem?_append_right (by omega), show ws.length + b - ws.length = b by omega]
              exact nwG_at (by omega)
            obtain ⟨-, ⟨l, nd, hl, dc⟩, -, -⟩ := hw2 _ _ hget
            have hl : ∀ n, n ∈ l ↔ dpD ws S fr o b i b n = true := hl
            have htk : (ws ++ nwG md p cl (dpD ws S fr o b i) nb).take ws.length = ws := by rw [List.take_append_of_le_length (Nat.le_refl _), List.take_of_length_le (Nat.le_refl _)]
            have hv : vw dk (ws ++ nwG md p cl (dpD ws S fr o b i) nb) = S := by rw [hS]; exact vw_g _ _
            have hdb : ∀ n, dpD ws S fr o b i b n = true ↔ emD ws o n = true ∨ tieK ws S fr i n = true := fun n => by
              unfold dpD
              rw [if_neg (Nat.lt_irrefl _), if_pos rfl, Bool.or_eq_true]
            refine e142 (W := ws ++ nwG md p cl (dpD ws S fr o b i) nb) (md := md + nb) (f := ws.length) (l := l) ⟨hs2, hw2, by rw [o2.2 14 (by simp), f14, List.length_append, nwG_len], by rw [List.length_append, nwG_len]; exact hwl, hdk.rf o2 (by omega) (by omega), nwG_nb hN hp (fun j n h => dpD_lt hN h), nwG_bt hB hcl⟩ (by rw [o2.2 38 (by simp)]; exact f38) (by rw [List.length_append]; omega) hw1 dc nd (fun n hn => ?_) (by omega) (by omega) (fun M3 l3 d3 n3 s3 m3 o3 => ⟨rfl, ?_⟩)
            · rw [htk]
              rcases (hdb n).mp ((hl n).mp hn) with h | h
              · exact (emD_iff.mp h).2
              · obtain ⟨v, hv, hn, _⟩ := tieK_iff.mp h
                exact ⟨v, hv, hn⟩
            · refine vc_X 20 _ _ _ _ _ _ _ ?_
              simp only [↓v141_0, ↓v141_1, ↓v141_2, ↓v141_3, ↓v141_4, ↓v141_5, ↓v141_7, ↓v141_10, ↓v141_11, ↓v141_14, ↓v141_15, ↓v141_16, ↓v141_19, ↓v141_20, ↓v141_21, ↓v141_24, ↓v141_27, ↓v141_28, ↓v141_31, ↓v141_32, ↓v141_33, ↓v141_34, ↓v141_35, ↓v141_38, ↓v141_39, ↓v141_40, ↓v141_41, ↓v141_44, ↓v141_47, ↓v141_48, ↓v141_51, ↓v141_53, ↓v141_54, ↓v141_55, ↓v141_56, ↓v141_57, ↓v141_58, ↓v141_59, ↓v141_60, ↓v141_61, ↓v141_64, ↓v141_66, ↓v141_67, ↓v141_68, ↓v141_69, ↓v141_70, ↓v141_71, ↓v141_74, ↓v141_75, ↓v141_76, ↓v141_79, ↓v141_82, ↓v141_85, ↓v141_88, ↓v141_89, ↓v141_92, ↓v141_93, ↓v141_94, ↓v141_96, ↓v141_97, ↓v141_98, ↓v141_99, ↓v141_100, ↓v141_103, ↓v141_105, ↓v141_106, ↓v141_107, ↓v141_108, ↓v141_109, ↓v141_110, ↓v141_113, ↓v141_114, ↓v141_115, ↓v141_118, ↓v141_121, ↓v141_122, ↓v141_125, ↓v141_126, ↓v141_129, ↓v141_130, ↓v141_131, ↓v141_133, ↓v141_134, ↓v141_135, ↓v141_136, ↓v141_139, ↓v141_142, ↓v141_145, ↓v141_146, ↓v141_149, ↓v141_151, ↓v141_152, ↓v141_153, ↓v141_154, ↓v141_155, ↓v141_156, ↓v141_159, ↓v141_162, ↓v141_163, ↓v141_164, ↓v141_165, ↓v141_166, ↓v141_167, ↓v141_168, ↓v141_169, ↓v141_170, ↓v141_171, ↓v141_174, ↓v141_175, ↓v141_176, ↓v141_177, ↓v141_180, ↓v141_183, ↓v141_184, ↓v141_185, ↓v141_188, ↓v141_189, ↓v141_190, ↓v141_191, ↓v141_194, ↓v141_196, ↓v141_198, ↓v141_199, ↓v141_202, ↓v141_205, ↓v141_206, ↓v141_208, ↓v141_210, ↓v141_212, ↓v141_215, ↓v141_216, ↓v141_219, ↓v141_221, ↓v141_222, ↓v141_223, ↓v141_226, ↓v141_227, ↓v141_230, ↓v141_232, ↓v141_233, ↓v141_236, ↓v141_239, ↓v141_240, ↓v141_242, ↓v141_243, ↓v141_246, ↓v141_248, ↓v141_249, ↓v141_252, ↓v141_255, ↓v141_258, ↓v141_261, ↓v141_264, ↓v141_265, ↓qI_c, ↓qL_c, ↓qR_c, ↓pA_o, ↓qC_i, ↓qC_r, ↓oA_s, ↓gI_0, ↓gI_1, ↓gI_2, ↓gI_3, ↓gI_4, ↓gI_5, ↓gI_6, ↓gI_7, ↓gI_8, ↓gI_9, ↓gI_10, ↓gR_0, ↓gR_1, ↓gR_2, ↓gR_3, ↓gR_4, ↓gR_5, ↓gR_6, ↓gR_7, ↓gR_8, ↓gR_9, ↓gR_10, ↓sL_0, ↓sL_1, ↓sL_2, ↓sL_3, ↓sL_4, ↓sL_5, ↓sL_6, ↓sL_7, ↓sL_8, ↓sL_9, ↓sL_10, ↓rrf_si, ↓rrf_sg, ↓shO_si, ↓shO_sg, ↓shO_sr, ↓shA_si, ↓shA_sg, ↓shA_sr, ↓pAs_0, ↓pAs_i, ↓pAs_r, stk_n, stk_i, stk_l, stk_r, List.nil_append, List.cons_append, true_and, and_true, true_or, or_true, Nat.zero_add, dp_s, Nat.reduceAdd, le8_0, le8_1, le8_2, le8_3, le8_4, le8_5, le8_6, le8_7, le8_8, Classical.not_not, aT40, aT41, aT42, aT44, aT54, aT58, aT59, rT54, rT58, rT59, reduceIte, Nat.reduceEqDiff, qn_42, qn_44, true_implies, not_true_eq_false, not_false_eq_true, false_implies, nI_1]
              refine ih2 (i + 1) M3 (by omega) (hw2.dep (by omega) o3 n3 (fun n => ?_) d3 (fun j hj => ?_)) (o2.trans o3.rf (fun _ q => q) (fun _ q => q))
              · rw [m3 n, htk, hv, hl n, hdb n]
                unfold dpD
                rw [if_neg (Nat.lt_irrefl _), if_pos rfl, Bool.or_eq_true, tieK_s, or_assoc]
                refine or_congr Iff.rfl (or_congr Iff.rfl ⟨fun ⟨v, a, b, c⟩ => ⟨v, a, b, q, hng, c⟩, fun ⟨v, a, b, q2, c, e⟩ => ⟨v, a, b, ?_⟩⟩)
                rw [hng] at c
                cases c
                exact e
              · funext n
                unfold dpD
                by_cases c1 : j < b
                · rw [if_pos c1, if_pos c1]
                · rw [if_neg c1, if_neg c1, if_neg hj, if_neg hj]
    refine vc_X 20 _ _ _ _ _ _ _ ?_
    simp only [↓v141_0, ↓v141_1, ↓v141_2, ↓v141_3, ↓v141_4, ↓v141_5, ↓v141_7, ↓v141_10, ↓v141_11, ↓v141_14, ↓v141_15, ↓v141_16, ↓v141_19, ↓v141_20, ↓v141_21, ↓v141_24, ↓v141_27, ↓v141_28, ↓v141_31, ↓v141_32, ↓v141_33, ↓v141_34, ↓v141_35, ↓v141_38, ↓v141_39, ↓v141_40, ↓v141_41, ↓v141_44, ↓v141_47, ↓v141_48, ↓v141_51, ↓v141_53, ↓v141_54, ↓v141_55, ↓v141_56, ↓v141_57, ↓v141_58, ↓v141_59, ↓v141_60, ↓v141_61, ↓v141_64, ↓v141_66, ↓v141_67, ↓v141_68, ↓v141_69, ↓v141_70, ↓v141_71, ↓v141_74, ↓v141_75, ↓v141_76, ↓v141_79, ↓v141_82, ↓v141_85, ↓v141_88, ↓v141_89, ↓v141_92, ↓v141_93, ↓v141_94, ↓v141_96, ↓v141_97, ↓v141_98, ↓v141_99, ↓v141_100, ↓v141_103, ↓v141_105, ↓v141_106, ↓v141_107, ↓v141_108, ↓v141_109, ↓v141_110, ↓v141_113, ↓v141_114, ↓v141_115, ↓v141_118, ↓v141_121, ↓v141_122, ↓v141_125, ↓v141_126, ↓v141_129, ↓v141_130, ↓v141_131, ↓v141_133, ↓v141_134, ↓v141_135, ↓v141_136, ↓v141_139, ↓v141_142, ↓v141_145, ↓v141_146, ↓v141_149, ↓v141_151, ↓v141_152, ↓v141_153, ↓v141_154, ↓v141_155, ↓v141_156, ↓v141_159, ↓v141_162, ↓v141_163, ↓v141_164, ↓v141_165, ↓v141_166, ↓v141_167, ↓v141_168, ↓v141_169, ↓v141_170, ↓v141_171, ↓v141_174, ↓v141_175, ↓v141_176, ↓v141_177, ↓v141_180, ↓v141_183, ↓v141_184, ↓v141_185, ↓v141_188, ↓v141_189, ↓v141_190, ↓v141_191, ↓v141_194, ↓v141_196, ↓v141_198, ↓v141_199, ↓v141_202, ↓v141_205, ↓v141_206, ↓v141_208, ↓v141_210, ↓v141_212, ↓v141_215, ↓v141_216, ↓v141_219, ↓v141_221, ↓v141_222, ↓v141_223, ↓v141_226, ↓v141_227, ↓v141_230, ↓v141_232, ↓v141_233, ↓v141_236, ↓v141_239, ↓v141_240, ↓v141_242, ↓v141_243, ↓v141_246, ↓v141_248, ↓v141_249, ↓v141_252, ↓v141_255, ↓v141_258, ↓v141_261, ↓v141_264, ↓v141_265, ↓qI_c, ↓qL_c, ↓qR_c, ↓pA_o, ↓qC_i, ↓qC_r, ↓oA_s, ↓gI_0, ↓gI_1, ↓gI_2, ↓gI_3, ↓gI_4, ↓gI_5, ↓gI_6, ↓gI_7, ↓gI_8, ↓gI_9, ↓gI_10, ↓gR_0, ↓gR_1, ↓gR_2, ↓gR_3, ↓gR_4, ↓gR_5, ↓gR_6, ↓gR_7, ↓gR_8, ↓gR_9, ↓gR_10, ↓sL_0, ↓sL_1, ↓sL_2, ↓sL_3, ↓sL_4, ↓sL_5, ↓sL_6, ↓sL_7, ↓sL_8, ↓sL_9, ↓sL_10, ↓rrf_si, ↓rrf_sg, ↓shO_si, ↓shO_sg, ↓shO_sr, ↓shA_si, ↓shA_sg, ↓shA_sr, ↓pAs_0, ↓pAs_i, ↓pAs_r, stk_n, stk_i, stk_l, stk_r, List.nil_append, List.cons_append, true_and, and_true, true_or, or_true, Nat.zero_add, dp_s, Nat.reduceAdd, le8_0, le8_1, le8_2, le8_3, le8_4, le8_5, le8_6, le8_7, le8_8, Classical.not_not, aT40, aT41, aT42, aT44, aT54, aT58, aT59, rT54, rT58, rT59, reduceIte, Nat.reduceEqDiff, qn_42, qn_44, true_implies, not_true_eq_false, not_false_eq_true, false_implies, ↓shO_of hs.1.1, g39, le_T, nT (show ws.length + b < 2147483648 by omega), nT (show ws.length + nb < 2147483648 by omega)]
    refine ⟨fun c => by omega, fun _ => ?_⟩
    exact lop 48 0 M (by omega) hw o1
