/-! a table and a record -/
/-- is the block in a chunk that the entries name -/
def mkB (S : Nat → Nat → Nat) (fr : Nat → Option Nat) (b : Nat) : Bool := (List.range 48).any (fun k => match noG (fr k) with
  | some q => decide (q ≤ b) && decide (b < q + nbS S q)
  | none => false)
theorem mkB_iff {S : Nat → Nat → Nat} {fr : Nat → Option Nat} {b : Nat} : mkB S fr b = true ↔ ∃ k q, k < 48 ∧ noG (fr k) = some q ∧ q ≤ b ∧ b < q + nbS S q := by
  unfold mkB
  rw [List.any_eq_true]
  constructor
  · intro ⟨k, hk, h⟩
    rw [List.mem_range] at hk
    cases hq : noG (fr k) with
    | none => rw [hq] at h; cases h
    | some q =>
      rw [hq] at h
      have h : (decide (q ≤ b) && decide (b < q + nbS S q)) = true := h
      rw [Bool.and_eq_true, decide_eq_true_eq, decide_eq_true_eq] at h
      exact ⟨k, q, hk, hq, h⟩
  · intro ⟨k, q, hk, hq, h⟩
    refine ⟨k, List.mem_range.mpr hk, ?_⟩
    rw [hq]
    show (decide (q ≤ b) && decide (b < q + nbS S q)) = true
    rw [Bool.and_eq_true, decide_eq_true_eq, decide_eq_true_eq]
    exact h
def tieD (ws : List Wm) (S : Nat → Nat → Nat) (fr : Nat → Option Nat) (n : Nat) : Bool := ws.any (fun v => v.n == n && (decide (v.t < 128) && mkB S fr v.t))
theorem tieD_iff {ws : List Wm} {S : Nat → Nat → Nat} {fr : Nat → Option Nat} {n : Nat} : tieD ws S fr n = true ↔ ∃ v, v ∈ ws ∧ v.n = n ∧ v.t < 128 ∧ mkB S fr v.t = true := by
  unfold tieD
  simp
/-- the record's: the record ahead of it, the table's own, those of the emptied extent -/
def rdD (ws : List Wm) (lw : Option Nat) (own : Nat) (e0 : Option Nat) (n : Nat) : Bool := emD ws lw n || (wtN (ws.drop (ws.length - own)) n || match e0 with
  | some e => ws.any (fun v => v.n == n && (decide (v.t < 128) && v.t / 16 == e))
  | none => false)
theorem rdD_iff {ws : List Wm} {lw : Option Nat} {own : Nat} {e0 : Option Nat} {n : Nat} : rdD ws lw own e0 n = true ↔ (lw = some n ∧ ∃ v, v ∈ ws ∧ v.n = n) ∨ (∃ v, v ∈ ws.drop (ws.length - own) ∧ v.n = n) ∨ ∃ e v, e0 = some e ∧ v ∈ ws ∧ v.n = n ∧ v.t < 128 ∧ v.t / 16 = e := by
  unfold rdD
  rw [Bool.or_eq_true, Bool.or_eq_true, emD_iff, wtN_iff]
  cases e0 with
  | none => simp
  | some e => simp
def emU (em : Nat → Option Nat) (e0 : Option Nat) (n : Nat) : Nat → Option Nat := match e0 with
  | some e => ups em e (some n)
  | none => em
def ptU (pt : Nat → Nat) (e0 : Option Nat) : Nat → Nat := match e0 with
  | some e => upn pt e 0
  | none => pt
theorem vw_f {dk : Nat → Nat → Nat} {ws : List Wm} {md p nb : Nat} {cl : List Nat} {o : Option Nat} (f f2 : Nat → Bool) : vw dk (ws ++ nwM ws md p cl o f nb) = vw dk (ws ++ nwM ws md p cl o f2 nb) := by
  funext b
  rw [vw_app, vw_app]
  unfold nwM
  rw [List.foldl_map, List.foldl_map]
  rfl
section
variable {dk : Nat → Nat → Nat} {ws ws2 : List Wm} {md : Nat} {R la : RecT} {g tb : TbT} {S : Nat → Nat → Nat} {em : Nat → Option Nat} {pt : Nat → Nat} {ch : Nat → Option Nat} {lw : Option Nat}
theorem lw_last (h : CoI dk ws md R g S em pt ch tb la lw) {v : Wm} (hv : v ∈ ws) (rv : isRec v) (mv : ∀ u, u ∈ ws → isRec u → u.n ≤ v.n) : lw = some v.n ∧ v.r = some la ∧ v.g = tb := h.2.2.1.1 v hv rv mv
/-- what the tables name has not changed since the latest record -/
theorem CoI.inh (h : CoI dk ws md R g S em pt ch tb la lw) {b : Nat} (hb : Rch nn tb (vw dk ws) b) : (∀ y, y ∈ ws → y.t ≠ b) ∨ ∃ v, v ∈ ws ∧ isRec v ∧ lw = some v.n ∧ Rch nn v.g v.S b ∧ v.S b = vw dk ws b ∧ ∀ y, y ∈ ws → y.t = b → y.n < v.n := by
  obtain ⟨⟨h1, h2, h3, h4, h5⟩, h6, h7, h8, h9, h10⟩ := h
  obtain ⟨q, hq, q1, q2⟩ := hb
  by_cases hr : ∃ v, v ∈ ws ∧ isRec v
  · obtain ⟨v, hv, rv, mv⟩ := max_ex isRec ws hr
    obtain ⟨l1, l2, l3⟩ := h7.1 v hv rv mv
    have hq2 : Lv nn v.g q := by rw [l3]; exact hq
    have e1 := (view_last h4 h1 hv rv mv h5 (hq2.self (S := v.S))).1
    have hb : Rch nn v.g v.S b := ⟨q, hq2, q1, by unfold nbS at q2 ⊢; rw [← e1]; exact q2⟩
    obtain ⟨e2, e3⟩ := view_last h4 h1 hv rv mv h5 hb
    exact Or.inr ⟨v, hv, rv, l1, hb, e2.symm, e3⟩
  · have hno : ∀ w, w ∈ ws → ¬ isRec w := fun w hw rw_ => hr ⟨w, hw, rw_⟩
    obtain ⟨_, l3⟩ := h7.2.1 hno
    have hq2 : Lv nn g q := by rw [l3]; exact hq
    have e1 := (view_last0 h3 hno (hq2.self (S := S))).1
    have hb : Rch nn g S b := ⟨q, hq2, q1, by unfold nbS at q2 ⊢; rw [← e1]; exact q2⟩
    exact Or.inl (view_last0 h3 hno hb).2
theorem chI_rec {w : Wm} {q : RecT} (h : ChI ws R la) (hq : w.r = some q) (hn : q.1 = la.1 + 1) : ChI (ws ++ [w]) R q := by
  obtain ⟨h1, h2⟩ := h
  unfold ChI
  rw [List.filterMap_append, List.filterMap_cons_some hq, List.filterMap_nil, List.map_append, h1, List.length_append]
  refine ⟨?_, by simp; omega⟩
  show _ ++ [q.1] = List.range' _ (_ + 1)
  rw [List.range'_concat]
  congr 1
  rw [hn, h2]
  simp
  omega
/-- a record is made of how all is, w being its write -/
theorem CoI.mkRec {w : Wm} {q : RecT} {e0 : Option Nat} {tb1 : TbT} {tbo : TbT} {ch1 : Nat → Option Nat} (h : (NbI md ws ∧ OrI ws ∧ D0I dk ws g S ∧ DwI dk ws ∧ GhI ws R g S) ∧ PtI ws em pt R ∧ LtI ws R g la lw tbo ∧ EmI md ws em lw ∧ ChI ws R la) (c : RwC dk ws md tb1 q w) (hW : WFS (ptU pt e0) nn tb1 (vw dk ws)) (hW1 : WFS (ptU pt e0) ch1 tb1 (vw dk ws)) (hq1 : q.1 = la.1 + 1) (hq2 : q.2.2.2.1 = ptU pt e0) (hq3 : q.2.2.2.2 = tb1.map Prod.fst)
    (he : ∀ e x, e0 = some e → x ∈ ws → x.r = none → x.t / 16 = e → w.d x.n = true) : CoI dk (ws ++ [w]) (md + 1) R g S (emU em e0 md) (ptU pt e0) ch1 tb1 q (some md) := by
  obtain ⟨⟨h1, h2, h3, h4, h5⟩, h6, h7, h9, h10⟩ := h
  have hv : ∀ b, b < 128 → vw dk (ws ++ [w]) b = vw dk ws b := by
    intro b hb
    refine vw_app_no (fun x hx => ?_)
    rw [List.mem_singleton.mp hx, c.1.2.2.1]
    omega
  refine ⟨⟨h1.rec_ c, h2.rec_ h1 c, h3.rec_ h5 c, h4.rec_ h5 h1 hW c, h5.rec_ (by rw [hq2]; exact hW) hq3.symm c⟩, ?_, LtI.rec_ h1 c, hW1.congr (fun b hb => hv b (hb.lt hW1).1), ⟨fun n hn => by cases hn; omega, fun e n hn => ?_⟩, chI_rec h10 c.1.2.1 hq1⟩
  · cases e0 with
    | none => exact h6.rec_ hq2 h1 c
    | some e => exact h6.recE hq2 h1 c (fun x hx rx tx => he e x rfl hx rx tx)
  · have old : em e = some n → n < md + 1 ∧ ∀ x, x ∈ ws ++ [w] → x.n = n → isRec x := by
      intro hn
      obtain ⟨k1, k2⟩ := h9.2 e n hn
      refine ⟨by omega, fun x hx ex => ?_⟩
      rcases List.mem_append.mp hx with hx | hx
      · exact k2 x hx ex
      · rw [List.mem_singleton.mp hx]
        exact ⟨q, c.1.2.1⟩
    cases e0 with
    | none => exact old hn
    | some e' =>
      have hn : (if e = e' then some md else em e) = some n := hn
      by_cases ce : e = e'
      · rw [if_pos ce] at hn
        cases hn
        refine ⟨by omega, fun x hx ex => ?_⟩
        rcases List.mem_append.mp hx with hx | hx
        · have := (h1.2 x hx).1
          omega
        · rw [List.mem_singleton.mp hx]
          exact ⟨q, c.1.2.1⟩
      · rw [if_neg ce] at hn
        exact old hn
theorem noG_fr {mg : Bool} {k q : Nat} (h : plO ch tb (some k) = some q) : noG (frS mg ch tb k) = some q ∨ (mg = false ∧ plO nn tb (some k) = some q) := by
  cases mg with
  | true =>
    left
    show noG (plO ch tb (some k)) = some q
    unfold plO at h ⊢
    rw [noG_noG]
    exact h
  | false =>
    show noG (ch k) = some q ∨ _
    unfold plO lkS at h
    cases hc : ch k with
    | some v =>
      left
      have h : noG (orO (ch k) (lkT tb (some k))) = some q := h
      rw [hc] at h
      exact h
    | none =>
      right
      have h : noG (orO (ch k) (lkT tb (some k))) = some q := h
      rw [hc] at h
      exact ⟨rfl, h⟩
end
