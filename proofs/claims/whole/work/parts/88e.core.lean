/-! all that holds while the store is on -/
def ChI (ws : List Wm) (R la : RecT) : Prop := (ws.filterMap Wm.r).map Prod.fst = List.range' (R.1 + 1) (ws.filterMap Wm.r).length ∧ la.1 = R.1 + (ws.filterMap Wm.r).length
def EmI (md : Nat) (ws : List Wm) (em : Nat → Option Nat) (lw : Option Nat) : Prop := (∀ n, lw = some n → n < md) ∧ ∀ e n, em e = some n → n < md ∧ ∀ w, w ∈ ws → w.n = n → isRec w
def CoI (dk : Nat → Nat → Nat) (ws : List Wm) (md : Nat) (R : RecT) (g : TbT) (S : Nat → Nat → Nat) (em : Nat → Option Nat) (pt : Nat → Nat) (ch : Nat → Option Nat) (tb : TbT) (la : RecT) (lw : Option Nat) : Prop :=
  (NbI md ws ∧ OrI ws ∧ D0I dk ws g S ∧ DwI dk ws ∧ GhI ws R g S) ∧ PtI ws em pt R ∧ LtI ws R g la lw tb ∧ WFS pt ch tb (vw dk ws) ∧ EmI md ws em lw ∧ ChI ws R la
section
variable {dk : Nat → Nat → Nat} {ws ws2 : List Wm} {md : Nat} {R la : RecT} {g tb : TbT} {S : Nat → Nat → Nat} {em : Nat → Option Nat} {pt : Nat → Nat} {ch : Nat → Option Nat} {lw : Option Nat}
theorem fm_no {nw : List Wm} (h : ∀ y, y ∈ nw → y.r = none) : nw.filterMap Wm.r = [] := by
  rw [List.filterMap_eq_nil_iff]
  exact h
/-- an object's chunk is made, the key's change is its place -/
theorem CoI.obj {e key kind st : Nat} {ct : List Nat} (h : CoI dk ws md R g S em pt ch tb la lw) (he : e < 8) (hn : pt e + (ct.length + 23) / 16 ≤ 16) (hc : ct.length ≤ 100) :
    CoI dk (ws ++ nwM ws md (16 * e + pt e) (chL kind key ct st) (em e) (fun _ => false) ((ct.length + 23) / 16)) (md + (ct.length + 23) / 16) R g S em (upn pt e (pt e + (ct.length + 23) / 16)) (ups ch key (some (16 * e + pt e))) tb la lw := by
  obtain ⟨⟨h1, h2, h3, h4, h5⟩, h6, h7, h8, h9, h10⟩ := h
  have c : NwC ws (nwM ws md (16 * e + pt e) (chL kind key ct st) (em e) (fun _ => false) ((ct.length + 23) / 16)) md (md + (ct.length + 23) / 16) e (pt e) ((ct.length + 23) / 16) em := nwM_c (fun n hn => by cases hn)
  have hnr : ∀ y, y ∈ nwM ws md (16 * e + pt e) (chL kind key ct st) (em e) (fun _ => false) ((ct.length + 23) / 16) → y.r = none := fun y hy => (c.2.1 y hy).2.1
  refine ⟨⟨h1.add c he hn, h2.add h6 c he hn h1, h3.add h6 h5 c he hn, h4.add h6 h5 h1 c he hn, h5.add c⟩, h6.add c he hn, h7.add h9.1 c, ?_, ⟨fun n hl => ?_, fun e' n hl => ?_⟩, ?_⟩
  · have hp : 16 * e + pt e < 128 := by omega
    refine h8.add (kk := some key) he hn ?_ (fun b hb => ?_) ?_ h8.2.2.1 (fun k p hk hp2 => ?_) (fun z hz => Or.inl hz)
    · unfold nbS
      rw [show (vw dk (ws ++ nwM ws md (16 * e + pt e) (chL kind key ct st) (em e) (fun _ => false) ((ct.length + 23) / 16)) (16 * e + pt e) 3) = ct.length from ln_new]
    · have h11 := hb.lt h8
      refine vw_old ?_
      by_cases c2 : b / 16 = e
      · rw [c2] at h11
        omega
      · omega
    · intro k p hk hp2
      unfold ups at hp2
      by_cases c2 : k = key
      · rw [if_pos c2] at hp2
        cases hp2
        omega
      · rw [if_neg c2] at hp2
        exact h8.2.1 k p hk hp2
    · rw [plO_put hp] at hp2
      by_cases c2 : k = key
      · rw [if_pos c2] at hp2
        cases hp2
        refine Or.inr ⟨rfl, by rw [c2], ?_⟩
        rw [ln_new]
        exact hc
      · rw [if_neg c2] at hp2
        exact Or.inl hp2
  · have := h9.1 n hl
    omega
  · obtain ⟨k1, k2⟩ := h9.2 e' n hl
    refine ⟨by omega, fun w hw ew => ?_⟩
    rcases List.mem_append.mp hw with hw | hw
    · exact k2 w hw ew
    · have := (c.2.1 w hw).1
      omega
  · unfold ChI
    rw [List.filterMap_append, fm_no hnr, List.append_nil]
    exact h10
theorem CoI.del {key : Nat} (h : CoI dk ws md R g S em pt ch tb la lw) : CoI dk ws md R g S em pt (ups ch key (some 255)) tb la lw := by
  obtain ⟨h0, h6, h7, h8, h9, h10⟩ := h
  refine ⟨h0, h6, h7, h8.sub ?_ (fun k p hk hp => ?_) h8.2.2.1 (fun z hz => hz), h9, h10⟩
  · intro k p hk hp2
    unfold ups at hp2
    by_cases c2 : k = key
    · rw [if_pos c2] at hp2
      cases hp2
      exact Or.inl rfl
    · rw [if_neg c2] at hp2
      exact h8.2.1 k p hk hp2
  · rw [plO_del] at hp
    by_cases c2 : k = key
    · rw [if_pos c2] at hp; cases hp
    · rw [if_neg c2] at hp
      exact hp
theorem gone_fm {x : Wm} : ∀ {ws : List Wm} {i : Nat}, ws[i]? = some x → x.r = none → (ws.eraseIdx i).filterMap Wm.r = ws.filterMap Wm.r
  | [], i, h, _ => by simp at h
  | a :: l, 0, h, hr => by
    have h : some a = some x := h
    cases h
    rw [List.eraseIdx_cons_zero, List.filterMap_cons_none hr]
  | a :: l, i + 1, h, hr => by
    rw [List.eraseIdx_cons_succ, List.filterMap_cons, List.filterMap_cons, gone_fm (ws := l) (i := i) (by simpa using h) hr]
theorem gone_er {x : Wm} (hN : NbI md ws) {i : Nat} (hi : ws[i]? = some x) : Gone ws (ws.eraseIdx i) x := by
  refine ⟨fun y => ?_, hN.1.sublist (List.eraseIdx_sublist ..)⟩
  constructor
  · intro hy
    refine ⟨(List.eraseIdx_sublist ..).subset hy, fun e => ?_⟩
    rw [List.mem_eraseIdx_iff_getElem?] at hy
    obtain ⟨j, hj, ej⟩ := hy
    have hp := hN.1
    rw [List.pairwise_iff_getElem] at hp
    obtain ⟨i1, i2⟩ := List.getElem?_eq_some_iff.mp hi
    obtain ⟨j1, j2⟩ := List.getElem?_eq_some_iff.mp ej
    rcases Nat.lt_or_gt_of_ne hj with lt | lt
    · have := hp j i j1 i1 lt
      rw [i2, j2] at this
      omega
    · have := hp i j i1 j1 lt
      rw [i2, j2] at this
      omega
  · intro ⟨hy, ne⟩
    rw [List.mem_eraseIdx_iff_getElem?]
    obtain ⟨j, hj⟩ := List.mem_iff_getElem?.mp hy
    refine ⟨j, fun e => ?_, hj⟩
    rw [e, hi] at hj
    cases hj
    exact ne rfl
theorem CoI.landB {x : Wm} {i : Nat} (h : CoI dk ws md R g S em pt ch tb la lw) (hi : ws[i]? = some x) (hr : x.r = none) (hd : Rdy ws x) : CoI (dkU dk x.t x.y) (ws.eraseIdx i) md R g S em pt ch tb la lw := by
  obtain ⟨⟨h1, h2, h3, h4, h5⟩, h6, h7, h8, h9, h10⟩ := h
  have o := gone_er h1 hi
  have hx : x ∈ ws := List.mem_iff_getElem?.mpr ⟨i, hi⟩
  refine ⟨⟨h1.gone o, h2.gone h1 hx hd o, h3.gone h1 hx hr hd o, h4.gone h1 h2 hx hr hd o, h5.gone o⟩, h6.gone h1 hx hr o, h7.gone h1 hx hr o, h8.congr (fun b _ => vw_gone h1 h2 hx hr hd o b), ⟨h9.1, fun e n hl => ⟨(h9.2 e n hl).1, fun w hw => (h9.2 e n hl).2 w ((o.1 w).mp hw).1⟩⟩, ?_⟩
  unfold ChI
  rw [gone_fm hi hr]
  exact h10
theorem gone_fmR {x : Wm} {q : RecT} : ∀ {ws : List Wm} {i : Nat}, ws[i]? = some x → x.r = some q → (∀ j y, j < i → ws[j]? = some y → y.r = none) → ws.filterMap Wm.r = q :: (ws.eraseIdx i).filterMap Wm.r
  | [], i, h, _, _ => by simp at h
  | a :: l, 0, h, hr, _ => by
    have h : some a = some x := h
    cases h
    rw [List.eraseIdx_cons_zero, List.filterMap_cons_some hr]
  | a :: l, i + 1, h, hr, hf => by
    have ha : a.r = none := hf 0 a (by omega) rfl
    rw [List.eraseIdx_cons_succ, List.filterMap_cons_none ha, List.filterMap_cons_none ha]
    exact gone_fmR (ws := l) (i := i) (by simpa using h) hr (fun j y hj hy => hf (j + 1) y (by omega) (by simpa using hy))
theorem rec_ahead {x : Wm} {q : RecT} {i : Nat} (hN : NbI md ws) (hO : OrI ws) (hi : ws[i]? = some x) (hq : x.r = some q) (hd : Rdy ws x) : ∀ j y, j < i → ws[j]? = some y → y.r = none := by
  intro j y hj hy
  cases hr : y.r with
  | none => rfl
  | some q2 =>
    exfalso
    have hx : x ∈ ws := List.mem_iff_getElem?.mpr ⟨i, hi⟩
    have hy2 : y ∈ ws := List.mem_iff_getElem?.mpr ⟨j, hy⟩
    have h1 := first_rec hO hx ⟨q, hq⟩ hd hy2 ⟨q2, hr⟩
    have hp := hN.1
    rw [List.pairwise_iff_getElem] at hp
    obtain ⟨i1, i2⟩ := List.getElem?_eq_some_iff.mp hi
    obtain ⟨j1, j2⟩ := List.getElem?_eq_some_iff.mp hy
    have := hp j i j1 i1 hj
    rw [i2, j2] at this
    omega
theorem CoI.landR {x : Wm} {q : RecT} {i : Nat} (h : CoI dk ws md R g S em pt ch tb la lw) (hi : ws[i]? = some x) (hq : x.r = some q) (hd : Rdy ws x) : CoI dk (ws.eraseIdx i) md q x.g x.S em pt ch tb la lw ∧ q.1 = R.1 + 1 := by
  obtain ⟨⟨h1, h2, h3, h4, h5⟩, h6, h7, h8, h9, h10⟩ := h
  have o := gone_er h1 hi
  have hx : x ∈ ws := List.mem_iff_getElem?.mpr ⟨i, hi⟩
  have rx : isRec x := ⟨q, hq⟩
  have hf := gone_fmR hi hq (rec_ahead h1 h2 hi hq hd)
  unfold ChI at h10
  rw [hf, List.map_cons, List.length_cons, List.range'_succ] at h10
  obtain ⟨h10, h11⟩ := h10
  rw [List.cons.injEq] at h10
  refine ⟨⟨⟨h1.gone o, h2.gone h1 hx hd o, D0I.goneR h4 hx rx hd o, h4.goneR h5 h1 h2 hx rx hd o, h5.goneR hx hq o⟩, h6.goneR h1 h2 hx hq hd o, h7.goneR h1 h2 hx hq hd o, h8.congr (fun b hb => vw_goneR h1 hx rx o (hb.lt h8).1), ⟨h9.1, fun e n hl => ⟨(h9.2 e n hl).1, fun w hw => (h9.2 e n hl).2 w ((o.1 w).mp hw).1⟩⟩, ?_⟩, h10.1⟩
  unfold ChI
  rw [h10.1]
  exact ⟨h10.2, by omega⟩
/-- behind a crash: what the record on the disk tells -/
theorem CoI.back (h3 : D0I dk [] g S) (h5 : GhI [] R g S) : CoI dk [] md R g S (fun _ => none) R.2.2.2.1 nn g R none := by
  refine ⟨⟨⟨List.Pairwise.nil, fun x hx => (by cases hx)⟩, ⟨fun x y hx => (by cases hx), fun x y hx => (by cases hx)⟩, h3, fun w hw => (by cases hw), h5⟩, fun e he => ⟨Or.inl (Nat.le_refl _), fun w q hw => (by cases hw), fun w hw => (by cases hw)⟩, ⟨fun w hw => (by cases hw), fun _ => ⟨rfl, rfl⟩, fun w hw => (by cases hw)⟩, ?_, ⟨fun n hn => (by cases hn), fun e n hn => (by cases hn)⟩, ⟨rfl, rfl⟩⟩
  exact h5.1.1.congr (fun b hb => (h3 b hb).1)
end
