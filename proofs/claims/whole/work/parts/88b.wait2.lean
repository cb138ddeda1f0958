/-! a chunk's writes come behind the others -/
def NwC (ws nw : List Wm) (md md' e o nb : Nat) (em : Nat → Option Nat) : Prop := (nw.Pairwise (fun x y => x.n < y.n) ∧ md ≤ md') ∧ (∀ y, y ∈ nw → (md ≤ y.n ∧ y.n < md') ∧ y.r = none ∧ (16 * e + o ≤ y.t ∧ y.t < 16 * e + o + nb) ∧ (∀ n, y.d n = true → ∃ v, v ∈ ws ∧ v.n = n) ∧ ∀ v, v ∈ ws → em e = some v.n → y.d v.n = true) ∧ ∀ x y, x ∈ nw → y ∈ nw → x.t = y.t → x.n = y.n
section
variable {dk : Nat → Nat → Nat} {ws nw : List Wm} {md md' e nb : Nat} {R : RecT} {g : TbT} {S : Nat → Nat → Nat} {em : Nat → Option Nat} {pt : Nat → Nat}
theorem NwC.noR (c : NwC ws nw md md' e (pt e) nb em) {y : Wm} (hy : y ∈ nw) (h : isRec y) : False := by
  obtain ⟨q, hq⟩ := h
  rw [(c.2.1 y hy).2.1] at hq
  cases hq
theorem NbI.add (h : NbI md ws) (c : NwC ws nw md md' e (pt e) nb em) (he : e < 8) (hn : pt e + nb ≤ 16) : NbI md' (ws ++ nw) := by
  refine ⟨List.pairwise_append.mpr ⟨h.1, c.1.1, fun x hx y hy => ?_⟩, fun x hx => ?_⟩
  · have h1 := (h.2 x hx).1
    have h2 := (c.2.1 y hy).1
    omega
  · rcases List.mem_append.mp hx with hx | hx
    · obtain ⟨h1, h2⟩ := h.2 x hx
      exact ⟨by have := c.1.2; omega, h2⟩
    · obtain ⟨h1, h2, h3, h4, _⟩ := c.2.1 x hx
      refine ⟨h1.2, fun n hd => ?_, fun _ => by omega, fun q hq => by rw [h2] at hq; cases hq⟩
      obtain ⟨v, hv, ev⟩ := h4 n hd
      have := (h.2 v hv).1
      omega
theorem OrI.add (h : OrI ws) (hP : PtI ws em pt R) (c : NwC ws nw md md' e (pt e) nb em) (he : e < 8) (hn : pt e + nb ≤ 16) (hN : NbI md ws) : OrI (ws ++ nw) := by
  refine ⟨fun x y hx hy rx ry ht hlt => ?_, fun w v hw hv rw_ rv hlt => ?_⟩
  · rcases List.mem_append.mp hx with hx | hx <;> rcases List.mem_append.mp hy with hy | hy
    · obtain ⟨v, hv, h1, h2⟩ := h.1 x y hx hy rx ry ht hlt
      exact ⟨v, by simp [hv], h1, h2⟩
    · obtain ⟨h1, h2, h3, h4, h5⟩ := c.2.1 y hy
      rcases (hP e he).2.2 x hx rx (by omega) with h6 | ⟨v, hv, rv, ev, dv⟩
      · omega
      · exact ⟨v, by simp [hv], h5 v hv ev, dv⟩
    · have h1 := (hN.2 y hy).1
      have h2 := (c.2.1 x hx).1
      omega
    · have := c.2.2 x y hx hy ht
      omega
  · rcases List.mem_append.mp hw with hw | hw
    · rcases List.mem_append.mp hv with hv | hv
      · obtain ⟨u, hu, h1⟩ := h.2 w v hw hv rw_ rv hlt
        exact ⟨u, by simp [hu], h1⟩
      · exact (c.noR hv rv).elim
    · exact (c.noR hw rw_).elim
theorem D0I.add (h : D0I dk ws g S) (hP : PtI ws em pt R) (hG : GhI ws R g S) (c : NwC ws nw md md' e (pt e) nb em) (he : e < 8) (hn : pt e + nb ≤ 16) : D0I dk (ws ++ nw) g S := by
  intro b hb
  obtain ⟨h1, h2⟩ := h b hb
  refine ⟨h1, fun x hx tx => ?_⟩
  rcases List.mem_append.mp hx with hx | hx
  · obtain ⟨v, hv, h3⟩ := h2 x hx tx
    exact ⟨v, by simp [hv], h3⟩
  · obtain ⟨k1, k2, k3, k4, k5⟩ := c.2.1 x hx
    have h3 := hb.lt hG.1.1
    have e2 : b / 16 = e := by omega
    rcases (hP e he).1 with h6 | ⟨v, hv, rv, ev⟩
    · rw [e2] at h3
      omega
    · exact ⟨v, by simp [hv], rv, k5 v hv ev⟩
theorem DwI.add (h : DwI dk ws) (hP : PtI ws em pt R) (hG : GhI ws R g S) (hN : NbI md ws) (c : NwC ws nw md md' e (pt e) nb em) (he : e < 8) (hn : pt e + nb ≤ 16) : DwI dk (ws ++ nw) := by
  intro w hw rw_ b hb
  rcases List.mem_append.mp hw with hw | hw
  · obtain ⟨h1, h2⟩ := h w hw rw_ b hb
    have wn := (hN.2 w hw).1
    refine ⟨fun x hx tx lx => ?_, ?_⟩
    · rcases List.mem_append.mp hx with hx | hx
      · obtain ⟨v, hv, h3⟩ := h1 x hx tx lx
        exact ⟨v, by simp [hv], h3⟩
      · obtain ⟨k1, k2, k3, k4, k5⟩ := c.2.1 x hx
        obtain ⟨q, hq⟩ := rw_
        have h3 := hb.lt (hG.2 w q hw hq).1
        have e2 : b / 16 = e := by omega
        rcases (hP e he).2.1 w q hw hq with h6 | ⟨v, hv, rv, ev, lv⟩
        · rw [e2] at h3
          omega
        · exact ⟨v, by simp [hv], rv, lv, k5 v hv ev⟩
    · rcases h2 with ⟨z, hz, tz, lz, mz, yz, dz⟩ | ⟨hno, hdk⟩ | ⟨v, hv, rv, dv, bv, sv, nv⟩
      · refine Or.inl ⟨z, by simp [hz], tz, lz, fun y hy ty ly => ?_, yz, ?_⟩
        · rcases List.mem_append.mp hy with hy | hy
          · exact mz y hy ty ly
          · have := (c.2.1 y hy).1
            omega
        · rcases dz with dz | ⟨u, hu, d1, d2⟩
          · exact Or.inl dz
          · exact Or.inr ⟨u, by simp [hu], d1, d2⟩
      · refine Or.inr (Or.inl ⟨fun y hy ty => ?_, hdk⟩)
        rcases List.mem_append.mp hy with hy | hy
        · exact hno y hy ty
        · have := (c.2.1 y hy).1
          omega
      · refine Or.inr (Or.inr ⟨v, by simp [hv], rv, dv, bv, sv, fun y hy ty => ?_⟩)
        rcases List.mem_append.mp hy with hy | hy
        · exact nv y hy ty
        · have := (c.2.1 y hy).1
          omega
  · exact (c.noR hw rw_).elim
theorem PtI.add (h : PtI ws em pt R) (c : NwC ws nw md md' e (pt e) nb em) (he : e < 8) (hn : pt e + nb ≤ 16) : PtI (ws ++ nw) em (upn pt e (pt e + nb)) R := by
  have hle : ∀ i, pt i ≤ upn pt e (pt e + nb) i := by
    intro i
    unfold upn
    by_cases hi : i = e
    · rw [if_pos hi, hi]; omega
    · rw [if_neg hi]; exact Nat.le_refl _
  intro i hi
  obtain ⟨h1, h2, h3⟩ := h i hi
  have hl := hle i
  refine ⟨?_, fun w q hw hq => ?_, fun y hy ry ty => ?_⟩
  · rcases h1 with h1 | ⟨v, hv, rv, ev⟩
    · exact Or.inl (by omega)
    · exact Or.inr ⟨v, by simp [hv], rv, ev⟩
  · rcases List.mem_append.mp hw with hw | hw
    · rcases h2 w q hw hq with h1 | ⟨v, hv, rv, ev⟩
      · exact Or.inl (by omega)
      · exact Or.inr ⟨v, by simp [hv], rv, ev⟩
    · exact (c.noR hw ⟨q, hq⟩).elim
  · rcases List.mem_append.mp hy with hy | hy
    · rcases h3 y hy ry ty with h1 | ⟨v, hv, rv, ev⟩
      · exact Or.inl (by omega)
      · exact Or.inr ⟨v, by simp [hv], rv, ev⟩
    · obtain ⟨k1, k2, k3, k4, k5⟩ := c.2.1 y hy
      have e2 : i = e := by omega
      left
      unfold upn
      rw [if_pos e2]
      omega
theorem GhI.add (h : GhI ws R g S) (c : NwC ws nw md md' e (pt e) nb em) : GhI (ws ++ nw) R g S := by
  refine ⟨h.1, fun w q hw hq => ?_⟩
  rcases List.mem_append.mp hw with hw | hw
  · exact h.2 w q hw hq
  · exact (c.noR hw ⟨q, hq⟩).elim
theorem LtI.add {la : RecT} {lw : Option Nat} {tb : TbT} (h : LtI ws R g la lw tb) (hlw : ∀ n, lw = some n → n < md) (c : NwC ws nw md md' e (pt e) nb em) : LtI (ws ++ nw) R g la lw tb := by
  obtain ⟨h1, h2, h3⟩ := h
  refine ⟨fun w hw rw_ mw => ?_, fun hno => h2 (fun w hw => hno w (by simp [hw])), fun w hw hl => ?_⟩
  · rcases List.mem_append.mp hw with hw | hw
    · exact h1 w hw rw_ (fun v hv => mw v (by simp [hv]))
    · exact (c.noR hw rw_).elim
  · rcases List.mem_append.mp hw with hw | hw
    · exact h3 w hw hl
    · have h4 := hlw _ hl
      have h5 := (c.2.1 w hw).1
      omega
end
/-! a record comes behind the others -/
def RwC (dk : Nat → Nat → Nat) (ws : List Wm) (md : Nat) (tb : TbT) (q : RecT) (w : Wm) : Prop := (w.n = md ∧ w.r = some q ∧ w.t = 128 + q.1 % 2 ∧ w.g = tb ∧ w.S = vw dk ws) ∧ (∀ n, w.d n = true → ∃ v, v ∈ ws ∧ v.n = n) ∧ (∀ v, v ∈ ws → isRec v → (∀ u, u ∈ ws → isRec u → u.n ≤ v.n) → w.d v.n = true) ∧ ∀ b, Rch nn tb (vw dk ws) b →
  (∃ x, x ∈ ws ∧ x.t = b ∧ (∀ y, y ∈ ws → y.t = b → y.n ≤ x.n) ∧ (w.d x.n = true ∨ ∃ u, u ∈ ws ∧ w.d u.n = true ∧ u.d x.n = true)) ∨ (∀ y, y ∈ ws → y.t ≠ b) ∨ ∃ v, v ∈ ws ∧ isRec v ∧ w.d v.n = true ∧ Rch nn v.g v.S b ∧ v.S b = vw dk ws b ∧ ∀ y, y ∈ ws → y.t = b → y.n < v.n
section
variable {dk : Nat → Nat → Nat} {ws : List Wm} {md : Nat} {R q : RecT} {g tb : TbT} {S : Nat → Nat → Nat} {em em2 : Nat → Option Nat} {pt pt2 : Nat → Nat} {w : Wm}
theorem NbI.rec_ (h : NbI md ws) (c : RwC dk ws md tb q w) : NbI (md + 1) (ws ++ [w]) := by
  refine ⟨List.pairwise_append.mpr ⟨h.1, List.pairwise_singleton _ _, fun x hx y hy => ?_⟩, fun x hx => ?_⟩
  · rw [List.mem_singleton.mp hy, c.1.1]
    exact (h.2 x hx).1
  · rcases List.mem_append.mp hx with hx | hx
    · obtain ⟨h1, h2⟩ := h.2 x hx
      exact ⟨by omega, h2⟩
    · rw [List.mem_singleton.mp hx]
      refine ⟨by rw [c.1.1]; omega, fun n hd => ?_, fun hr => (by rw [c.1.2.1] at hr; cases hr), fun q' hq => (by rw [c.1.2.1] at hq; cases hq; exact c.1.2.2.1)⟩
      obtain ⟨v, hv, ev⟩ := c.2.1 n hd
      have := (h.2 v hv).1
      rw [c.1.1]
      omega
theorem OrI.rec_ (h : OrI ws) (hN : NbI md ws) (c : RwC dk ws md tb q w) : OrI (ws ++ [w]) := by
  refine ⟨fun x y hx hy rx ry ht hlt => ?_, fun a v ha hv ra rv hlt => ?_⟩
  · rcases List.mem_append.mp hx with hx | hx
    · rcases List.mem_append.mp hy with hy | hy
      · obtain ⟨v, hv, h1⟩ := h.1 x y hx hy rx ry ht hlt
        exact ⟨v, by simp [hv], h1⟩
      · rw [List.mem_singleton.mp hy, c.1.2.1] at ry
        cases ry
    · rw [List.mem_singleton.mp hx, c.1.2.1] at rx
      cases rx
  · rcases List.mem_append.mp hv with hv | hv
    · rcases List.mem_append.mp ha with ha | ha
      · obtain ⟨u, hu, h1⟩ := h.2 a v ha hv ra rv hlt
        exact ⟨u, by simp [hu], h1⟩
      · rw [List.mem_singleton.mp ha]
        obtain ⟨z, hz, rz, mz⟩ := max_ex isRec ws ⟨v, hv, rv⟩
        exact ⟨z, by simp [hz], rz, c.2.2.1 z hz rz mz, mz v hv rv⟩
    · rw [List.mem_singleton.mp hv, c.1.1] at hlt
      rcases List.mem_append.mp ha with ha | ha
      · have := (hN.2 a ha).1
        omega
      · rw [List.mem_singleton.mp ha, c.1.1] at hlt
        omega
theorem D0I.rec_ (h : D0I dk ws g S) (hG : GhI ws R g S) (c : RwC dk ws md tb q w) : D0I dk (ws ++ [w]) g S := by
  intro b hb
  obtain ⟨h1, h2⟩ := h b hb
  refine ⟨h1, fun x hx tx => ?_⟩
  rcases List.mem_append.mp hx with hx | hx
  · obtain ⟨v, hv, h3⟩ := h2 x hx tx
    exact ⟨v, by simp [hv], h3⟩
  · rw [List.mem_singleton.mp hx, c.1.2.2.1] at tx
    have := hb.lt hG.1.1
    omega
theorem DwI.rec_ (h : DwI dk ws) (hG : GhI ws R g S) (hN : NbI md ws) (hW : WFS pt2 nn tb (vw dk ws)) (c : RwC dk ws md tb q w) : DwI dk (ws ++ [w]) := by
  have wt : ∀ b, b < 128 → w.t ≠ b := fun b hb => by rw [c.1.2.2.1]; omega
  intro a ha ra b hb
  rcases List.mem_append.mp ha with ha | ha
  · obtain ⟨h1, h2⟩ := h a ha ra b hb
    have b1 : b < 128 := by
      obtain ⟨q, hq⟩ := ra
      exact (hb.lt (hG.2 a q ha hq).1).1
    have mem : ∀ y, y ∈ ws ++ [w] → y.t = b → y ∈ ws := by
      intro y hy ty
      rcases List.mem_append.mp hy with hy | hy
      · exact hy
      · rw [List.mem_singleton.mp hy] at ty
        exact (wt b b1 ty).elim
    refine ⟨fun x hx tx lx => ?_, ?_⟩
    · obtain ⟨v, hv, h3⟩ := h1 x (mem x hx tx) tx lx
      exact ⟨v, by simp [hv], h3⟩
    · rcases h2 with ⟨z, hz, tz, lz, mz, yz, dz⟩ | ⟨hno, hdk⟩ | ⟨v, hv, rv, dv, bv, sv, nv⟩
      · refine Or.inl ⟨z, by simp [hz], tz, lz, fun y hy ty => mz y (mem y hy ty) ty, yz, ?_⟩
        rcases dz with dz | ⟨u, hu, d1, d2⟩
        · exact Or.inl dz
        · exact Or.inr ⟨u, by simp [hu], d1, d2⟩
      · exact Or.inr (Or.inl ⟨fun y hy ty => hno y (mem y hy ty) ty, hdk⟩)
      · exact Or.inr (Or.inr ⟨v, by simp [hv], rv, dv, bv, sv, fun y hy ty => nv y (mem y hy ty) ty⟩)
  · rw [List.mem_singleton.mp ha] at hb ⊢
    rw [c.1.2.2.2.1, c.1.2.2.2.2] at hb
    have b1 := (hb.lt hW).1
    have mem : ∀ y, y ∈ ws ++ [w] → y.t = b → y ∈ ws := by
      intro y hy ty
      rcases List.mem_append.mp hy with hy | hy
      · exact hy
      · rw [List.mem_singleton.mp hy] at ty
        exact (wt b b1 ty).elim
    rw [c.1.1, c.1.2.2.2.2]
    refine ⟨fun x hx tx lx => ?_, ?_⟩
    · have := (hN.2 x (mem x hx tx)).1
      omega
    · rcases c.2.2.2 b hb with ⟨x, hx, tx, mx, dx⟩ | hno | ⟨v, hv, rv, dv, bv, sv, nv⟩
      · refine Or.inl ⟨x, by simp [hx], tx, (hN.2 x hx).1, fun y hy ty _ => mx y (mem y hy ty) ty, (vw_last hN.1 hx tx mx).symm, ?_⟩
        rcases dx with dx | ⟨u, hu, d1, d2⟩
        · exact Or.inl dx
        · exact Or.inr ⟨u, by simp [hu], d1, d2⟩
      · exact Or.inr (Or.inl ⟨fun y hy ty => (hno y (mem y hy ty) ty).elim, (vw_none hno).symm⟩)
      · exact Or.inr (Or.inr ⟨v, by simp [hv], rv, dv, bv, sv, fun y hy ty => Or.inl (nv y (mem y hy ty) ty)⟩)
/-- the pointers of the record are those of the memory; or one extent is emptied with it -/
theorem PtI.rec_ (h : PtI ws em pt R) (hq : q.2.2.2.1 = pt) (hN : NbI md ws) (c : RwC dk ws md tb q w) : PtI (ws ++ [w]) em pt R := by
  intro e he
  obtain ⟨h1, h2, h3⟩ := h e he
  refine ⟨?_, fun a q' ha hq' => ?_, fun y hy ry ty => ?_⟩
  · rcases h1 with h1 | ⟨v, hv, h1⟩
    · exact Or.inl h1
    · exact Or.inr ⟨v, by simp [hv], h1⟩
  · rcases List.mem_append.mp ha with ha | ha
    · rcases h2 a q' ha hq' with h1 | ⟨v, hv, h1⟩
      · exact Or.inl h1
      · exact Or.inr ⟨v, by simp [hv], h1⟩
    · rw [List.mem_singleton.mp ha, c.1.2.1] at hq'
      cases hq'
      rw [hq]
      exact Or.inl (Nat.le_refl _)
  · rcases List.mem_append.mp hy with hy | hy
    · rcases h3 y hy ry ty with h1 | ⟨v, hv, h1⟩
      · exact Or.inl h1
      · exact Or.inr ⟨v, by simp [hv], h1⟩
    · rw [List.mem_singleton.mp hy, c.1.2.1] at ry
      cases ry
theorem PtI.recE {e0 : Nat} (h : PtI ws em pt R) (hq : q.2.2.2.1 = upn pt e0 0) (hN : NbI md ws) (c : RwC dk ws md tb q w) (hd : ∀ x, x ∈ ws → x.r = none → x.t / 16 = e0 → w.d x.n = true) : PtI (ws ++ [w]) (ups em e0 (some md)) (upn pt e0 0) R := by
  intro e he
  obtain ⟨h1, h2, h3⟩ := h e he
  have rw_ : isRec w := ⟨q, c.1.2.1⟩
  by_cases e1 : e = e0
  · have em1 : ups em e0 (some md) e = some w.n := by unfold ups; rw [if_pos e1, c.1.1]
    refine ⟨Or.inr ⟨w, by simp, rw_, em1⟩, fun a q' ha hq' => ?_, fun y hy ry ty => ?_⟩
    · rcases List.mem_append.mp ha with ha | ha
      · exact Or.inr ⟨w, by simp, rw_, em1, by rw [c.1.1]; exact (hN.2 a ha).1⟩
      · rw [List.mem_singleton.mp ha, c.1.2.1] at hq'
        cases hq'
        rw [hq]
        exact Or.inl (Nat.le_refl _)
    · rcases List.mem_append.mp hy with hy | hy
      · exact Or.inr ⟨w, by simp, rw_, em1, hd y hy ry (by rw [ty, e1])⟩
      · rw [List.mem_singleton.mp hy, c.1.2.1] at ry
        cases ry
  · have em1 : ups em e0 (some md) e = em e := by unfold ups; rw [if_neg e1]
    have pt1 : upn pt e0 0 e = pt e := by unfold upn; rw [if_neg e1]
    rw [em1, pt1]
    refine ⟨?_, fun a q' ha hq' => ?_, fun y hy ry ty => ?_⟩
    · rcases h1 with h1 | ⟨v, hv, h1⟩
      · exact Or.inl h1
      · exact Or.inr ⟨v, by simp [hv], h1⟩
    · rcases List.mem_append.mp ha with ha | ha
      · rcases h2 a q' ha hq' with h1 | ⟨v, hv, h1⟩
        · exact Or.inl h1
        · exact Or.inr ⟨v, by simp [hv], h1⟩
      · rw [List.mem_singleton.mp ha, c.1.2.1] at hq'
        cases hq'
        rw [hq, pt1]
        exact Or.inl (Nat.le_refl _)
    · rcases List.mem_append.mp hy with hy | hy
      · rcases h3 y hy ry ty with h1 | ⟨v, hv, h1⟩
        · exact Or.inl h1
        · exact Or.inr ⟨v, by simp [hv], h1⟩
      · rw [List.mem_singleton.mp hy, c.1.2.1] at ry
        cases ry
theorem GhI.rec_ (h : GhI ws R g S) (hW : WFS q.2.2.2.1 nn tb (vw dk ws)) (ht : tb.map Prod.fst = q.2.2.2.2) (c : RwC dk ws md tb q w) : GhI (ws ++ [w]) R g S := by
  refine ⟨h.1, fun a q' ha hq => ?_⟩
  rcases List.mem_append.mp ha with ha | ha
  · exact h.2 a q' ha hq
  · rw [List.mem_singleton.mp ha] at hq ⊢
    rw [c.1.2.1] at hq
    cases hq
    rw [c.1.2.2.2.1, c.1.2.2.2.2]
    exact ⟨hW, ht⟩
theorem LtI.rec_ (hN : NbI md ws) (c : RwC dk ws md tb q w) : LtI (ws ++ [w]) R g q (some md) tb := by
  have rw_ : isRec w := ⟨q, c.1.2.1⟩
  refine ⟨fun a ha ra ma => ?_, fun hno => (hno w (by simp) rw_).elim, fun a ha hl => ?_⟩
  · rcases List.mem_append.mp ha with ha | ha
    · have h1 := ma w (by simp) rw_
      have h2 := (hN.2 a ha).1
      rw [c.1.1] at h1
      omega
    · rw [List.mem_singleton.mp ha]
      exact ⟨by rw [c.1.1], c.1.2.1, c.1.2.2.2.1⟩
  · rcases List.mem_append.mp ha with ha | ha
    · have h2 := (hN.2 a ha).1
      cases hl
      omega
    · rw [List.mem_singleton.mp ha]
      exact rw_
/-- what the record sees: the last write ahead of it, else the disk -/
theorem view_rec (h : DwI dk ws) (hN : NbI md ws) : ∀ (N : Nat) (w : Wm) (b : Nat), w.n ≤ N → w ∈ ws → isRec w → Rch nn w.g w.S b →
    (∃ x, x ∈ ws ∧ x.t = b ∧ x.n < w.n ∧ (∀ y, y ∈ ws → y.t = b → y.n < w.n → y.n ≤ x.n) ∧ x.y = w.S b) ∨ ((∀ y, y ∈ ws → y.t = b → w.n < y.n) ∧ dk b = w.S b) := by
  intro N
  induction N with
  | zero =>
    intro w b hle hw rw_ hb
    rcases (h w hw rw_ b hb).2 with ⟨z, hz, tz, lz, mz, yz, dz⟩ | ⟨hno, hdk⟩ | ⟨v, hv, rv, dv, bv, sv, nv⟩
    · omega
    · exact Or.inr ⟨hno, hdk⟩
    · have := (hN.2 w hw).2.1 v.n dv
      omega
  | succ N ih =>
    intro w b hle hw rw_ hb
    rcases (h w hw rw_ b hb).2 with ⟨z, hz, tz, lz, mz, yz, dz⟩ | ⟨hno, hdk⟩ | ⟨v, hv, rv, dv, bv, sv, nv⟩
    · exact Or.inl ⟨z, hz, tz, lz, mz, yz⟩
    · exact Or.inr ⟨hno, hdk⟩
    · have hlt := (hN.2 w hw).2.1 v.n dv
      rcases ih v b (by omega) hv rv bv with ⟨z, hz, tz, lz, mz, yz⟩ | ⟨hno, hdk⟩
      · refine Or.inl ⟨z, hz, tz, by omega, fun y hy ty ly => ?_, by rw [yz, sv]⟩
        rcases nv y hy ty with h1 | h1
        · exact mz y hy ty h1
        · omega
      · refine Or.inr ⟨fun y hy ty => ?_, by rw [hdk, sv]⟩
        have := hno y hy ty
        rcases nv y hy ty with h1 | h1 <;> omega
/-- the latest record sees what memory sees -/
theorem view_last (h : DwI dk ws) (hN : NbI md ws) (hw : w ∈ ws) (rw_ : isRec w) (mw : ∀ v, v ∈ ws → isRec v → v.n ≤ w.n) (hG : GhI ws R g S) {b : Nat} (hb : Rch nn w.g w.S b) : vw dk ws b = w.S b ∧ ∀ y, y ∈ ws → y.t = b → y.n < w.n := by
  have hb1 : b < 128 := by
    obtain ⟨q, hq⟩ := rw_
    exact (hb.lt (hG.2 w q hw hq).1).1
  have hno : ∀ y, y ∈ ws → y.t = b → y.n < w.n := by
    intro y hy ty
    refine Nat.lt_of_not_le (fun c => ?_)
    by_cases e : y.n = w.n
    · rw [nb_inj hN hy hw e] at ty
      obtain ⟨q, hq⟩ := rw_
      have := (hN.2 w hw).2.2.2 q hq
      omega
    · obtain ⟨v, hv, rv, lv, _⟩ := (h w hw rw_ b hb).1 y hy ty (by omega)
      have := mw v hv rv
      omega
  refine ⟨?_, hno⟩
  rcases view_rec h hN w.n w b (Nat.le_refl _) hw rw_ hb with ⟨x, hx, tx, lx, mx, yx⟩ | ⟨h1, h2⟩
  · rw [vw_last hN.1 hx tx (fun y hy ty => mx y hy ty (hno y hy ty)), yx]
  · rw [vw_none (fun y hy ty => by have := hno y hy ty; have := h1 y hy ty; omega), h2]
theorem view_last0 (h : D0I dk ws g S) (hno : ∀ w, w ∈ ws → ¬ isRec w) {b : Nat} (hb : Rch nn g S b) : vw dk ws b = S b ∧ ∀ y, y ∈ ws → y.t ≠ b := by
  obtain ⟨h1, h2⟩ := h b hb
  have hn : ∀ y, y ∈ ws → y.t ≠ b := by
    intro y hy ty
    obtain ⟨v, hv, rv, _⟩ := h2 y hy ty
    exact hno v hv rv
  exact ⟨by rw [vw_none hn, h1], hn⟩
end
