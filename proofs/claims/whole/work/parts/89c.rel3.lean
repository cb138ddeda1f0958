theorem rcB_iff {pm : Nat → Nat} {c : Nat → Bool} {s : Nat} : ∀ n, rcB pm c n s = true ↔ ∃ k, k < n ∧ c k = true ∧ pm k = s
  | 0 => ⟨fun h => (by cases h), fun ⟨k, hk, _⟩ => (by omega)⟩
  | n + 1 => by
    show (rcB pm c n s || (c n && decide (s = pm n))) = true ↔ _
    rw [Bool.or_eq_true, rcB_iff n, Bool.and_eq_true, decide_eq_true_eq]
    constructor
    · intro h
      rcases h with ⟨k, h1, h2⟩ | ⟨h1, h2⟩
      · exact ⟨k, by omega, h2⟩
      · exact ⟨n, by omega, h1, h2.symm⟩
    · intro ⟨k, h1, h2, h3⟩
      by_cases c : k = n
      · subst c; exact Or.inr ⟨h2, h3.symm⟩
      · exact Or.inl ⟨k, by omega, h2, h3⟩
section
variable {pm : Nat → Nat} {G : Nat → RecT} {ws : List WT} {wm : List Wm} {md : Nat} {dk : Nat → Nat} {dk2 : Nat → Nat → Nat}
theorem RW.congrG {G2 : Nat → RecT} (h : RW pm G ws wm) (hG : ∀ (k : Nat) (x : WT) (a : Nat), ws[k]? = some x → x.2.2.2.1 = some a → G2 a = G a) : RW pm G2 ws wm := by
  refine ⟨h.1, fun k x w h1 h2 => ?_⟩
  obtain ⟨r1, r2, r3, r4, r5⟩ := h.2 k x w h1 h2
  refine ⟨r1, r2, ?_, r4, r5⟩
  rw [← r3]
  cases ha : x.2.2.2.1 with
  | none => rfl
  | some a => show some (G2 a) = some (G a); rw [hG k x a h1 ha]
theorem RW.rec_ {a own : Nat} {q : RecT} {e0 lw : Option Nat} {by_ : Nat → Int32} {y : Nat → Nat} {tb : TbT} {S : Nat → Nat → Nat} {bits : Nat → Bool} (h : RW pm G ws wm) (hN : NbI md wm) (ha : G a = q) (hb : ∀ s, bits s = (seB pm (nuA ws lw) s || rcB pm (cR ws own e0) ws.length s)) : RW pm G (ws ++ [(pm ws.length, md, 128 + q.1 % 2, some a, by_, bits)]) (wm ++ [wmk md (128 + q.1 % 2) (some q) y (rdD wm lw own e0) tb S]) := by
  have hnum : ∀ (nw : List Wm) (j : Nat) (v : Wm), (∀ v, v ∈ nw → md ≤ v.n) → (wm ++ nw)[j]? = some v → v.n < md → wm[j]? = some v := by
    intro nw j v hn hv hlt
    rcases get_app hv with hv | ⟨_, hv⟩
    · exact hv
    · have := hn v (List.mem_of_getElem? hv)
      omega
  have hcR : ∀ k v, wm[k]? = some v → (cR ws own e0 k = true ↔ wm.length - own ≤ k ∨ (v.t < 128 ∧ e0 = some (v.t / 16))) := by
    intro k v hv
    obtain ⟨x, hx, r⟩ := h.at_ hv
    unfold cR
    rw [hx, h.1, Bool.or_eq_true, decide_eq_true_eq]
    show _ ∨ (decide (_ < 128) && (e0 == _)) = true ↔ _
    rw [Bool.and_eq_true, decide_eq_true_eq, beq_iff_eq, r.2.1]
  have hmd : ∀ v, v ∈ [wmk md (128 + q.1 % 2) (some q) y (rdD wm lw own e0) tb S] → md ≤ v.n := by
    intro v hv
    rw [List.mem_singleton.mp hv]
    exact Nat.le_refl _
  refine h.app hN hmd rfl (fun k x w h1 h2 => ?_)
  cases k with
  | succ k => simp at h1
  | zero =>
    have h1 := Option.some.inj h1
    have h2 := Option.some.inj h2
    subst h1
    subst h2
    refine ⟨rfl, rfl, by show some (G a) = some q; rw [ha], fun c => (by cases c), fun s hs => ?_⟩
    show bits s = true ↔ ∃ (j : Nat) (v : Wm), _ ∧ _ ∧ rdD wm lw own e0 v.n = true
    rw [hb, Bool.or_eq_true, h.nu_ hN lw s, rcB_iff]
    have hget : ∀ (j : Nat) (v : Wm), wm[j]? = some v → (wm ++ [wmk md (128 + q.1 % 2) (some q) y (rdD wm lw own e0) tb S])[j]? = some v := by
      intro j v hv
      rw [List.getElem?_append_left (List.getElem?_eq_some_iff.mp hv).1]
      exact hv
    constructor
    · intro hh
      rcases hh with ⟨j, v, hv, e, d⟩ | ⟨k, hk, hc, e⟩
      · exact ⟨j, v, hget j v hv, e, rdD_iff.mpr (Or.inl (emD_iff.mp d))⟩
      · have hv : wm[k]? = some (wm[k]'(by rw [← h.1]; exact hk)) := List.getElem?_eq_getElem _
        refine ⟨k, _, hget k _ hv, e, rdD_iff.mpr ?_⟩
        rcases (hcR k _ hv).mp hc with c1 | ⟨c1, c2⟩
        · refine Or.inr (Or.inl ⟨_, ?_, rfl⟩)
          refine List.mem_iff_getElem?.mpr ⟨k - (wm.length - own), ?_⟩
          rw [List.getElem?_drop, show wm.length - own + (k - (wm.length - own)) = k by omega]
          exact hv
        · exact Or.inr (Or.inr ⟨_, _, c2, List.mem_of_getElem? hv, rfl, c1, rfl⟩)
    · intro ⟨j, v, hv, e, d⟩
      rcases rdD_iff.mp d with d | ⟨u, hu, eu⟩ | ⟨e1, u, he, hu, eu, c1, c2⟩
      · obtain ⟨u, hu, eu⟩ := d.2
        have hv2 := hnum _ j v hmd hv (by have := (hN.2 u hu).1; omega)
        exact Or.inl ⟨j, v, hv2, e, emD_iff.mpr d⟩
      · have hu2 := List.mem_of_mem_drop hu
        have hv2 := hnum _ j v hmd hv (by have := (hN.2 u hu2).1; omega)
        obtain ⟨i, hi⟩ := List.mem_iff_getElem?.mp hu
        rw [List.getElem?_drop] at hi
        have := idx_eq hN hi hv2 eu
        have hjl := (List.getElem?_eq_some_iff.mp hv2).1
        exact Or.inr ⟨j, by rw [h.1]; exact hjl, (hcR j v hv2).mpr (Or.inl (by omega)), e⟩
      · have hv2 := hnum _ j v hmd hv (by have := (hN.2 u hu).1; omega)
        have := nb_inj hN hu (List.mem_of_getElem? hv2) eu
        subst this
        have hjl := (List.getElem?_eq_some_iff.mp hv2).1
        exact Or.inr ⟨j, by rw [h.1]; exact hjl, (hcR j u hv2).mpr (Or.inr ⟨c1, by rw [he, c2]⟩), e⟩
/-- one landed -/
theorem RW.gone_ {p : Nat} (h : RW pm G ws wm) (hN : NbI md wm) (hp : PmI pm) (hl : ws.length ≤ 120) (hlt : p < ws.length) : RW (pmR pm p ws.length) G (wsR ws p (pm p)) (wm.eraseIdx p) := by
  have hlm := h.1
  refine ⟨by rw [wsR_len hlt, List.length_eraseIdx_of_lt (by omega), hlm], fun k x w h1 h2 => ?_⟩
  rw [List.getElem?_eraseIdx] at h2
  -- the others, by their places
  have hE : ∀ (s : Nat) (P : Wm → Prop), (∃ (j : Nat) (v : Wm), (wm.eraseIdx p)[j]? = some v ∧ pmR pm p ws.length j = s ∧ P v) ↔ ∃ (j : Nat) (v : Wm), wm[j]? = some v ∧ j ≠ p ∧ pm j = s ∧ P v := by
    intro s P
    constructor
    · intro ⟨j, v, hv, e, hP⟩
      rw [List.getElem?_eraseIdx] at hv
      unfold pmR at e
      by_cases c : j < p
      · rw [if_pos c] at hv e
        exact ⟨j, v, hv, by omega, e, hP⟩
      · rw [if_neg c] at hv e
        have hjl := (List.getElem?_eq_some_iff.mp hv).1
        rw [if_pos (by omega)] at e
        exact ⟨j + 1, v, hv, by omega, e, hP⟩
    · intro ⟨j, v, hv, hj, e, hP⟩
      have hjl := (List.getElem?_eq_some_iff.mp hv).1
      by_cases c : j < p
      · refine ⟨j, v, ?_, ?_, hP⟩
        · rw [List.getElem?_eraseIdx, if_pos c]; exact hv
        · unfold pmR; rw [if_pos c]; exact e
      · refine ⟨j - 1, v, ?_, ?_, hP⟩
        · rw [List.getElem?_eraseIdx, if_neg (by omega), show j - 1 + 1 = j by omega]; exact hv
        · unfold pmR; rw [if_neg (by omega), if_pos (by omega), show j - 1 + 1 = j by omega]; exact e
  rcases wsR_get hlt h1 with ⟨c, hx⟩ | ⟨c, z, hz, ex⟩
  · rw [if_pos c] at h2
    obtain ⟨r1, r2, r3, r4, r5⟩ := h.2 k x w hx h2
    refine ⟨r1, r2, r3, r4, fun s hs => ?_⟩
    rw [r5 s hs, hE s (fun v => w.d v.n = true)]
    constructor
    · intro ⟨j, v, hv, e, d⟩
      have h3 := (hN.2 w (List.mem_of_getElem? h2)).2.1 v.n d
      have := (idx_lt hN hv h2).mpr h3
      exact ⟨j, v, hv, by omega, e, d⟩
    · intro ⟨j, v, hv, _, e, d⟩
      exact ⟨j, v, hv, e, d⟩
  · rw [if_neg (by omega)] at h2
    obtain ⟨r1, r2, r3, r4, r5⟩ := h.2 (k + 1) z w hz h2
    subst ex
    refine ⟨r1, r2, r3, r4, fun s hs => ?_⟩
    show (z.2.2.2.2.2 s && !decide (s = pm p)) = true ↔ _
    rw [Bool.and_eq_true, r5 s hs, hE s (fun v => w.d v.n = true)]
    constructor
    · intro ⟨⟨j, v, hv, e, d⟩, ne⟩
      refine ⟨j, v, hv, fun c2 => ?_, e, d⟩
      rw [c2] at e
      simp at ne
      exact ne e.symm
    · intro ⟨j, v, hv, hj, e, d⟩
      refine ⟨⟨j, v, hv, e, d⟩, ?_⟩
      have hjl := (List.getElem?_eq_some_iff.mp hv).1
      simp
      intro c2
      exact hj (hp.2 j p (by omega) (by omega) (by rw [e, c2]))
theorem cntB_add {p : Nat → Bool} {t : Nat} (hp : p t = false) : ∀ n, t < n → cnt (fun s => p s || decide (s = t)) n = cnt p n + 1
  | 0, h => by omega
  | n + 1, h => by
    show cnt (fun s => p s || decide (s = t)) n + (if (p n || decide (n = t)) then 1 else 0) = cnt p n + (if p n then 1 else 0) + 1
    by_cases c : n = t
    · subst c
      have e : cnt (fun s => p s || decide (s = n)) n = cnt p n := cnt_congr n (fun i hi => by
        show (p i || decide (i = n)) = p i
        rw [show decide (i = n) = false from decide_eq_false (by omega), Bool.or_false])
      rw [e, hp]
      simp
    · rw [cntB_add hp n (by omega), show decide (n = t) = false from decide_eq_false c, Bool.or_false]
      omega
theorem cnt_rcB (hp : PmI pm) (c : Nat → Bool) {N : Nat} (hN : 120 ≤ N) : ∀ m, m ≤ 120 → cnt (rcB pm c m) N = cnt c m
  | 0, _ => cnt_0 _ _ (fun _ _ => rfl)
  | m + 1, hm => by
    have ih := cnt_rcB hp c hN m (by omega)
    have e1 : cnt c (m + 1) = cnt c m + (if c m then 1 else 0) := rfl
    rw [e1, ← ih]
    cases hc : c m with
    | false =>
      refine cnt_congr N (fun i _ => ?_)
      show (rcB pm c m i || (c m && decide (i = pm m))) = rcB pm c m i
      rw [hc, Bool.false_and, Bool.or_false]
    | true =>
      have h0 : rcB pm c m (pm m) = false := by
        cases hr : rcB pm c m (pm m) with
        | false => rfl
        | true =>
          obtain ⟨k, h1, _, h3⟩ := (rcB_iff m).mp hr
          have := hp.2 k m (by omega) (by omega) h3
          omega
      have h2 := cntB_add h0 N (by have := hp.1 m (by omega); omega)
      rw [if_pos rfl, ← h2]
      refine cnt_congr N (fun i _ => ?_)
      show (rcB pm c m i || (c m && decide (i = pm m))) = _
      rw [hc, Bool.true_and]
theorem cnt_fil {P : Wm → Bool} {l : List Wm} : ∀ n, n ≤ l.length → cnt (fun k => match l[k]? with
    | some v => P v
    | none => false) n = ((l.take n).filter P).length
  | 0, _ => by simp [cnt]
  | n + 1, h => by
    have ih := cnt_fil (P := P) (l := l) n (by omega)
    show cnt _ n + (if (match l[n]? with
      | some v => P v
      | none => false) then 1 else 0) = _
    rw [ih, List.take_add_one, List.filter_append, List.length_append, List.getElem?_eq_getElem (by omega)]
    congr 1
    show (if P l[n] then 1 else 0) = (([l[n]] : List Wm).filter P).length
    by_cases c : P l[n] = true
    · rw [if_pos c, List.filter_cons_of_pos c]; rfl
    · rw [if_neg c, List.filter_cons_of_neg c]; rfl
theorem RW.left (h : RW pm G ws wm) (hp : PmI pm) (hl : ws.length ≤ 120) {k : Nat} {x : WT} {w : Wm} (hx : ws[k]? = some x) (hw : wm[k]? = some w) : cnt x.2.2.2.2.2 128 = lfM wm w := by
  obtain ⟨_, _, _, _, r5⟩ := h.2 k x w hx hw
  unfold lfM
  have hfull : wm.take wm.length = wm := List.take_length
  rw [← hfull, ← cnt_fil (P := fun v => w.d v.n) (l := wm) wm.length (Nat.le_refl _)]
  rw [← cnt_rcB hp _ (show 120 ≤ 128 by omega) wm.length (by have := h.1; omega)]
  refine cnt_congr 128 (fun s hs => ?_)
  rw [Bool.eq_iff_iff, r5 s hs, rcB_iff]
  constructor
  · intro ⟨j, v, hv, e, d⟩
    refine ⟨j, (List.getElem?_eq_some_iff.mp hv).1, ?_, e⟩
    rw [hv]
    exact d
  · intro ⟨j, hj, d, e⟩
    cases hv : wm[j]? with
    | none => rw [hv] at d; cases d
    | some v => rw [hv] at d; exact ⟨j, v, hv, e, d⟩
theorem RW.rdy (h : RW pm G ws wm) (hp : PmI pm) (hl : ws.length ≤ 120) (i : Nat) : rdyP ws i = rdM wm i := by
  unfold rdyP rdM
  cases hx : ws[i]? with
  | none =>
    cases hw : wm[i]? with
    | none => rfl
    | some w =>
      obtain ⟨x, hx2, _⟩ := h.at_ hw
      rw [hx] at hx2; cases hx2
  | some x =>
    obtain ⟨w, hw, _⟩ := h.at' hx
    rw [hw]
    show (cnt _ 128 == 0) = (lfM wm w == 0)
    rw [h.left hp hl hx hw]
end
