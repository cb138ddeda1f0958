/-! the queue's rows and the writes of the mathematical state -/
def RX (pm : Nat → Nat) (G : Nat → RecT) (wm : List Wm) (x : WT) (w : Wm) : Prop := x.2.1 = w.n ∧ x.2.2.1 = w.t ∧ x.2.2.2.1.map G = w.r ∧ (w.r = none → ∀ i, i < 16 → x.2.2.2.2.1 i = nI (w.y i)) ∧ ∀ s, s < 128 → (x.2.2.2.2.2 s = true ↔ ∃ (j : Nat) (v : Wm), wm[j]? = some v ∧ pm j = s ∧ w.d v.n = true)
def RW (pm : Nat → Nat) (G : Nat → RecT) (ws : List WT) (wm : List Wm) : Prop := ws.length = wm.length ∧ ∀ (k : Nat) (x : WT) (w : Wm), ws[k]? = some x → wm[k]? = some w → RX pm G wm x w
/-- the seats: pm is one to one -/
def PmI (pm : Nat → Nat) : Prop := (∀ k, k < 120 → pm k < 120) ∧ ∀ i j, i < 120 → j < 120 → pm i = pm j → i = j
theorem lst_max (p : Nat → Bool) : ∀ n k, lst_ p n = some k → ∀ j, k < j → j < n → p j = false
  | 0, k, h, _, _, _ => by cases h
  | n + 1, k, h, j, h1, h2 => by
    have h : (if p n then some n else lst_ p n) = some k := h
    cases hp : p n with
    | true => rw [hp, if_pos rfl] at h; cases h; omega
    | false =>
      rw [hp, if_neg (by decide)] at h
      by_cases e : j = n
      · rw [e]; exact hp
      · exact lst_max p n k h j h1 (by omega)
theorem lst_none (p : Nat → Bool) : ∀ n, lst_ p n = none → ∀ j, j < n → p j = false
  | 0, _, j, h => by omega
  | n + 1, h, j, h2 => by
    have h : (if p n then some n else lst_ p n) = none := h
    cases hp : p n with
    | true => rw [hp, if_pos rfl] at h; cases h
    | false =>
      rw [hp, if_neg (by decide)] at h
      by_cases e : j = n
      · rw [e]; exact hp
      · exact lst_none p n h j (by omega)
section
variable {pm : Nat → Nat} {G : Nat → RecT} {ws : List WT} {wm : List Wm} {md : Nat} {dk : Nat → Nat} {dk2 : Nat → Nat → Nat}
theorem RW.at_ (h : RW pm G ws wm) {k : Nat} {w : Wm} (hw : wm[k]? = some w) : ∃ x, ws[k]? = some x ∧ RX pm G wm x w := by
  have hk := (List.getElem?_eq_some_iff.mp hw).1
  have hx : ws[k]? = some (ws[k]'(by rw [h.1]; exact hk)) := List.getElem?_eq_getElem _
  exact ⟨_, hx, h.2 k _ _ hx hw⟩
theorem RW.at' (h : RW pm G ws wm) {k : Nat} {x : WT} (hx : ws[k]? = some x) : ∃ w, wm[k]? = some w ∧ RX pm G wm x w := by
  have hk := (List.getElem?_eq_some_iff.mp hx).1
  have hw : wm[k]? = some (wm[k]'(by rw [← h.1]; exact hk)) := List.getElem?_eq_getElem _
  exact ⟨_, hw, h.2 k _ _ hx hw⟩
theorem RW.tgt (h : RW pm G ws wm) (b k : Nat) : tgtP ws b k = true ↔ ∃ w, wm[k]? = some w ∧ w.t = b := by
  unfold tgtP
  cases hx : ws[k]? with
  | none =>
    constructor
    · intro c; cases c
    · intro ⟨w, hw, _⟩
      obtain ⟨x, hx2, _⟩ := h.at_ hw
      rw [hx] at hx2; cases hx2
  | some x =>
    obtain ⟨w, hw, r⟩ := h.at' hx
    show decide (x.2.2.1 = b) = true ↔ _
    rw [decide_eq_true_eq, r.2.1]
    constructor
    · intro e; exact ⟨w, hw, e⟩
    · intro ⟨w2, hw2, e⟩
      rw [hw] at hw2; cases hw2
      exact e
theorem idx_lt (hN : NbI md wm) {i j : Nat} {x y : Wm} (hi : wm[i]? = some x) (hj : wm[j]? = some y) : i < j ↔ x.n < y.n := by
  have hp := hN.1
  rw [List.pairwise_iff_getElem] at hp
  obtain ⟨i1, i2⟩ := List.getElem?_eq_some_iff.mp hi
  obtain ⟨j1, j2⟩ := List.getElem?_eq_some_iff.mp hj
  constructor
  · intro lt
    have := hp i j i1 j1 lt
    rw [i2, j2] at this
    exact this
  · intro lt
    refine Nat.lt_of_not_le (fun c => ?_)
    rcases Nat.lt_or_eq_of_le c with c | c
    · have := hp j i j1 i1 c
      rw [i2, j2] at this
      omega
    · subst c
      rw [hi] at hj
      cases hj
      omega
theorem idx_eq (hN : NbI md wm) {i j : Nat} {x y : Wm} (hi : wm[i]? = some x) (hj : wm[j]? = some y) (e : x.n = y.n) : i = j := by
  have h1 := idx_lt hN hi hj
  have h2 := idx_lt hN hj hi
  omega
theorem RW.wAt_some (h : RW pm G ws wm) (hN : NbI md wm) {b k : Nat} (hk : wAt ws b = some k) : ∃ w, wm[k]? = some w ∧ w.t = b ∧ vw dk2 wm b = w.y := by
  unfold wAt at hk
  obtain ⟨p1, p2⟩ := lst_spec _ _ _ hk
  obtain ⟨w, hw, tw⟩ := (h.tgt b k).mp p1
  refine ⟨w, hw, tw, vw_last hN.1 (List.mem_iff_getElem?.mpr ⟨k, hw⟩) tw (fun y hy ty => ?_)⟩
  obtain ⟨j, hj⟩ := List.mem_iff_getElem?.mp hy
  refine Nat.le_of_not_lt (fun c => ?_)
  have lt := (idx_lt hN hw hj).mpr c
  have hjl := (List.getElem?_eq_some_iff.mp hj).1
  have := lst_max _ _ _ hk j lt (by rw [h.1]; exact hjl)
  rw [(h.tgt b j).mpr ⟨y, hj, ty⟩] at this
  cases this
theorem RW.wAt_none (h : RW pm G ws wm) {b : Nat} (hk : wAt ws b = none) : ∀ y, y ∈ wm → y.t ≠ b := by
  intro y hy ty
  obtain ⟨j, hj⟩ := List.mem_iff_getElem?.mp hy
  have hjl := (List.getElem?_eq_some_iff.mp hj).1
  have := lst_none _ _ hk j (by rw [h.1]; exact hjl)
  rw [(h.tgt b j).mpr ⟨y, hj, ty⟩] at this
  cases this
theorem RW.rn (hN : NbI md wm) {k : Nat} {w : Wm} (hw : wm[k]? = some w) (ht : w.t < 128) : w.r = none := by
  cases hr : w.r with
  | none => rfl
  | some q =>
    have := (hN.2 w (List.mem_iff_getElem?.mpr ⟨k, hw⟩)).2.2.2 q hr
    omega
theorem RW.bv_ (h : RW pm G ws wm) (hN : NbI md wm) (hB : BtI dk2 wm) (hd : ∀ b i, b < 128 → i < 16 → dk (16 * b + i) = dk2 b i) {b i : Nat} (hb : b < 128) (hi : i < 16) : bv dk ws b i = vw dk2 wm b i := by
  unfold bv
  cases hk : wAt ws b with
  | none =>
    rw [vw_none (h.wAt_none hk)]
    exact hd b i hb hi
  | some k =>
    obtain ⟨w, hw, tw, vw_⟩ := h.wAt_some (dk2 := dk2) hN hk
    obtain ⟨x, hx, r⟩ := h.at_ hw
    have hr := RW.rn hN hw (by omega)
    rw [vw_]
    show (match ws[k]? with
      | some x => byN x i
      | none => 0) = _
    rw [hx]
    show (x.2.2.2.2.1 i).toInt.toNat = _
    have h2 := hB.2 w (List.mem_iff_getElem?.mpr ⟨k, hw⟩) hr i
    rw [r.2.2.2.1 hr i hi, nT (by omega)]
    omega
theorem RW.okW_ (h : RW pm G ws wm) (hN : NbI md wm) (hB : BtI dk2 wm) : okW ws := by
  intro k x hx ht i hi
  obtain ⟨w, hw, r⟩ := h.at' hx
  have hr := RW.rn hN hw (by rw [← r.2.1]; exact ht)
  have h2 := hB.2 w (List.mem_iff_getElem?.mpr ⟨k, hw⟩) hr i
  have e : byN x i = w.y i := by
    unfold byN
    rw [r.2.2.2.1 hr i hi, nT (by omega)]
    omega
  rw [e]
  exact ⟨r.2.2.2.1 hr i hi, h2⟩
theorem RW.ln_ (h : RW pm G ws wm) (hN : NbI md wm) (hB : BtI dk2 wm) (hd : ∀ b i, b < 128 → i < 16 → dk (16 * b + i) = dk2 b i) {p : Nat} (hp : p < 128) : lnA dk ws p = lnS (vw dk2 wm) p := h.bv_ hN hB hd hp (by omega)
theorem RW.nb_ (h : RW pm G ws wm) (hN : NbI md wm) (hB : BtI dk2 wm) (hd : ∀ b i, b < 128 → i < 16 → dk (16 * b + i) = dk2 b i) {p : Nat} (hp : p < 128) : nbA dk ws p = nbS (vw dk2 wm) p := by
  unfold nbA nbS
  rw [h.ln_ hN hB hd hp]
  rfl
theorem RW.ct_ (h : RW pm G ws wm) (hN : NbI md wm) (hB : BtI dk2 wm) (hd : ∀ b i, b < 128 → i < 16 → dk (16 * b + i) = dk2 b i) {p n : Nat} (hp : p + (n + 5) / 16 < 128) : ctA dk ws p n = ctS (vw dk2 wm) p n := by
  unfold ctA ctS
  refine List.map_congr_left (fun k hk => ?_)
  rw [List.mem_range] at hk
  exact h.bv_ hN hB hd (by omega) (by omega)
theorem RW.us_ (h : RW pm G ws wm) (C : List Nat × Nat) (p : Nat) : ∀ n, usN ws C p n = usC wm C p n
  | 0 => rfl
  | n + 1 => by
    show usB ws (usN ws C p n) (p + n) = usM wm (usC wm C p n) (p + n)
    rw [h.us_ C p n]
    unfold usB usM
    cases hk : wAt ws (p + n) with
    | none =>
      rw [if_neg]
      intro c
      rw [List.any_eq_true] at c
      obtain ⟨y, hy, ty⟩ := c
      rw [beq_iff_eq] at ty
      exact h.wAt_none hk y hy ty
    | some k =>
      unfold wAt at hk
      obtain ⟨p1, p2⟩ := lst_spec _ _ _ hk
      obtain ⟨w, hw, tw⟩ := (h.tgt (p + n) k).mp p1
      rw [if_pos]
      rw [List.any_eq_true]
      exact ⟨w, List.mem_iff_getElem?.mpr ⟨k, hw⟩, by rw [beq_iff_eq]; exact tw⟩
/-- the emptier's seat -/
theorem RW.nu_ (h : RW pm G ws wm) (hN : NbI md wm) (o : Option Nat) (s : Nat) : seB pm (nuA ws o) s = true ↔ ∃ (j : Nat) (v : Wm), wm[j]? = some v ∧ pm j = s ∧ emD wm o v.n = true := by
  have em : ∀ i, emP ws o i = true ↔ ∃ w, wm[i]? = some w ∧ o = some w.n := by
    intro i
    unfold emP
    cases hx : ws[i]? with
    | none =>
      constructor
      · intro c; cases c
      · intro ⟨w, hw, _⟩
        obtain ⟨x, hx2, _⟩ := h.at_ hw
        rw [hx] at hx2; cases hx2
    | some x =>
      obtain ⟨w, hw, r⟩ := h.at' hx
      show decide (o = some x.2.1) = true ↔ _
      rw [decide_eq_true_eq, r.1]
      constructor
      · intro e; exact ⟨w, hw, e⟩
      · intro ⟨w2, hw2, e⟩
        rw [hw] at hw2; cases hw2
        exact e
  cases hk : nuA ws o with
  | none =>
    constructor
    · intro c; cases c
    · intro ⟨j, v, hv, _, e⟩
      obtain ⟨e1, _⟩ := emD_iff.mp e
      have hjl := (List.getElem?_eq_some_iff.mp hv).1
      have := fst_none _ _ _ hk j (by omega) (by have := h.1; omega)
      rw [(em j).mpr ⟨v, hv, e1⟩] at this
      cases this
  | some i =>
    obtain ⟨p1, p2, p3⟩ := fst_spec _ _ _ _ hk
    obtain ⟨w, hw, e1⟩ := (em i).mp p1
    show decide (s = pm i) = true ↔ _
    rw [decide_eq_true_eq]
    constructor
    · intro e
      exact ⟨i, w, hw, e.symm, emD_iff.mpr ⟨e1, w, List.mem_iff_getElem?.mpr ⟨i, hw⟩, rfl⟩⟩
    · intro ⟨j, v, hv, ej, e⟩
      obtain ⟨e2, _⟩ := emD_iff.mp e
      rw [e1] at e2
      have e3 : w.n = v.n := Option.some.inj e2
      have := idx_eq hN hw hv e3
      rw [this, ej]
end
