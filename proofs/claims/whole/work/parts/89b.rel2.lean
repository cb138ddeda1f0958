section
variable {pm : Nat → Nat} {G : Nat → RecT} {ws : List WT} {wm : List Wm} {md : Nat} {dk : Nat → Nat} {dk2 : Nat → Nat → Nat}
theorem get_app {α : Type} {l r : List α} {j : Nat} {x : α} (h : (l ++ r)[j]? = some x) : l[j]? = some x ∨ (l.length ≤ j ∧ r[j - l.length]? = some x) := by
  by_cases c : j < l.length
  · rw [List.getElem?_append_left c] at h
    exact Or.inl h
  · rw [List.getElem?_append_right (by omega)] at h
    exact Or.inr ⟨by omega, h⟩
/-- writes behind: the bits of those that were there stay -/
theorem RX.app {x : WT} {w : Wm} {nw : List Wm} (h : RX pm G wm x w) (hd : ∀ n, w.d n = true → n < w.n) (hw : w.n < md) (hn : ∀ v, v ∈ nw → md ≤ v.n) : RX pm G (wm ++ nw) x w := by
  obtain ⟨h1, h2, h3, h4, h5⟩ := h
  refine ⟨h1, h2, h3, h4, fun s hs => ?_⟩
  rw [h5 s hs]
  constructor
  · intro ⟨j, v, hv, e, d⟩
    refine ⟨j, v, ?_, e, d⟩
    rw [List.getElem?_append_left (List.getElem?_eq_some_iff.mp hv).1]
    exact hv
  · intro ⟨j, v, hv, e, d⟩
    rcases get_app hv with hv | ⟨_, hv⟩
    · exact ⟨j, v, hv, e, d⟩
    · have h6 := hn v (List.mem_of_getElem? hv)
      have h7 := hd v.n d
      omega
theorem RW.app {nx : List WT} {nw : List Wm} (h : RW pm G ws wm) (hN : NbI md wm) (hn : ∀ v, v ∈ nw → md ≤ v.n) (hl : nx.length = nw.length) (hx : ∀ (k : Nat) (x : WT) (w : Wm), nx[k]? = some x → nw[k]? = some w → RX pm G (wm ++ nw) x w) : RW pm G (ws ++ nx) (wm ++ nw) := by
  refine ⟨by rw [List.length_append, List.length_append, h.1, hl], fun k x w h1 h2 => ?_⟩
  rcases get_app h1 with h1 | ⟨c1, h1⟩
  · rcases get_app h2 with h2 | ⟨c2, h2⟩
    · have hm := List.mem_of_getElem? h2
      exact (h.2 k x w h1 h2).app (hN.2 w hm).2.1 (hN.2 w hm).1 hn
    · have := (List.getElem?_eq_some_iff.mp h1).1
      have := h.1
      omega
  · rcases get_app h2 with h2 | ⟨c2, h2⟩
    · have := (List.getElem?_eq_some_iff.mp h2).1
      have := h.1
      omega
    · refine hx _ x w h1 ?_
      rw [h.1]
      exact h2
/-- a chunk's writes -/
theorem RW.chunk {p nb : Nat} {cl : List Nat} {o : Option Nat} (h : RW pm G ws wm) (hN : NbI md wm) : RW pm G (ws ++ wrs pm md ws.length p cl (nuA ws o) nb) (wm ++ nwM wm md p cl o (fun _ => false) nb) := by
  refine h.app hN (fun v hv => ?_) ?_ (fun k x w h1 h2 => ?_)
  · obtain ⟨i, _, e, _⟩ := nwM_mem hv
    omega
  · unfold wrs
    rw [List.length_map, List.length_range, nwM_len]
  · unfold wrs at h1
    unfold nwM at h2
    rw [List.getElem?_map] at h1 h2
    cases hr : (List.range nb)[k]? with
    | none => rw [hr] at h1; cases h1
    | some i =>
      rw [hr] at h1 h2
      have h1 : some (wrB pm md ws.length p cl (nuA ws o) i) = some x := h1
      have h2 : some (wmk (md + i) (p + i) none (fun j => (cl[16 * i + j]?).getD 0) (fun n => emD wm o n || false) [] (fun _ _ => 0)) = some w := h2
      cases h1
      cases h2
      refine ⟨rfl, rfl, rfl, fun _ j _ => rfl, fun s hs => ?_⟩
      show seB pm (nuA ws o) s = true ↔ ∃ (j : Nat) (v : Wm), (wm ++ nwM wm md p cl o (fun _ => false) nb)[j]? = some v ∧ pm j = s ∧ (emD wm o v.n || false) = true
      rw [h.nu_ hN o s]
      constructor
      · intro ⟨j, v, hv, e, d⟩
        refine ⟨j, v, ?_, e, by rw [d]; rfl⟩
        rw [List.getElem?_append_left (List.getElem?_eq_some_iff.mp hv).1]
        exact hv
      · intro ⟨j, v, hv, e, d⟩
        rw [Bool.or_false] at d
        rcases get_app hv with hv | ⟨_, hv⟩
        · exact ⟨j, v, hv, e, d⟩
        · obtain ⟨_, u, hu, eu⟩ := emD_iff.mp d
          obtain ⟨i2, _, e2, _⟩ := nwM_mem (List.mem_of_getElem? hv)
          have := (hN.2 u hu).1
          omega
theorem tiF_iff {mk : Nat → Bool} {s : Nat} : ∀ n, tiF pm ws mk n s = true ↔ ∃ k, k < n ∧ tiC ws mk k = true ∧ pm k = s
  | 0 => ⟨fun h => (by cases h), fun ⟨k, hk, _⟩ => (by omega)⟩
  | n + 1 => by
    show (tiF pm ws mk n s || (tiC ws mk n && decide (s = pm n))) = true ↔ _
    rw [Bool.or_eq_true, tiF_iff n, Bool.and_eq_true, decide_eq_true_eq]
    constructor
    · intro h
      rcases h with ⟨k, h1, h2⟩ | ⟨h1, h2⟩
      · exact ⟨k, by omega, h2⟩
      · exact ⟨n, by omega, h1, h2.symm⟩
    · intro ⟨k, h1, h2, h3⟩
      by_cases c : k = n
      · subst c; exact Or.inr ⟨h2, h3.symm⟩
      · exact Or.inl ⟨k, by omega, h2, h3⟩
theorem mkK_iff {f : Nat → Option Nat} {j : Nat} : ∀ n, mkK dk ws f n j = true ↔ ∃ k, k < n ∧ mkA dk ws (noG (f k)) j = true
  | 0 => ⟨fun h => (by cases h), fun ⟨k, hk, _⟩ => (by omega)⟩
  | n + 1 => by
    show (mkK dk ws f n j || mkA dk ws (noG (f n)) j) = true ↔ _
    rw [Bool.or_eq_true, mkK_iff n]
    constructor
    · intro h
      rcases h with ⟨k, h1, h2⟩ | h1
      · exact ⟨k, by omega, h2⟩
      · exact ⟨n, by omega, h1⟩
    · intro ⟨k, h1, h2⟩
      by_cases c : k = n
      · subst c; exact Or.inr h2
      · exact Or.inl ⟨k, by omega, h2⟩
theorem RW.mkK_ (h : RW pm G ws wm) (hN : NbI md wm) (hB : BtI dk2 wm) (hd : ∀ b i, b < 128 → i < 16 → dk (16 * b + i) = dk2 b i) {f : Nat → Option Nat} (hf : ∀ k p, k < 48 → noG (f k) = some p → p < 128) (j : Nat) : mkK dk ws f 48 j = mkB (vw dk2 wm) f j := by
  rw [Bool.eq_iff_iff, mkK_iff, mkB_iff]
  constructor
  · intro ⟨k, hk, e⟩
    cases hq : noG (f k) with
    | none => rw [hq] at e; cases e
    | some q =>
      rw [hq] at e
      have e : decide (q ≤ j ∧ j < q + nbA dk ws q) = true := e
      rw [decide_eq_true_eq, h.nb_ hN hB hd (hf k q hk hq)] at e
      exact ⟨k, q, hk, hq, e⟩
  · intro ⟨k, q, hk, hq, e⟩
    refine ⟨k, hk, ?_⟩
    rw [hq]
    show decide (q ≤ j ∧ j < q + nbA dk ws q) = true
    rw [decide_eq_true_eq, h.nb_ hN hB hd (hf k q hk hq)]
    exact e
/-- the table's own writes wait for what the table names -/
theorem RW.tie_ {p nb : Nat} {cl : List Nat} {o : Option Nat} {fr : Nat → Option Nat} (h : RW pm G (ws ++ wrs pm md ws.length p cl (nuA ws o) nb) (wm ++ nwM wm md p cl o (fun _ => false) nb)) (h0 : RW pm G ws wm) (hN0 : NbI md wm) (hN : NbI (md + nb) (wm ++ nwM wm md p cl o (fun _ => false) nb)) (hB : BtI dk2 (wm ++ nwM wm md p cl o (fun _ => false) nb)) (hd : ∀ b i, b < 128 → i < 16 → dk (16 * b + i) = dk2 b i) (hf : ∀ k p, k < 48 → noG (fr k) = some p → p < 128) :
    RW pm G (tie dk pm nb fr (ws ++ wrs pm md ws.length p cl (nuA ws o) nb)) (wm ++ nwM wm md p cl o (tieD wm (vw dk2 (wm ++ nwM wm md p cl o (fun _ => false) nb)) fr) nb) := by
  have hlw : (wrs pm md ws.length p cl (nuA ws o) nb).length = nb := by unfold wrs; rw [List.length_map, List.length_range]
  have hlen : (ws ++ wrs pm md ws.length p cl (nuA ws o) nb).length - nb = ws.length := by rw [List.length_append, hlw]; omega
  unfold tie
  rw [hlen]
  have hget : ∀ (j : Nat) (v : Wm), wm[j]? = some v → ∀ f, (wm ++ nwM wm md p cl o f nb)[j]? = some v := by
    intro j v hv f
    rw [List.getElem?_append_left (List.getElem?_eq_some_iff.mp hv).1]
    exact hv
  have hnum : ∀ f (j : Nat) (v : Wm), (wm ++ nwM wm md p cl o f nb)[j]? = some v → v.n < md → wm[j]? = some v := by
    intro f j v hv hlt
    rcases get_app hv with hv | ⟨_, hv⟩
    · exact hv
    · obtain ⟨i2, _, e2, _⟩ := nwM_mem (List.mem_of_getElem? hv)
      omega
  have htC : ∀ k, k < ws.length → (tiC (ws ++ wrs pm md ws.length p cl (nuA ws o) nb) (mkK dk (ws ++ wrs pm md ws.length p cl (nuA ws o) nb) fr 48) k = true ↔ ∃ w, wm[k]? = some w ∧ w.t < 128 ∧ mkB (vw dk2 (wm ++ nwM wm md p cl o (fun _ => false) nb)) fr w.t = true) := by
    intro k hk
    have hx : ws[k]? = some ws[k] := List.getElem?_eq_getElem hk
    obtain ⟨w, hw, r⟩ := h0.at' hx
    unfold tiC
    rw [List.getElem?_append_left hk, hx]
    show (decide (_ < 128) && _) = true ↔ _
    rw [Bool.and_eq_true, decide_eq_true_eq, r.2.1, h.mkK_ hN hB hd hf]
    constructor
    · intro e; exact ⟨w, hw, e⟩
    · intro ⟨w2, hw2, e⟩
      rw [hw] at hw2; cases hw2
      exact e
  refine ⟨by rw [addS_len, h.1, List.length_append, List.length_append, nwM_len, nwM_len], fun k x w h1 h2 => ?_⟩
  rw [addS_get] at h1
  cases hx : (ws ++ wrs pm md ws.length p cl (nuA ws o) nb)[k]? with
  | none => rw [hx] at h1; cases h1
  | some y =>
    rw [hx] at h1
    have h1 : some (if ws.length ≤ k then addb (tiF pm (ws ++ wrs pm md ws.length p cl (nuA ws o) nb) (mkK dk (ws ++ wrs pm md ws.length p cl (nuA ws o) nb) fr 48) ws.length) y else y) = some x := h1
    by_cases c : ws.length ≤ k
    · rw [if_pos c] at h1
      have h1 := Option.some.inj h1
      rcases get_app h2 with h2 | ⟨_, h2⟩
      · have := (List.getElem?_eq_some_iff.mp h2).1
        have := h0.1
        omega
      · have h2m := nwM_mem (List.mem_of_getElem? h2)
        unfold nwM at h2
        rw [List.getElem?_map] at h2
        cases hr : (List.range nb)[k - wm.length]? with
        | none => rw [hr] at h2; cases h2
        | some i =>
          rw [hr] at h2
          have h2 := Option.some.inj h2
          have hw0 : (wm ++ nwM wm md p cl o (fun _ => false) nb)[k]? = some (wmk (md + i) (p + i) none (fun j => (cl[16 * i + j]?).getD 0) (fun n => emD wm o n || false) [] (fun _ _ => 0)) := by
            rw [List.getElem?_append_right (by have := h0.1; omega)]
            unfold nwM
            rw [List.getElem?_map, hr]
            rfl
          obtain ⟨r1, r2, r3, r4, r5⟩ := h.2 k y _ hx hw0
          rw [← h1, ← h2]
          refine ⟨r1, r2, r3, r4, fun s hs => ?_⟩
          show (y.2.2.2.2.2 s || tiF _ _ _ _ s) = true ↔ ∃ (j : Nat) (v : Wm), _ ∧ _ ∧ (emD wm o v.n || tieD wm _ fr v.n) = true
          rw [Bool.or_eq_true, r5 s hs, tiF_iff]
          constructor
          · intro hh
            rcases hh with ⟨j, v, hv, e, d⟩ | ⟨k2, hk2, e, e2⟩
            · have d : (emD wm o v.n || false) = true := d
              rw [Bool.or_false] at d
              obtain ⟨_, u, hu, eu⟩ := emD_iff.mp d
              have hv2 := hnum _ j v hv (by have := (hN0.2 u hu).1; omega)
              exact ⟨j, v, hget j v hv2 _, e, by rw [d]; rfl⟩
            · obtain ⟨w2, hw2, e3, e4⟩ := (htC k2 hk2).mp e
              refine ⟨k2, w2, hget k2 w2 hw2 _, e2, ?_⟩
              rw [Bool.or_eq_true]
              exact Or.inr (tieD_iff.mpr ⟨w2, List.mem_of_getElem? hw2, rfl, e3, e4⟩)
          · intro ⟨j, v, hv, e, d⟩
            rw [Bool.or_eq_true] at d
            rcases d with d | d
            · obtain ⟨_, u, hu, eu⟩ := emD_iff.mp d
              have hv2 := hnum _ j v hv (by have := (hN0.2 u hu).1; omega)
              exact Or.inl ⟨j, v, hget j v hv2 _, e, by show (emD wm o v.n || false) = true; rw [d]; rfl⟩
            · obtain ⟨u, hu, eu, e3, e4⟩ := tieD_iff.mp d
              have hv2 := hnum _ j v hv (by have := (hN0.2 u hu).1; omega)
              have euv := nb_inj hN0 hu (List.mem_of_getElem? hv2) eu
              subst euv
              have hjl := (List.getElem?_eq_some_iff.mp hv2).1
              have := h0.1
              exact Or.inr ⟨j, by omega, (htC j (by omega)).mpr ⟨u, hv2, e3, e4⟩, e⟩
    · rw [if_neg c] at h1
      have h1 := Option.some.inj h1
      subst h1
      rcases get_app h2 with h2 | ⟨c2, h2⟩
      · rcases get_app hx with hx | ⟨c3, hx⟩
        · have hm := List.mem_of_getElem? h2
          refine (h0.2 k y w hx h2).app (hN0.2 w hm).2.1 (hN0.2 w hm).1 (fun v hv => ?_)
          obtain ⟨i, _, e, _⟩ := nwM_mem hv
          omega
        · omega
      · have := h0.1
        omega
end
