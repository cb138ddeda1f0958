/-! RECLAIM -/
def sumB : List (Nat × List Nat) → Nat
  | [] => 0
  | z :: l => (z.2.length + 23) / 16 + sumB l
theorem BdM.obj {c m t : Nat} {s : Ms} {k e : Nat} {ct : List Nat} (h : BdM c m t s) (hk : k < 48) (hl : ct.length ≤ 100) (htl : ∀ v, v ∈ ct → v < 256) (he : e < 8) : BdM c (m + (ct.length + 23) / 16) (t + 1) (sCh k (16 * e + s.pt e) (mkC 1 k ct e s)) := by
  obtain ⟨⟨a2, a3, a4, a5⟩, ⟨b1, b2, b3, b4⟩, ⟨d1, d2⟩, f, g⟩ := h
  refine ⟨⟨?_, ?_, a4, a5⟩, ⟨b1, b2, b3, fun w q hw hq => ?_⟩, ⟨d1, fun x hx => ?_⟩, ?_, g⟩
  · show s.md + (ct.length + 23) / 16 ≤ _
    omega
  · show s.st + 1 ≤ _
    omega
  · rcases List.mem_append.mp hw with hw | hw
    · exact b4 w q hw hq
    · obtain ⟨_, _, _, _, hr, _⟩ := nwM_mem hw
      rw [hr] at hq; cases hq
  · have hx : some e = some x := hx
    cases hx; exact he
  · exact nwM_bt f (chL_lt (by omega) (by omega) htl (by omega))
/-- one object is moved: what is else as it was -/
theorem mv_V {s : Ms} {k e e0 : Nat} {ct : List Nat} (he : s.pt e + (ct.length + 23) / 16 ≤ 16) (hne : e ≠ e0) {b : Nat} (hb : b / 16 = e0) : (sCh k (16 * e + s.pt e) (mkC 1 k ct e s)).V b = s.V b := by
  show vw s.dk (s.ws ++ nwM s.ws s.md (16 * e + s.pt e) (chL 1 k ct s.st) (s.em e) (fun _ => false) ((ct.length + 23) / 16)) b = vw s.dk s.ws b
  exact vw_old (by omega)
theorem mv_ok {c e0 : Nat} : ∀ (items : List (Nat × List Nat)) (m t : Nat) (s s2 : Ms), On_ s → BdM c m t s → (∀ z, z ∈ items → z.1 < 48 ∧ z.2.length ≤ 100 ∧ ∀ v, v ∈ z.2 → v < 256) → s.op ≠ some e0 → s.pt e0 ≠ 0 → mvO items s = some s2 →
    (On_ s2 ∧ BdM c (m + sumB items) (t + items.length) s2 ∧ s2.ws.length = s.ws.length + sumB items) ∧ (s2.op ≠ some e0 ∧ s2.pt e0 = s.pt e0) ∧ (s2.tb = s.tb ∧ s2.off = s.off ∧ s2.C = s.C ∧ s2.D = s.D ∧ s2.T = s.T ∧ s2.mu = s.mu) ∧ (∀ k, (∀ z, z ∈ items → z.1 ≠ k) → s2.ch k = s.ch k) ∧ (∀ k, (∀ p, plO s.ch s.tb (some k) = some p → p / 16 ≠ e0) → ∀ p, plO s2.ch s2.tb (some k) = some p → p / 16 ≠ e0) ∧ ∀ z, z ∈ items → ∀ p, plO s2.ch s2.tb (some z.1) = some p → p / 16 ≠ e0 := by
  intro items
  induction items with
  | nil =>
    intro m t s s2 o b hz ho hp h
    have h : some s = some s2 := h
    cases h
    exact ⟨⟨o, b, rfl⟩, ⟨ho, rfl⟩, ⟨rfl, rfl, rfl, rfl, rfl, rfl⟩, fun k _ => rfl, fun k hk => hk, fun z hz => (by cases hz)⟩
  | cons z l ih =>
    intro m t s s2 o b hz ho hp h
    have h : (match tkE s.pt s.op ((z.2.length + 23) / 16) 1 with
      | none => none
      | some e => mvO l (sCh z.1 (16 * e + s.pt e) (mkC 1 z.1 z.2 e s))) = some s2 := h
    cases ht : tkE s.pt s.op ((z.2.length + 23) / 16) 1 with
    | none => rw [ht] at h; cases h
    | some e =>
      rw [ht] at h
      have h : mvO l (sCh z.1 (16 * e + s.pt e) (mkC 1 z.1 z.2 e s)) = some s2 := h
      obtain ⟨e1, e2⟩ := tkE_ok b.2.2.1.2 ht
      have e3 := tkE_ne ho hp ht
      obtain ⟨z1, z2, z3⟩ := hz z (by simp)
      have o' := o.obj (k := z.1) e1 e2 z2
      have b' := b.obj (k := z.1) z1 z2 z3 e1
      have p1 : (sCh z.1 (16 * e + s.pt e) (mkC 1 z.1 z.2 e s)).pt e0 = s.pt e0 := by
        show upn s.pt e _ e0 = _
        unfold upn
        rw [if_neg (fun c => e3 c.symm)]
      have o1 : (sCh z.1 (16 * e + s.pt e) (mkC 1 z.1 z.2 e s)).op ≠ some e0 := by
        show some e ≠ some e0
        intro c
        cases c
        exact e3 rfl
      have w1 : (sCh z.1 (16 * e + s.pt e) (mkC 1 z.1 z.2 e s)).ws.length = s.ws.length + (z.2.length + 23) / 16 := by
        show (s.ws ++ nwM _ _ _ _ _ _ _).length = _
        rw [List.length_append, nwM_len]
      have c1 : ∀ k, k ≠ z.1 → (sCh z.1 (16 * e + s.pt e) (mkC 1 z.1 z.2 e s)).ch k = s.ch k := by
        intro k hk
        show ups s.ch z.1 _ k = _
        unfold ups
        rw [if_neg hk]
      have q1 : ∀ k, plO (sCh z.1 (16 * e + s.pt e) (mkC 1 z.1 z.2 e s)).ch (sCh z.1 (16 * e + s.pt e) (mkC 1 z.1 z.2 e s)).tb (some k) = if k = z.1 then some (16 * e + s.pt e) else plO s.ch s.tb (some k) := fun k => plO_put (by omega)
      have r1 : (sCh z.1 (16 * e + s.pt e) (mkC 1 z.1 z.2 e s)).tb = s.tb ∧ (sCh z.1 (16 * e + s.pt e) (mkC 1 z.1 z.2 e s)).off = s.off ∧ (sCh z.1 (16 * e + s.pt e) (mkC 1 z.1 z.2 e s)).C = s.C ∧ (sCh z.1 (16 * e + s.pt e) (mkC 1 z.1 z.2 e s)).D = s.D ∧ (sCh z.1 (16 * e + s.pt e) (mkC 1 z.1 z.2 e s)).T = s.T ∧ (sCh z.1 (16 * e + s.pt e) (mkC 1 z.1 z.2 e s)).mu = s.mu := ⟨rfl, rfl, rfl, rfl, rfl, rfl⟩
      generalize sCh z.1 (16 * e + s.pt e) (mkC 1 z.1 z.2 e s) = s' at *
      obtain ⟨⟨g1, g2, g3⟩, ⟨g4, g5⟩, ⟨g6, g7, g7a, g7b, g7c, g7d⟩, g8, g9, g10⟩ := ih (m + (z.2.length + 23) / 16) (t + 1) s' s2 o' b' (fun y hy => hz y (by simp [hy])) o1 (by rw [p1]; exact hp) h
      have qz : ∀ p, plO s'.ch s'.tb (some z.1) = some p → p / 16 ≠ e0 := by
        intro p hp2
        rw [q1, if_pos rfl] at hp2
        cases hp2
        omega
      refine ⟨⟨g1, ?_, ?_⟩, ⟨g4, by rw [g5, p1]⟩, ⟨by rw [g6, r1.1], by rw [g7, r1.2.1], by rw [g7a, r1.2.2.1], by rw [g7b, r1.2.2.2.1], by rw [g7c, r1.2.2.2.2.1], by rw [g7d, r1.2.2.2.2.2]⟩, fun k hk => ?_, fun k hk => ?_, fun y hy => ?_⟩
      · have e4 : m + (z.2.length + 23) / 16 + sumB l = m + sumB (z :: l) := by show _ = m + ((z.2.length + 23) / 16 + sumB l); omega
        have e5 : t + 1 + l.length = t + (z :: l).length := by rw [List.length_cons]; omega
        rw [← e4, ← e5]
        exact g2
      · show _ = s.ws.length + ((z.2.length + 23) / 16 + sumB l)
        omega
      · rw [g8 k (fun y hy => hk y (by simp [hy])), c1 k (fun c => hk z (by simp) c.symm)]
      · refine g9 k (fun p hp2 => ?_)
        rw [q1] at hp2
        by_cases c2 : k = z.1
        · rw [if_pos c2] at hp2
          cases hp2
          omega
        · rw [if_neg c2] at hp2
          exact hk p hp2
      · rcases List.mem_cons.mp hy with hy | hy
        · rw [hy]
          exact g9 z.1 qz
        · exact g10 y hy
/-- the keys found in an extent -/
theorem mvK_mem {s : Ms} {e k : Nat} (h : k ∈ mvK e s) : ∃ b, b < 16 ∧ k < 48 ∧ plO s.ch s.tb (some k) = some (16 * e + b) := by
  unfold mvK at h
  obtain ⟨b, hb, hf⟩ := List.mem_filterMap.mp h
  rw [List.mem_range] at hb
  obtain ⟨h1, h2, h3⟩ := fst_spec _ _ _ _ hf
  unfold isAt at h1
  rw [beq_iff_eq] at h1
  exact ⟨b, hb, by omega, h1⟩
theorem mvK_all {s : Ms} (o : On_ s) {e k p : Nat} (hk : k < 48) (hp : plO s.ch s.tb (some k) = some p) (he : p / 16 = e) : k ∈ mvK e s := by
  unfold mvK
  refine List.mem_filterMap.mpr ⟨p % 16, List.mem_range.mpr (Nat.mod_lt _ (by omega)), ?_⟩
  have e1 : 16 * e + p % 16 = p := by omega
  rw [e1]
  cases hf : fst_ (isAt s.ch s.tb p) 0 48 with
  | none =>
    have := fst_none _ _ _ hf k (by omega) (by omega)
    unfold isAt at this
    rw [hp] at this
    simp at this
  | some l =>
    obtain ⟨h1, h2, h3⟩ := fst_spec _ _ _ _ hf
    unfold isAt at h1
    rw [beq_iff_eq] at h1
    rw [o.2.2.2.1.2.2.2.2.2.2.2 k l p hk (by omega) hp h1]
/-- their blocks are no more than an extent has -/
theorem mv_sum {s : Ms} (o : On_ s) {e : Nat} (he : e < 8) : ∀ (m b lo : Nat), b + m = 16 → b ≤ lo → lo ≤ 16 → (∀ i, b ≤ i → i < lo → fst_ (isAt s.ch s.tb (16 * e + i)) 0 48 = none) → sumB (((List.range' b m).filterMap (fun b => fst_ (isAt s.ch s.tb (16 * e + b)) 0 48)).map (fun k => (k, ctS s.V (plK s k) (lnS s.V (plK s k))))) ≤ 16 - lo := by
  intro m
  induction m with
  | zero => intro b lo h1 h2 h3 h4; exact Nat.zero_le _
  | succ m ih =>
    intro b lo h1 h2 h3 h4
    rw [List.range'_succ, List.filterMap_cons]
    by_cases c : b < lo
    · rw [h4 b (Nat.le_refl _) c]
      exact ih (b + 1) lo (by omega) (by omega) h3 (fun i hi => h4 i (by omega))
    · have e1 : lo = b := by omega
      subst e1
      cases hf : fst_ (isAt s.ch s.tb (16 * e + lo)) 0 48 with
      | none =>
        have := ih (lo + 1) (lo + 1) (by omega) (by omega) (by omega) (fun i hi hi2 => by omega)
        show sumB (List.map _ (List.filterMap _ (List.range' (lo + 1) m))) ≤ _
        omega
      | some k =>
        obtain ⟨g1, g2, g3⟩ := fst_spec _ _ _ _ hf
        unfold isAt at g1
        rw [beq_iff_eq] at g1
        obtain ⟨w1, w2, w3, w4, w5, w6, w7, w8⟩ := o.2.2.2.1
        have hL : Lv s.ch s.tb (16 * e + lo) := Or.inl ⟨k, by omega, g1⟩
        have n1 := w6 _ hL
        have n2 := w1 ((16 * e + lo) / 16) (by omega)
        have n3 := nbS_pos s.V (16 * e + lo)
        have hpk : plK s k = 16 * e + lo := by unfold plK; rw [g1]; rfl
        have n1 : (16 * e + lo) % 16 + nbS s.V (16 * e + lo) ≤ s.pt ((16 * e + lo) / 16) := n1
        have hI := ih (lo + 1) (lo + nbS s.V (16 * e + lo)) (by omega) (by omega) (by omega) (fun i hi hi2 => by
          cases hf2 : fst_ (isAt s.ch s.tb (16 * e + i)) 0 48 with
          | none => rfl
          | some k2 =>
            obtain ⟨q1, q2, q3⟩ := fst_spec _ _ _ _ hf2
            unfold isAt at q1
            rw [beq_iff_eq] at q1
            have := w7 (16 * e + lo) (16 * e + i) hL (Or.inl ⟨k2, by omega, q1⟩) (by omega)
            have this : 16 * e + lo + nbS s.V (16 * e + lo) ≤ 16 * e + i := this
            omega)
        show ((ctS s.V (plK s k) (lnS s.V (plK s k))).length + 23) / 16 + sumB (List.map _ (List.filterMap _ (List.range' (lo + 1) m))) ≤ _
        rw [ctS_len, hpk]
        have hnb : nbS s.V (16 * e + lo) = (lnS s.V (16 * e + lo) + 23) / 16 := rfl
        omega
theorem mvI_sum {s : Ms} (o : On_ s) {e : Nat} (he : e < 8) : sumB (mvI e s) ≤ 16 := by
  have h := mv_sum o he 16 0 0 (by omega) (by omega) (by omega) (fun i h1 h2 => by omega)
  unfold mvI mvK
  rw [List.range_eq_range']
  exact h
theorem mvI_ok {s : Ms} (o : On_ s) (hb : BtI s.dk s.ws) {e : Nat} : ∀ z, z ∈ mvI e s → z.1 < 48 ∧ z.2.length ≤ 100 ∧ ∀ v, v ∈ z.2 → v < 256 := by
  intro z hz
  unfold mvI at hz
  obtain ⟨k, hk, e1⟩ := List.mem_map.mp hz
  obtain ⟨b, hb2, hk2, hp⟩ := mvK_mem hk
  subst e1
  obtain ⟨w1, w2, w3, w4, w5, w6, w7, w8⟩ := o.2.2.2.1
  have hpk : plK s k = 16 * e + b := by unfold plK; rw [hp]; rfl
  obtain ⟨n1, n2⟩ := w5 k _ hk2 hp
  have n3 := w6 _ (Or.inl ⟨k, hk2, hp⟩)
  have n2 : lnS s.V (16 * e + b) ≤ 100 := n2
  have n3 : (16 * e + b) % 16 + nbS s.V (16 * e + b) ≤ s.pt ((16 * e + b) / 16) := n3
  have n4 := w1 ((16 * e + b) / 16) (by omega)
  refine ⟨hk2, ?_, fun v hv => ?_⟩
  · show (ctS s.V (plK s k) (lnS s.V (plK s k))).length ≤ 100
    rw [ctS_len, hpk]
    exact n2
  · have hv : v ∈ ctS s.V (plK s k) (lnS s.V (plK s k)) := hv
    rw [hpk] at hv
    unfold ctS at hv
    obtain ⟨j, hj, ev⟩ := List.mem_map.mp hv
    rw [List.mem_range] at hj
    subst ev
    have hnb : nbS s.V (16 * e + b) = (lnS s.V (16 * e + b) + 23) / 16 := rfl
    exact o.vb hb (by omega) _
