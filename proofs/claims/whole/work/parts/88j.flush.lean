def BdM (c m t : Nat) (s : Ms) : Prop := (s.md ≤ 30 * c + m ∧ s.st ≤ 17 * c + t ∧ s.mu ≤ c ∧ s.C.2 ≤ 60 * c + 60) ∧ (RB c s.la ∧ RB c s.s0 ∧ (∀ q, s.s1 = some q → RB c q) ∧ ∀ w q, w ∈ s.ws → w.r = some q → RB c q) ∧ ((s.s0.1 % 2 = 0 ∧ ∀ q, s.s1 = some q → q.1 % 2 = 1) ∧ ∀ e, s.op = some e → e < 8) ∧ BtI s.dk s.ws ∧ ((s.tp.length ≤ 200 ∧ ∀ v, v ∈ s.tp → v < 256) ∧ s.ou.length ≤ 100 ∧ ∀ v, v ∈ s.ou → v < 256)
theorem Bd.mid {c : Nat} {s : Ms} (h : Bd c s) : BdM c 0 0 s := by
  obtain ⟨⟨a1, a2, a3, a4, a5⟩, r⟩ := h
  exact ⟨⟨by omega, by omega, a4, by omega⟩, r⟩
theorem On_.tr {s : Ms} (h : On_ s) {mg : Bool} {e : Nat} {e0 : Option Nat} (he : e < 8) (hn : s.pt e + tbB mg s ≤ 16) (hm : mg = false → s.tb.length < 3) (hE : ∀ x, e0 = some x → mg = true ∧ x ≠ e ∧ ∀ k p, k < 48 → plO s.ch s.tb (some k) = some p → p / 16 ≠ x) : On_ (mkR (tbB mg s) e0 (sEm e0 (mkTb mg e s))) :=
  CoI.tabRec h he hn hm hE (tbWs mg e s) rfl (nwR (sEm e0 (mkTb mg e s))) rfl
theorem On_.r0 {s : Ms} (h : On_ s) {e0 : Nat} (hc : ∀ k, k < 48 → s.ch k = none) (hE : ∀ p, Lv s.ch s.tb p → p / 16 ≠ e0) : On_ (mkR 0 (some e0) (sEm (some e0) s)) := CoI.rec0 h hc hE
theorem Bd.rec_ {c m t : Nat} {s : Ms} {own : Nat} {e0 : Option Nat} (h : BdM c m t s) (hm : m ≤ 29) (ht : t ≤ 17) (hw : s.ws.length + 1 ≤ 120) : Bd (c + 1) (mkR own e0 (sEm e0 s)) := by
  obtain ⟨⟨a2, a3, a4, a5⟩, ⟨b1, b2, b3, b4⟩, d, f, g⟩ := h
  have rb : RB (c + 1) (nwR (sEm e0 s)) := by
    refine ⟨?_, ?_, ?_⟩
    · show s.la.1 + 1 ≤ c + 1
      have := b1.1
      omega
    · show s.mu ≤ c + 1
      omega
    · show s.st ≤ 17 * (c + 1)
      omega
  refine ⟨⟨?_, ?_, ?_, ?_, ?_⟩, ⟨rb, b2.mono (by omega), fun q hq => (b3 q hq).mono (by omega), fun w q hw hq => ?_⟩, d, ⟨f.1, fun w hw hr => ?_⟩, g⟩
  · show (s.ws ++ [_]).length ≤ 120
    rw [List.length_append]
    exact hw
  · show s.md + 1 ≤ _
    omega
  · show s.st ≤ _
    omega
  · show s.mu ≤ _
    omega
  · show s.C.2 ≤ _
    omega
  · rcases List.mem_append.mp hw with hw | hw
    · exact (b4 w q hw hq).mono (by omega)
    · rw [List.mem_singleton.mp hw] at hq
      have hq : some (nwR (sEm e0 s)) = some q := hq
      cases hq
      exact rb
  · rcases List.mem_append.mp hw with hw | hw
    · exact f.2 w hw hr
    · rw [List.mem_singleton.mp hw] at hr
      cases hr
theorem frS_spOK {s : Ms} (h : On_ s) (mg : Bool) : spOK (frS mg s.ch s.tb) := by
  intro k p hk hp
  cases mg with
  | true => exact Or.inr (h.2.2.2.1.2.2.2.2.1 k p hk hp).1
  | false => exact h.2.2.2.1.2.1 k p hk hp
theorem BdM.tab {c m t : Nat} {s : Ms} {mg : Bool} {e : Nat} (o : On_ s) (h : BdM c m t s) (he : e < 8) : BdM c (m + tbB mg s) (t + 1) (mkTb mg e s) := by
  obtain ⟨⟨a2, a3, a4, a5⟩, ⟨b1, b2, b3, b4⟩, ⟨d1, d2⟩, f, g⟩ := h
  refine ⟨⟨?_, ?_, a4, a5⟩, ⟨b1, b2, b3, fun w q hw hq => ?_⟩, ⟨d1, fun x hx => ?_⟩, ?_, g⟩
  · show s.md + tbB mg s ≤ _
    omega
  · show s.st + 1 ≤ _
    omega
  · rcases List.mem_append.mp hw with hw | hw
    · exact b4 w q hw hq
    · obtain ⟨_, _, _, _, hr, _⟩ := nwM_mem hw
      rw [hr] at hq; cases hq
  · have hx : some e = some x := hx
    cases hx; exact he
  · have hl := tbL_len (frS mg s.ch s.tb)
    have hl2 := nE_le (frS mg s.ch s.tb) 48
    exact nwM_bt f (chL_lt (by omega) (by omega) (tbL_lt (frS_spOK o mg)) (by omega))
theorem tbWs_len (mg : Bool) (e : Nat) (s : Ms) : (mkTb mg e s).ws.length = s.ws.length + tbB mg s := by
  show (s.ws ++ nwM _ _ _ _ _ _ _).length = _
  rw [List.length_append, nwM_len]
theorem inv_flush {c : Nat} {s : Ms} (h : IvS c s) : IvS (c + 1) (mFlush s).2 := by
  unfold mFlush
  have hm := h.mono (Nat.le_succ c)
  by_cases c1 : s.off = true
  · rw [if_pos c1]; exact hm
  · rw [if_neg c1]
    have hoff : s.off = false := by
      cases ho : s.off with
      | false => rfl
      | true => exact absurd ho c1
    have o1 := h.1 hoff
    by_cases c2 : chN s = 0
    · rw [if_pos c2]; exact hm
    · rw [if_neg c2]
      generalize hmg : decide (3 ≤ s.tb.length) = mg
      cases ht : tkE s.pt s.op (tbB mg s) 1 with
      | none => exact hm
      | some e =>
        show IvS (c + 1) (if _ then _ else _ : Int32 × Ms).2
        by_cases c3 : 120 < s.ws.length + tbB mg s + 1
        · rw [if_pos c3]; exact hm
        · rw [if_neg c3]
          obtain ⟨e1, e2⟩ := tkE_ok h.2.2.2.2.1.2 ht
          have hb := tbB_le mg s
          refine ⟨fun _ => o1.tr e1 e2 (fun c4 => ?_) (fun x hx => (by cases hx)), fun c4 => ?_, ?_⟩
          · rw [← hmg] at c4
            have := of_decide_eq_false c4
            omega
          · have c4 : s.off = true := c4
            exact absurd c4 c1
          · exact Bd.rec_ (BdM.tab o1 h.2.2.mid e1) (by omega) (by omega) (by rw [tbWs_len]; omega)
