/-! how the index and what it names change -/
theorem nbS_pos (S : Nat → Nat → Nat) (p : Nat) : 1 ≤ nbS S p := by unfold nbS; omega
theorem ctS_congr {S S' : Nat → Nat → Nat} {p n : Nat} (h : ∀ b, p ≤ b → b < p + (n + 23) / 16 → S' b = S b) : ctS S' p n = ctS S p n := by
  unfold ctS
  refine List.map_congr_left (fun k hk => ?_)
  rw [List.mem_range] at hk
  rw [h _ (by omega) (by omega)]
section
variable {pt pt2 : Nat → Nat} {ch ch2 : Nat → Option Nat} {tb tb2 : TbT} {S S2 : Nat → Nat → Nat}
theorem Lv.self {p : Nat} (h : Lv ch tb p) : Rch ch tb S p := ⟨p, h, Nat.le_refl _, by have := nbS_pos S p; omega⟩
/-- the same blocks -/
theorem WFS.congr (h : WFS pt ch tb S) (hS : ∀ b, Rch ch tb S b → S2 b = S b) : WFS pt ch tb S2 := by
  obtain ⟨h1, h2, h3, h4, h5, h6, h7, h8⟩ := h
  have hb : ∀ p, Lv ch tb p → nbS S2 p = nbS S p := fun p hp => by unfold nbS; rw [hS p hp.self]
  refine ⟨h1, h2, h3, fun z hz => ?_, fun k p hk hp => ?_, fun p hp => by rw [hb p hp]; exact h6 p hp, fun p q hp hq => by rw [hb p hp]; exact h7 p q hp hq, h8⟩
  · obtain ⟨g1, g2, g3, g4⟩ := h4 z hz
    have hz2 : Lv ch tb z.1 := Or.inr ⟨z, hz, rfl⟩
    refine ⟨g1, g2, by unfold lnS; rw [hS z.1 hz2.self]; exact g3, ?_⟩
    rw [ctS_congr (S := S), g4]
    intro b b1 b2
    refine hS b ⟨z.1, hz2, b1, ?_⟩
    have : nbS S z.1 = ((tbL z.2).length + 23) / 16 := by unfold nbS; unfold lnS at g3; rw [g3]
    omega
  · unfold lnS
    rw [hS p (Lv.self (Or.inl ⟨k, hk, hp⟩))]
    exact h5 k p hk hp
/-- less is named -/
theorem WFS.sub (h : WFS pt ch tb S) (hc : spOK ch2) (hk : ∀ k p, k < 48 → plO ch2 tb2 (some k) = some p → plO ch tb (some k) = some p) (hl : tb2.length ≤ 3) (hz : ∀ z, z ∈ tb2 → z ∈ tb) : WFS pt ch2 tb2 S := by
  obtain ⟨h1, h2, h3, h4, h5, h6, h7, h8⟩ := h
  have hL : ∀ p, Lv ch2 tb2 p → Lv ch tb p := by
    intro p hp
    rcases hp with ⟨k, h9, hp⟩ | ⟨z, h9, hp⟩
    · exact Or.inl ⟨k, h9, hk k p h9 hp⟩
    · exact Or.inr ⟨z, hz z h9, hp⟩
  exact ⟨h1, hc, hl, fun z h9 => h4 z (hz z h9), fun k p h9 hp => h5 k p h9 (hk k p h9 hp), fun p hp => h6 p (hL p hp), fun p q hp hq => h7 p q (hL p hp) (hL q hq), fun k l p a1 a2 a3 a4 => h8 k l p a1 a2 (hk k p a1 a3) (hk l p a2 a4)⟩
/-- an extent in which nothing lives -/
theorem WFS.emptied {e : Nat} (h : WFS pt ch tb S) (he : ∀ p, Lv ch tb p → p / 16 ≠ e) : WFS (upn pt e 0) ch tb S := by
  obtain ⟨h1, h2, h3, h4, h5, h6, h7⟩ := h
  refine ⟨fun i hi => ?_, h2, h3, h4, h5, fun p hp => ?_, h7⟩
  · unfold upn
    by_cases c : i = e
    · rw [if_pos c]; omega
    · rw [if_neg c]; exact h1 i hi
  · unfold upn
    rw [if_neg (he p hp)]
    exact h6 p hp
/-- a chunk more -/
theorem WFS.add {e nb : Nat} {kk : Option Nat} (h : WFS pt ch tb S) (he : e < 8) (hn : pt e + nb ≤ 16) (hb : nbS S2 (16 * e + pt e) = nb) (hS : ∀ b, Rch ch tb S b → S2 b = S b) (hc : spOK ch2) (hl : tb2.length ≤ 3)
    (hk : ∀ k p, k < 48 → plO ch2 tb2 (some k) = some p → plO ch tb (some k) = some p ∨ (p = 16 * e + pt e ∧ kk = some k ∧ lnS S2 p ≤ 100))
    (hz : ∀ z, z ∈ tb2 → z ∈ tb ∨ (z.1 = 16 * e + pt e ∧ spOK z.2 ∧ lnS S2 z.1 = (tbL z.2).length ∧ ctS S2 z.1 (tbL z.2).length = tbL z.2)) : WFS (upn pt e (pt e + nb)) ch2 tb2 S2 := by
  have h0 := h.congr hS
  obtain ⟨h1, h2, h3, h4, h5, h6, h7, h8⟩ := h0
  have n1 : 1 ≤ nb := by have := nbS_pos S2 (16 * e + pt e); omega
  have hL : ∀ p, Lv ch2 tb2 p → Lv ch tb p ∨ p = 16 * e + pt e := by
    intro p hp
    rcases hp with ⟨k, h9, hp⟩ | ⟨z, h9, hp⟩
    · rcases hk k p h9 hp with h | h
      · exact Or.inl (Or.inl ⟨k, h9, h⟩)
      · exact Or.inr h.1
    · rcases hz z h9 with h | h
      · exact Or.inl (Or.inr ⟨z, h, hp⟩)
      · exact Or.inr (by rw [← hp]; exact h.1)
  have hO : ∀ p, Lv ch tb p → p < 128 ∧ p % 16 + nbS S2 p ≤ pt (p / 16) ∧ pt (p / 16) ≤ 16 ∧ 1 ≤ nbS S2 p := by
    intro p hp
    have hp0 := hp.lt h
    exact ⟨hp0, h6 p hp, h1 _ (by omega), nbS_pos _ _⟩
  have hne : ∀ p, Lv ch tb p → p ≠ 16 * e + pt e := by
    intro p hp c
    obtain ⟨g1, g2, g3, g4⟩ := hO p hp
    have : p / 16 = e := by omega
    rw [this] at g2
    omega
  refine ⟨fun i hi => ?_, hc, hl, fun z h9 => ?_, fun k p h9 hp => ?_, fun p hp => ?_, fun p q hp hq lt => ?_, fun k l p a1 a2 a3 a4 => ?_⟩
  · unfold upn
    by_cases c : i = e
    · rw [if_pos c]; exact hn
    · rw [if_neg c]; exact h1 i hi
  · rcases hz z h9 with h | ⟨g1, g2, g3, g4⟩
    · exact h4 z h
    · exact ⟨g2, by omega, g3, g4⟩
  · rcases hk k p h9 hp with h | ⟨g1, g2, g3⟩
    · exact h5 k p h9 h
    · exact ⟨by omega, g3⟩
  · rcases hL p hp with h | h
    · obtain ⟨g1, g2, g3, g4⟩ := hO p h
      unfold upn
      by_cases c : p / 16 = e
      · rw [if_pos c]
        rw [c] at g2
        omega
      · rw [if_neg c]; exact g2
    · have : p / 16 = e := by omega
      rw [this, h, hb]
      unfold upn
      rw [if_pos rfl]
      omega
  · rcases hL p hp with h | h <;> rcases hL q hq with h' | h'
    · exact h7 p q h h' lt
    · obtain ⟨g1, g2, g3, g4⟩ := hO p h
      by_cases c : p / 16 = e
      · rw [c] at g2
        omega
      · omega
    · obtain ⟨g1, g2, g3, g4⟩ := hO q h'
      rw [h, hb]
      by_cases c : q / 16 = e
      · rw [c] at g2
        omega
      · omega
    · omega
  · rcases hk k p a1 a3 with h | ⟨g1, g2, g3⟩ <;> rcases hk l p a2 a4 with h' | ⟨g1', g2', g3'⟩
    · exact h8 k l p a1 a2 h h'
    · exact (hne p (Or.inl ⟨k, a1, h⟩) g1').elim
    · exact (hne p (Or.inl ⟨l, a2, h'⟩) g1).elim
    · rw [g2] at g2'
      cases g2'
      rfl
end
theorem plO_ups {ch : Nat → Option Nat} {tb : TbT} {j k : Nat} {v : Option Nat} : plO (ups ch j v) tb (some k) = if k = j then noG (orO v (lkT tb (some k))) else plO ch tb (some k) := by
  unfold plO lkS
  show noG (orO (ups ch j v k) _) = _
  unfold ups
  by_cases c : k = j
  · rw [if_pos c, if_pos c]
  · rw [if_neg c, if_neg c]; rfl
theorem plO_put {ch : Nat → Option Nat} {tb : TbT} {j k p : Nat} (hp : p < 128) : plO (ups ch j (some p)) tb (some k) = if k = j then some p else plO ch tb (some k) := by
  rw [plO_ups]
  by_cases c : k = j
  · rw [if_pos c, if_pos c]
    show (if p = 255 then none else some p) = _
    rw [if_neg (by omega)]
  · rw [if_neg c, if_neg c]
theorem plO_del {ch : Nat → Option Nat} {tb : TbT} {j k : Nat} : plO (ups ch j (some 255)) tb (some k) = if k = j then none else plO ch tb (some k) := by
  rw [plO_ups]
  by_cases c : k = j
  · rw [if_pos c, if_pos c]; rfl
  · rw [if_neg c, if_neg c]
theorem noG_noG (o : Option Nat) : noG (noG o) = noG o := by
  cases o with
  | none => rfl
  | some p =>
    show noG (if p = 255 then none else some p) = if p = 255 then none else some p
    by_cases c : p = 255
    · rw [if_pos c]; rfl
    · rw [if_neg c]
      show (if p = 255 then none else some p) = _
      rw [if_neg c]
theorem orO_none (o : Option Nat) : orO o none = o := by cases o <;> rfl
/-- a table more, no change in what is named -/
theorem plO_tab {mg : Bool} {ch : Nat → Option Nat} {tb : TbT} {p : Nat} (hm : mg = false → tb.length < 3) (k : Nat) : plO nn ((p, frS mg ch tb) :: tb.take (adN mg tb)) (some k) = plO ch tb (some k) := by
  unfold plO lkS
  show noG (lkT _ _) = _
  cases mg with
  | true =>
    have : adN true tb = 0 := by unfold adN; rw [if_pos (Or.inl rfl)]
    rw [this, List.take_zero]
    show noG (orO (frS true ch tb k) none) = _
    rw [orO_none]
    show noG (plO ch tb (some k)) = _
    unfold plO
    rw [noG_noG]
    rfl
  | false =>
    have h3 := hm rfl
    have : adN false tb = tb.length := by
      unfold adN
      rw [if_neg (by simp; omega)]
    rw [this, List.take_length]
    rfl
