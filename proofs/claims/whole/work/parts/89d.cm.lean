/-! an object of the class holds a mathematical state -/
def CR (s : Ms) (D : DT) (pm : Nat → Nat) (ws : List WT) (G : Nat → RecT) (a : Nat) : Prop := (∀ bl i, bl < 128 → i < 16 → D.1 (16 * bl + i) = s.dk bl i) ∧ G D.2.1 = s.s0 ∧ D.2.2.map G = s.s1 ∧ RW pm G ws s.ws ∧ G a = s.la
def CM (M : Mm) (b : Nat) (s : Ms) : Prop := ∃ (D : DT) (pm : Nat → Nat) (ws : List WT) (im : Nat → Nat) (G : Nat → RecT) (a : Nat), CP M b D (pm, s.md, ws) s.C s.L (im, s.I) s.T s.E (G, a, s.F.2) ∧ CR s D pm ws G a
/-- what a call of it leaves alone -/
def Fr (b : Nat) (M M' : Mm) : Prop := M.sz ≤ M'.sz ∧ M'.sz ≤ M.sz + 3 ∧ M'.sl ≤ M.sl + 30 ∧ Ag (fun y => y < M.sz ∧ ¬ (b ≤ y ∧ y < b + 279)) M M'
theorem Fr.rf_ {b : Nat} {M : Mm} : Fr b M M := ⟨Nat.le_refl _, by omega, by omega, fun x _ => ⟨rfl, fun j => ⟨rfl, rfl, rfl⟩⟩⟩
theorem Of.fr {P : Nat → Prop} {b : Nat} {M M' : Mm} (o : Of P M M') (h : ∀ x, P x → b ≤ x ∧ x < b + 279) : Fr b M M' := ⟨by rw [o.2.1]; exact Nat.le_refl _, by rw [o.2.1]; omega, by rw [o.2.2.1]; omega, o.ag (fun x hx hP => hx.2 (h x hP))⟩
theorem On.fr {A : List Nat} {b : Nat} {M M' : Mm} (o : On A M M') (h : ∀ x ∈ A, b ≤ x ∧ x < b + 279) : Fr b M M' := (o.of (P := fun x => b ≤ x ∧ x < b + 279) h).fr (fun _ h => h)
theorem CM.ag {P : Nat → Prop} {M M' : Mm} {b : Nat} {s : Ms} (h : CM M b s) (g : Ag P M M') (hP : ∀ x, (b ≤ x ∧ x < b + 279) ∨ (b + 303 ≤ x ∧ x < M.sz) → P x) (hz : M.sz ≤ M'.sz) : CM M' b s := by
  obtain ⟨D, pm, ws, im, G, a, h, c⟩ := h
  exact ⟨D, pm, ws, im, G, a, h.ag g hP hz, c⟩
theorem IvS.nb {c : Nat} {s : Ms} (h : IvS c s) : NbI s.md s.ws := by
  cases ho : s.off with
  | false => exact (h.1 ho).1.1
  | true =>
    rw [(h.2.1 ho).1]
    exact ⟨List.Pairwise.nil, fun x hx => (by cases hx)⟩
theorem IvS.bt {c : Nat} {s : Ms} (h : IvS c s) : BtI s.dk s.ws := h.2.2.2.2.2.1
theorem CR.ok {c : Nat} {s : Ms} {D : DT} {pm : Nat → Nat} {ws : List WT} {G : Nat → RecT} {a : Nat} (r : CR s D pm ws G a) (h : IvS c s) : okW ws := r.2.2.2.1.okW_ h.nb h.bt
theorem CP.pm {M : Mm} {b : Nat} {D : DT} {Q : QT} {C : List Nat × Nat} {L : (Nat → Nat) × Option Nat} {I : IT} {T : List Nat × List Nat} {E : (Nat → Option Nat) × (Nat → Bool)} {F : FT} (h : CP M b D Q C L I T E F) : PmI Q.1 := ⟨fun k hk => (h.2.2.1.1.1.2.2.2.1 k hk).2, h.2.2.1.1.1.2.2.2.2.1⟩
theorem idx_n {x : Int32} {n j : Nat} (h : idx x n = some j) : x = nI j ∧ j < n := by
  unfold idx at h
  split at h
  · rename_i c
    cases h
    refine ⟨?_, by omega⟩
    have h2 : (nI x.toInt.toNat).toInt = x.toInt := by
      rw [nT (by have := x.toInt_lt; omega)]
      omega
    exact (eq_T _ _).mpr h2.symm
  · cases h
theorem idx_no {x : Int32} {n : Nat} (h : idx x n = none) : ¬ inB x n := by
  unfold idx at h
  split at h
  · cases h
  · assumption
theorem idx_of {j n : Nat} (h : j < n) (hn : n < 2147483648) : idx (nI j) n = some j := by
  unfold idx
  rw [nT (by omega), if_pos (by omega)]
  rw [Int.toNat_natCast]
