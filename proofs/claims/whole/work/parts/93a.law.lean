/-! the law: both objects beside one another -/
theorem RW1.ag {M M' : Mm} {r i : Nat} {w : Wm} (h : RW1 M r i w) (f : ∀ i, i < 24 → ∀ j, M'.it (r + i) j = M.it (r + i) j) : RW1 M' r i w := by
  obtain ⟨⟨a1, a2, a3, a4⟩, ⟨l, l1, l2, l3, l4, l5⟩, b1, b2⟩ := h
  exact ⟨⟨by rw [f 10 (by omega)]; exact a1, by rw [f 11 (by omega)]; exact a2, a3, a4⟩, ⟨l, l1, l2, l3, by rw [f 12 (by omega)]; exact l4, fun j v hj => by rw [f 13 (by omega)]; exact l5 j v hj⟩, fun hr j hj => by rw [f 14 (by omega)]; exact b1 hr j hj, fun q hq => (b2 q hq).cong (fun j _ => f 15 (by omega) _)⟩
theorem RSl.ag {M M' : Mm} {r : Nat} {s : Ms} (h : RSl M r s) (f : ∀ j, M'.it (r + 3) j = M.it (r + 3) j) : RSl M' r s := by
  obtain ⟨h1, h2⟩ := h
  refine ⟨h1.cong (fun i _ => f _), ?_⟩
  cases hs : s.s1 with
  | none =>
    rw [hs] at h2
    show M'.it (r + 3) 18 = -1
    rw [f]
    exact h2
  | some q =>
    rw [hs] at h2
    exact RcP.cong h2 (fun i _ => f _)
theorem RP.ag {P : Nat → Prop} {M M' : Mm} {r : Nat} {s : Ms} (h : RP M r s) (g : Ag P M M') (hP : ∀ x, r ≤ x ∧ x < r + 24 → P x) : RP M' r s := by
  have f : ∀ i, i < 24 → ∀ j, M'.it (r + i) j = M.it (r + i) j := fun i hi j => g.it (hP _ (by omega)) j
  have f0 : ∀ j, M'.it r j = M.it r j := fun j => f 0 (by omega) j
  obtain ⟨hs, hf, ⟨a1, a2, a3, a4, a5⟩, ⟨b1, b2, b3, b4⟩, ⟨c1, ⟨c2, c3, c4⟩, c5⟩, dd⟩ := h
  refine ⟨hs.ag g hP, ?_, ⟨fun j v hj => ?_, fun bl i hb hi => ?_, a3.ag (f 3 (by omega)), fun e he => ?_, fun e he => ?_⟩, ⟨fun j v hj => ?_, fun j hj => ?_, fun t z j hz hj => ?_, fun i w hw => (b4 i w hw).ag f⟩, ⟨fun j hj => ?_, ⟨fun j v hj => ?_, c3, c4⟩, fun j v hj => ?_⟩, dd⟩
  · unfold RF at hf ⊢
    simp only [f0]
    exact hf
  · rw [f 1 (by omega)]; exact a1 j v hj
  · rw [f 2 (by omega)]; exact a2 bl i hb hi
  · rw [f 4 (by omega)]; exact a4 e he
  · rw [f 5 (by omega)]; exact a5 e he
  · rw [f 7 (by omega)]; exact b1 j v hj
  · rw [f 8 (by omega)]; exact b2 j hj
  · rw [f 9 (by omega)]; exact b3 t z j hz hj
  · rw [f 16 (by omega)]; exact c1 j hj
  · rw [f 17 (by omega)]; exact c2 j v hj
  · rw [f 18 (by omega)]; exact c5 j v hj
theorem CM.sh {M : Mm} {b : Nat} {s : Ms} (h : CM M b s) : M.sh b = some (0, 0) := by
  obtain ⟨D, pm, ws, im, G, a, h, r⟩ := h
  exact h.1.1.1
theorem RP.fr {M M' : Mm} {b : Nat} {s : Ms} (h : RP M (b + 279) s) (f : Fr b M M') (hz : b + 303 ≤ M.sz) : RP M' (b + 279) s := h.ag f.2.2.2 (fun x hx => ⟨by omega, by omega⟩)
/-- after t calls -/
def LwI (l0 : Nat) (M : Mm) (a n b t : Nat) (s : Ms) : Prop := M.sh a = some (40, n) ∧ a < b ∧ b + 303 ≤ M.sz ∧ CM M b s ∧ RP M (b + 279) s ∧ IvS t s ∧ M.sz ≤ b + 303 + 3 * t ∧ M.sl ≤ l0 + 30 * t
section
variable {l0 a n b t : Nat} {M M1 M2 : Mm} {s s' : Ms}
theorem LwI.sa (h : LwI l0 M a n b t s) : M.sh a = some (40, n) := h.1
theorem LwI.ab (h : LwI l0 M a n b t s) : a < b := h.2.1
theorem LwI.z (h : LwI l0 M a n b t s) : b + 303 ≤ M.sz := h.2.2.1
theorem LwI.cm (h : LwI l0 M a n b t s) : CM M b s := h.2.2.2.1
theorem LwI.rp (h : LwI l0 M a n b t s) : RP M (b + 279) s := h.2.2.2.2.1
theorem LwI.iv (h : LwI l0 M a n b t s) : IvS t s := h.2.2.2.2.2.1
theorem LwI.sa1 (h : LwI l0 M a n b t s) (f : Fr b M M1) : M1.sh a = some (40, n) := by
  have h1 := h.ab
  have h2 := h.z
  rw [f.2.2.2.sh ⟨by omega, by omega⟩]
  exact h.sa
theorem LwI.it1 (h : LwI l0 M a n b t s) (f : Fr b M M1) (j : Nat) : M1.it a j = M.it a j := by
  have h1 := h.ab
  have h2 := h.z
  exact f.2.2.2.it ⟨by omega, by omega⟩ j
theorem LwI.rp1 (h : LwI l0 M a n b t s) (f : Fr b M M1) : RP M1 (b + 279) s := h.rp.fr f h.z
theorem LwI.nx (h : LwI l0 M a n b t s) (c1 : CM M1 b s') (f : Fr b M M1) (r2 : RP M2 (b + 279) s') (g : Rr (b + 279) M1 M2) (hi : IvS (t + 1) s') : LwI l0 M2 a n b (t + 1) s' := by
  obtain ⟨x1, x2, x3, x4, x5, x6, x7, x8⟩ := h
  have z1 := f.1
  have z2 := f.2.1
  have z3 := f.2.2.1
  have ez := g.2.1
  have el := g.2.2.1
  have g2 : Ag (fun y => ¬ (b + 279 ≤ y ∧ y < b + 279 + 24)) M1 M2 := g.of.ag (fun _ q => q)
  refine ⟨?_, x2, by omega, c1.ag g2 (fun x hx => by omega) (by omega), r2, hi, by omega, by omega⟩
  rw [g2.sh (by omega), f.2.2.2.sh ⟨by omega, by omega⟩]
  exact x1
end
