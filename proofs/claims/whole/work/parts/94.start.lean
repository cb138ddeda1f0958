/-! the start: the tables' words give the classes, the script is all that there is -/
theorem st_inst : ∀ q ∈ classes, Cond.instantiable q.1 q.2.2 ∈ lw_tbl := by decide +kernel
theorem st_nest : ∀ q ∈ nstM, Cond.methodLinkNest q.1 q.2.1 q.2.2.1 q.2.2.2 ∈ lw_tbl := by decide +kernel
theorem st_arr : ∀ ty ∈ [FieldType.int, .boolean, .byte], Cond.arrayClass ty ∈ lw_tbl := by decide +kernel
theorem st_over : ∀ q ∈ [classes[4]?, classes[8]?, classes[9]?], ∀ z ∈ q, Cond.arrayOver (.object z.1) ∈ lw_tbl := by decide +kernel
theorem st_cast : Cond.castable "[I" "java/lang/Cloneable" ∈ lw_tbl := by decide +kernel
theorem st_rt {t : Nat} {q : vw_C} (h : rTyB t = true) (hq : classes[t - 50]? = some q) : Cond.arrayOver (.object q.1) ∈ lw_tbl := by
  unfold rTyB at h
  simp only [Bool.or_eq_true, Nat.beq_eq] at h
  rcases h with (h | h) | h
  · subst h; exact st_over (classes[4]?) (by simp) q hq
  · subst h; exact st_over (classes[8]?) (by simp) q hq
  · subst h; exact st_over (classes[9]?) (by simp) q hq
theorem st_A {s : State} {A : Array Value} (hts : ∀ w ∈ lw_tbl, w.before A s = true) {t : Nat} {ty : FieldType} (h : aTy t = some ty) : ∃ cA, ArrOfT s cA ty ∧ va_RA s cA ty := by
  have prim : ∀ ty : FieldType, ty = .int ∨ ty = .boolean ∨ ty = .byte → ∃ cA, ArrOfT s cA ty ∧ va_RA s cA ty := by
    intro ty hty
    have hm : Cond.arrayClass ty ∈ lw_tbl := st_arr ty (by rcases hty with h | h | h <;> subst h <;> simp)
    obtain ⟨cA, kA, comp, hf, hk, hkd⟩ := Cond.arrayClass_spec (hts _ hm)
    refine ⟨cA, fun n z => ⟨fun k h => (by cases h), kA, hk, comp, hkd⟩, ?_⟩
    rcases hty with h | h | h <;> subst h <;> exact hf
  unfold aTy at h
  split at h
  · cases h; exact prim _ (Or.inl rfl)
  · split at h
    · cases h; exact prim _ (Or.inr (Or.inl rfl))
    · split at h
      · cases h; exact prim _ (Or.inr (Or.inr rfl))
      · split at h
        · rename_i hr
          obtain ⟨q, hq, e⟩ := Option.map_eq_some_iff.mp h
          subst e
          obtain ⟨comp, cA, kA, h1, -, h2, h3, h4⟩ := Cond.arrayOver_spec (hts _ (st_rt hr hq))
          exact ⟨cA, fun n z => ⟨fun k h => (by cases h), kA, h2, comp, h3⟩, kA, comp, h2, h3, h1, h4⟩
        · cases h
theorem kk_start {s : State} {b L : Nat} {xs : Nat → Int32} (hts : ∀ w ∈ lw_tbl, w.before #[Value.ref b] s = true) (hX : va_X b L xs s s.heap) : ∃ (D : va_G) (dA : Nat → ClassId), KK D dA s ∧ ∀ M : Mm, M.sz = s.heap.size → (∀ a t n, M.sh a = some (t, n) → a = b ∧ t = 40 ∧ n = L) → (∀ j, j < L → M.it b j = xs j) → Rep D dA s.heap.size M s.heap := by
  obtain ⟨scr, x1, x2, x3, x4, x5⟩ := hX
  have K : ∀ t : Nat, ∃ z : ClassId × (Nat → Nat), ∀ q : vw_C, classes[t]? = some q → u_Kn s q.1 q.2.1 q.2.2 z.1 z.2 := by
    intro t
    cases hq : classes[t]? with
    | none => exact ⟨(scr.cls, fun _ => 0), fun q h => by cases h⟩
    | some q =>
      obtain ⟨c, i, h⟩ := u_known (C := q.1) (T := q.2.1) (N := q.2.2) (n := q.2.2) hts (fun w hw => (List.mem_filter.mp (cls_in t q.1 q.2.1 q.2.2 hq w hw)).1) (hts _ (st_inst q (List.mem_of_getElem? hq)))
      exact ⟨(c, i), fun q' h' => by cases h'; exact h⟩
  have A : ∀ t, ∃ cA : ClassId, ∀ ty, aTy t = some ty → ArrOfT s cA ty ∧ (t ≠ 40 → va_RA s cA ty) := by
    intro t
    by_cases c : t = 40
    · refine ⟨scr.cls, fun ty hty => ⟨fun n z => ?_, fun h => absurd c h⟩⟩
      subst c
      have e : ty = .int := by
        have : some FieldType.int = some ty := hty
        cases this
        rfl
      subst e
      exact ⟨fun k h => (by cases h), x2.2⟩
    · cases hty : aTy t with
      | none => exact ⟨scr.cls, fun ty h => by cases h⟩
      | some ty =>
        obtain ⟨cA, h1, h2⟩ := st_A hts hty
        exact ⟨cA, fun ty' h' => by cases h'; exact ⟨h1, fun _ => h2⟩⟩
  have A40 : ∃ f : Nat → ClassId, f 40 = scr.cls ∧ ∀ t ty, aTy t = some ty → ArrOfT s (f t) ty ∧ (t ≠ 40 → va_RA s (f t) ty) := by
    refine ⟨fun t => if t = 40 then scr.cls else Classical.choose (A t), by simp, fun t ty hty => ?_⟩
    by_cases c : t = 40
    · subst c
      have e : ty = .int := by
        have : some FieldType.int = some ty := hty
        cases this
        rfl
      subst e
      refine ⟨?_, fun h => absurd rfl h⟩
      dsimp only
      rw [if_pos rfl]
      exact fun n z => ⟨fun k h => (by cases h), x2.2⟩
    · dsimp only
      rw [if_neg c]
      exact Classical.choose_spec (A t) ty hty
  obtain ⟨dA, d40, hdA⟩ := A40
  refine ⟨(fun t => (Classical.choose (K t)).1, fun t => (Classical.choose (K t)).2), dA, ⟨⟨fun t q hq => Classical.choose_spec (K t) q hq, fun k q h => by simp at h⟩, hdA, fun q hq => (by cases hq), fun q hq => va_Nw.of rfl (hts _ (st_nest q hq)), fun t q hr hq => va_AO.of (hts _ (st_rt hr hq)), va_Nw.of rfl (hts _ st_cast)⟩, fun M hz hsh hit => ⟨hz.symm, fun a t n ha => ?_⟩⟩
  obtain ⟨e1, e2, e3⟩ := hsh a t n ha
  subst e1; subst e2; subst e3
  refine ⟨?_, fun h => absurd rfl h⟩
  show RAt _ dA M a 40 n s.heap
  unfold RAt
  rw [if_neg (by decide), if_pos rfl]
  exact ⟨scr, x1, d40.symm, x2.1, x3, x4, fun j hj => by rw [hit j hj]; exact x5 j hj⟩
/-- the memory at the start -/
def M00 (b L z : Nat) (xs : Nat → Int32) : Mm := (fun a => if a = b then some (40, L) else none, (z, 0), fun a j => if a = b then xs j else 0, fun _ _ => 0, fun _ _ => none)
theorem M00_sh {b L z : Nat} {xs : Nat → Int32} {a t n : Nat} (h : (M00 b L z xs).sh a = some (t, n)) : a = b ∧ t = 40 ∧ n = L := by
  have h : (if a = b then some (40, L) else none) = some (t, n) := h
  by_cases c : a = b
  · rw [if_pos c] at h
    cases h
    exact ⟨c, rfl, rfl⟩
  · rw [if_neg c] at h
    cases h
theorem run_start {L b z : Nat} {xs : Nat → Int32} (hL : L ≤ 3072) (hb : b < z) : ∃ M1 : Mm, M1.sz ≤ z + 2000 ∧ M1.sl ≤ 80000 ∧ Run 9 0 0 (enL (mX 0) [.inr (some b)]) [] (M00 b L z xs) (some (.inl 1)) M1 := by
  obtain ⟨v, M1, ⟨rfl, z1, z2⟩, run⟩ := lwX (d := 0) (M := M00 b L z xs) (a := b) (n := L) (by show (if b = b then some (40, L) else none) = _; rw [if_pos rfl]) hb hL
  exact ⟨M1, z1, by have : M1.sl ≤ 0 + 80000 := z2; omega, run⟩
