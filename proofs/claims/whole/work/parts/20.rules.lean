/-! THE MEMORY IN THE HEAP. tags: below 40 a class's number; 40 the script; 41 int[], 42 boolean[], 43 long[]; 50 + t: an array of objects of class t -/
def tyC (ft : FieldType) : Nat := match ft with
  | .int => 0
  | .boolean => 1
  | .long => 2
  | .object _ => 3
  | .array _ => 3
  | .byte => 4
  | _ => 9
def eTy (t : Nat) : Nat := if t = 41 then 0 else if t = 42 then 1 else if t = 44 then 4 else 3
def aTy (t : Nat) : Option FieldType := if t = 40 ∨ t = 41 then some .int else if t = 42 then some .boolean else if t = 44 then some .byte else if rTyB t = true then (classes[t - 50]?).map (fun q => .object q.1) else none
def RAt (D : va_G) (dA : Nat → ClassId) (M : Mm) (a t n : Nat) (H : Heap) : Prop :=
  if t < 40 then ∃ r : vw_C, classes[t]? = some r ∧ t_OB a (D.1 t) r.2.2 (D.2 t) H (fun k => m_val (m_rd M (tyC (tyOf t k)) a k))
  else if t = 40 then ∃ scr : Cell, H[a]? = some scr ∧ scr.cls = dA 40 ∧ (∀ k, scr.vm ≠ .statics k) ∧ scr.vm ≠ .unknown ∧ scr.slots.size = n ∧ ∀ j, j < n → scr.slots[j]? = some (.int (M.it a j))
  else H[a]? = some (arrV (dA t) n (fun j => m_val (m_rd M (eTy t) a j)))
def Rep (D : va_G) (dA : Nat → ClassId) (lo : Nat) (M : Mm) (H : Heap) : Prop := H.size = M.sz ∧ ∀ a t n, M.sh a = some (t, n) → RAt D dA M a t n H ∧ (t ≠ 40 → lo ≤ a)
theorem RAt.kept {D : va_G} {dA : Nat → ClassId} {M M' : Mm} {a t n : Nat} {H H' : Heap} (h : RAt D dA M a t n H) (hH : H'[a]? = H[a]?) (hM : ∀ ty j, m_rd M' ty a j = m_rd M ty a j) : RAt D dA M' a t n H' := by
  unfold RAt at h ⊢
  by_cases h1 : t < 40
  · rw [if_pos h1] at h ⊢
    obtain ⟨r, e, hb⟩ := h
    refine ⟨r, e, (hb.kept hH).to fun k _ => ?_⟩
    rw [hM]
  · rw [if_neg h1] at h ⊢
    by_cases h2 : t = 40
    · rw [if_pos h2] at h ⊢
      obtain ⟨scr, e1, e2, e3, e4, e5, e6⟩ := h
      refine ⟨scr, by rw [hH]; exact e1, e2, e3, e4, e5, fun j hj => ?_⟩
      have := hM 0 j
      simp only [m_rd0, Sum.inl.injEq] at this
      rw [this]
      exact e6 j hj
    · rw [if_neg h2] at h ⊢
      rw [hH, h]
      congr 2
      funext j
      rw [hM]
theorem RAt.lt {D : va_G} {dA : Nat → ClassId} {M : Mm} {a t n : Nat} {H : Heap} (h : RAt D dA M a t n H) : a < H.size := by
  unfold RAt at h
  by_cases h1 : t < 40
  · rw [if_pos h1] at h
    obtain ⟨r, e, cell, h2, -⟩ := h
    exact (Array.getElem?_eq_some_iff.mp h2).1
  · rw [if_neg h1] at h
    by_cases h2 : t = 40
    · rw [if_pos h2] at h
      obtain ⟨scr, e1, -⟩ := h
      exact (Array.getElem?_eq_some_iff.mp e1).1
    · rw [if_neg h2] at h
      exact (Array.getElem?_eq_some_iff.mp h).1
/-- one slot of one cell has changed -/
theorem Rep.put {D : va_G} {dA : Nat → ClassId} {lo : Nat} {M M' : Mm} {a k : Nat} {H H' : Heap} (h : Rep D dA lo M H) (hsh : M'.sh = M.sh) (hsz : M'.sz = M.sz) (hM : ∀ ty b j, (b ≠ a ∨ j ≠ k) → m_rd M' ty b j = m_rd M ty b j)
    (z : H'.size = H.size) (oq : ∀ q : Nat, q ≠ a → H'[q]? = H[q]?) (ha : ∀ t n, M.sh a = some (t, n) → RAt D dA M' a t n H') : Rep D dA lo M' H' := by
  refine ⟨by rw [z, hsz]; exact h.1, fun b t n hb => ?_⟩
  rw [hsh] at hb
  obtain ⟨h1, h2⟩ := h.2 b t n hb
  refine ⟨?_, h2⟩
  by_cases hba : b = a
  · subst hba
    exact ha t n hb
  · exact h1.kept (oq b hba) (fun ty j => hM ty b j (Or.inl hba))
theorem m_rd_si {M : Mm} {a k : Nat} {x : Int32} (ty b j : Nat) (h : b ≠ a ∨ j ≠ k) : m_rd (M.si a k x) ty b j = m_rd M ty b j := by
  have hn : ¬ (b = a ∧ j = k) := fun q => h.elim (fun g => g q.1) (fun g => g q.2)
  unfold m_rd
  split
  · rfl
  · rfl
  · rw [si_it, if_neg hn]
theorem m_rd_sg {M : Mm} {a k : Nat} {x : Int64} (ty b j : Nat) (h : b ≠ a ∨ j ≠ k) : m_rd (M.sg a k x) ty b j = m_rd M ty b j := by
  have hn : ¬ (b = a ∧ j = k) := fun q => h.elim (fun g => g q.1) (fun g => g q.2)
  unfold m_rd
  split
  · rw [sg_lg, if_neg hn]
  · rfl
  · rfl
theorem m_rd_sr {M : Mm} {a k : Nat} {x : Option Nat} (ty b j : Nat) (h : b ≠ a ∨ j ≠ k) : m_rd (M.sr a k x) ty b j = m_rd M ty b j := by
  have hn : ¬ (b = a ∧ j = k) := fun q => h.elim (fun g => g q.1) (fun g => g q.2)
  unfold m_rd
  split
  · rfl
  · rw [sr_rf, if_neg hn]
  · rfl
/-- the cell at a after a store of its slot k, an object -/
theorem RAt.putO {D : va_G} {dA : Nat → ClassId} {M M' : Mm} {a k t n N : Nat} {C : String} {T : u_T} {H H' : Heap} {cell : Cell} {v : Value} (ht : t < 40) (hc : classes[t]? = some (C, T, N)) (hk : k < N) (hap : ∀ x y, x < N → y < N → x ≠ y → (D.2 t) x ≠ (D.2 t) y)
    (q2 : cell.cls = D.1 t) (q3 : cell.vm = .none) (q4 : ∀ k, k < N → cell.slots[D.2 t k]? = some (m_val (m_rd M (tyC (tyOf t k)) a k))) (e1 : H'[a]? = some (cell.setSlot (D.2 t k) v))
    (hM : ∀ ty b j, (b ≠ a ∨ j ≠ k) → m_rd M' ty b j = m_rd M ty b j) (hv : m_val (m_rd M' (tyC (tyOf t k)) a k) = v) : RAt D dA M' a t n H' := by
  unfold RAt
  rw [if_pos ht]
  refine ⟨_, hc, ?_⟩
  refine t_OB.to (V := updV (fun k => m_val (m_rd M (tyC (tyOf t k)) a k)) k v) ⟨_, e1, q2, q3, t_set q4 hap hk v⟩ (fun j _ => ?_)
  by_cases hj : j = k
  · subst hj
    simp [updV, hv]
  · simp only [updV, if_neg hj]
    rw [hM _ _ _ (Or.inr hj)]
/-- .. an array -/
theorem RAt.putA {D : va_G} {dA : Nat → ClassId} {M M' : Mm} {a k t n : Nat} {H' : Heap} {v : Value} (ht : ¬ t < 40) (ht2 : ¬ t = 40) (e1 : H'[a]? = some ((arrV (dA t) n (fun j => m_val (m_rd M (eTy t) a j))).setSlot k v))
    (hM : ∀ ty b j, (b ≠ a ∨ j ≠ k) → m_rd M' ty b j = m_rd M ty b j) (hv : m_val (m_rd M' (eTy t) a k) = v) : RAt D dA M' a t n H' := by
  unfold RAt
  rw [if_neg ht, if_neg ht2, e1, arrV_store]
  congr 2
  funext j
  by_cases hj : j = k
  · subst hj
    simp [updV, hv]
  · simp only [updV, if_neg hj]
    rw [hM _ _ _ (Or.inr hj)]
/-- a new cell -/
theorem Rep.push {D : va_G} {dA : Nat → ClassId} {lo : Nat} {M M' : Mm} {t n : Nat} {H H' : Heap} (h : Rep D dA lo M H) (hsh : ∀ b, M'.sh b = if b = M.sz then some (t, n) else M.sh b) (hsz : M'.sz = M.sz + 1) (hM : ∀ ty b j, b ≠ M.sz → m_rd M' ty b j = m_rd M ty b j)
    (z : H'.size = H.size + 1) (oq : ∀ q : Nat, q < H.size → H'[q]? = H[q]?) (hlo : lo ≤ H.size) (ha : RAt D dA M' M.sz t n H') : Rep D dA lo M' H' := by
  refine ⟨by rw [z, hsz, h.1], fun b t' n' hb => ?_⟩
  rw [hsh] at hb
  by_cases hbz : b = M.sz
  · rw [if_pos hbz] at hb
    cases hb
    subst hbz
    exact ⟨ha, fun _ => by rw [← h.1]; exact hlo⟩
  · rw [if_neg hbz] at hb
    obtain ⟨h1, h2⟩ := h.2 b t' n' hb
    exact ⟨h1.kept (oq b h1.lt) (fun ty j => hM ty b j hbz), h2⟩
theorem m_rd_nw {M : Mm} {t : Nat × Nat} {n : Nat} (ty b j : Nat) (h : b ≠ M.sz) : m_rd (M.nw t n) ty b j = m_rd M ty b j := by
  unfold m_rd
  split
  · rw [nw_lg, if_neg h]
  · rw [nw_rf, if_neg h]
  · rw [nw_it, if_neg h]
theorem m_rd_nw0 {M : Mm} {t : Nat × Nat} {n : Nat} (ft : FieldType) (hf : tyC ft ≤ 4) (j : Nat) : m_val (m_rd (M.nw t n) (tyC ft) M.sz j) = defaultValue ft := by
  cases ft <;> first | (exfalso; revert hf; decide) | simp [tyC, m_rd, nw_it, nw_lg, nw_rf, m_val, defaultValue, va_rf]
/-! locals -/
def lpL (L : List (Option mL)) : List (Nat × Value) := (List.range L.length).filterMap (fun k => (L[k]?).bind (fun o => o.map (fun v => (k, m_val (m_lv v)))))
theorem lpL_mem {L : List (Option mL)} {k : Nat} {v : mL} (h : L[k]? = some (some v)) : (k, m_val (m_lv v)) ∈ lpL L :=
  List.mem_filterMap.mpr ⟨k, List.mem_range.mpr (List.getElem?_eq_some_iff.mp h).1, by simp [h]⟩
theorem lpL_of {L : List (Option mL)} {q : Nat × Value} (h : q ∈ lpL L) : ∃ v, L[q.1]? = some (some v) ∧ q.2 = m_val (m_lv v) := by
  obtain ⟨k, -, hk⟩ := List.mem_filterMap.mp h
  cases hL : L[k]? with
  | none => simp [hL] at hk
  | some o =>
    cases o with
    | none => simp [hL] at hk
    | some v =>
      simp only [hL, Option.bind_some, Option.map_some, Option.some.injEq] at hk
      subst hk
      exact ⟨v, hL, rfl⟩
def LR (ls : Array Slot) (n : Nat) (L : List (Option mL)) : Prop := L.length = n ∧ lv_has ls n (lpL L)
theorem LR.at {ls : Array Slot} {n : Nat} {L : List (Option mL)} (h : LR ls n L) {k : Nat} {v : mL} (hk : L[k]? = some (some v)) : ls[k]? = some (.val (m_val (m_lv v))) := h.2.2.2 _ (lpL_mem hk)
theorem m_cat (v : mL) : (m_val (m_lv v)).category = 1 := by
  rcases v with x | r
  · rfl
  · cases r <;> rfl
theorem LR.set {ls ls' : Array Slot} {n : Nat} {L : List (Option mL)} {k : Nat} {v : mL} (h : LR ls n L) (h' : lv_has ls' n ((k, m_val (m_lv v)) :: (lpL L).filter (fun q => !(q.1 == k) && !(q.1 + 1 == k && q.2.category == 2)))) : LR ls' n (L.set k (some v)) := by
  refine ⟨by rw [List.length_set]; exact h.1, h'.1, h'.2.1, fun q hq => ?_⟩
  obtain ⟨w, hw, hq2⟩ := lpL_of hq
  refine h'.2.2 q ?_
  by_cases hk : q.1 = k
  · have hlt : k < L.length := by
      have := (List.getElem?_eq_some_iff.mp hw).1
      rw [List.length_set] at this
      omega
    rw [hk, List.getElem?_set_self hlt] at hw
    have e : w = v := by simpa using hw.symm
    subst e
    have : q = (k, m_val (m_lv w)) := by rw [← hk, ← hq2]
    rw [this]
    exact List.mem_cons_self
  · rw [List.getElem?_set_ne (Ne.symm hk)] at hw
    refine List.mem_cons_of_mem _ (List.mem_filter.mpr ⟨?_, ?_⟩)
    · have := lpL_mem hw
      rw [← hq2] at this
      exact this
    · have hc : q.2.category = 1 := by rw [hq2]; exact m_cat w
      simp [hk, hc]
def enL (n : Nat) (as : List mL) : List (Option mL) := as.map some ++ List.replicate (n - as.length) none
theorem sl1 (as : List mL) : (lg_sl (as.map fun v => m_val (m_lv v))).length = as.length := by
  induction as with
  | nil => rfl
  | cons a l ih =>
    have hc : ¬ (m_val (m_lv a)).category = 2 := by rw [m_cat]; decide
    simp only [lg_sl, List.map_cons, List.flatMap_cons, List.length_append, hc] at ih ⊢
    simp [ih]
    omega
theorem args_mem (as : List mL) : ∀ (i k : Nat) (v : mL), as[k]? = some v → (i + k, m_val (m_lv v)) ∈ lv_args i (as.map fun v => m_val (m_lv v)) := by
  induction as with
  | nil => intro i k v h; simp at h
  | cons a l ih =>
    intro i k v h
    have hc : ¬ (m_val (m_lv a)).category = 2 := by rw [m_cat]; decide
    rw [List.map_cons, lv_args, if_neg hc]
    cases k with
    | zero =>
      rw [List.getElem?_cons_zero] at h
      cases h
      exact List.mem_cons_self
    | succ k =>
      rw [List.getElem?_cons_succ] at h
      have := ih (i + 1) k v h
      rw [show i + 1 + k = i + (k + 1) by omega] at this
      exact List.mem_cons_of_mem _ this
theorem LR.entry {n : Nat} (as : List mL) (h : as.length ≤ n) : LR ((lg_sl (as.map fun v => m_val (m_lv v)) ++ List.replicate (n - (lg_sl (as.map fun v => m_val (m_lv v))).length) Slot.unset).toArray) n (enL n as) := by
  have hh := lv_entry (as.map fun v => m_val (m_lv v)) (n := n) (by rw [sl1]; exact h)
  refine ⟨by simp [enL]; omega, hh.1, hh.2.1, fun q hq => ?_⟩
  obtain ⟨w, hw, hq2⟩ := lpL_of hq
  have hk : as[q.1]? = some w := by
    by_cases hlt : q.1 < as.length
    · rw [enL, List.getElem?_append_left (by simpa using hlt), List.getElem?_map] at hw
      cases ha : as[q.1]? with
      | none => rw [ha] at hw; cases hw
      | some z => rw [ha] at hw; simpa using hw
    · rw [enL, List.getElem?_append_right (by simpa using Nat.not_lt.mp hlt)] at hw
      rw [List.getElem?_replicate] at hw
      split at hw <;> simp at hw
  have := args_mem as 0 q.1 w hk
  rw [Nat.zero_add, ← hq2] at this
  exact hh.2.2 q this
