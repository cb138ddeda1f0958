/-! what holds, and that each call keeps it -/
def RB (c : Nat) (q : RecT) : Prop := q.1 ≤ c ∧ q.2.1 ≤ c ∧ q.2.2.1 ≤ 17 * c
def BtI (dk : Nat → Nat → Nat) (ws : List Wm) : Prop := (∀ b i, dk b i < 256) ∧ ∀ w, w ∈ ws → w.r = none → ∀ i, w.y i < 256
def Bd (c : Nat) (s : Ms) : Prop := (s.ws.length ≤ 120 ∧ s.md ≤ 30 * c ∧ s.st ≤ 17 * c ∧ s.mu ≤ c ∧ s.C.2 ≤ 60 * c) ∧ (RB c s.la ∧ RB c s.s0 ∧ (∀ q, s.s1 = some q → RB c q) ∧ ∀ w q, w ∈ s.ws → w.r = some q → RB c q) ∧ ((s.s0.1 % 2 = 0 ∧ ∀ q, s.s1 = some q → q.1 % 2 = 1) ∧ ∀ e, s.op = some e → e < 8) ∧ BtI s.dk s.ws ∧ ((s.tp.length ≤ 200 ∧ ∀ v, v ∈ s.tp → v < 256) ∧ s.ou.length ≤ 100 ∧ ∀ v, v ∈ s.ou → v < 256)
def On_ (s : Ms) : Prop := CoI s.dk s.ws s.md s.R s.g0 s.S0 s.em s.pt s.ch s.tb s.la s.lw
def IvS (c : Nat) (s : Ms) : Prop := (s.off = false → On_ s) ∧ (s.off = true → s.ws = [] ∧ D0I s.dk [] s.g0 s.S0 ∧ GhI [] s.R s.g0 s.S0) ∧ Bd c s
theorem RB.mono {c d : Nat} {q : RecT} (h : RB c q) (hd : c ≤ d) : RB d q := by
  obtain ⟨h1, h2, h3⟩ := h
  exact ⟨by omega, by omega, by omega⟩
theorem Bd.mono {c d : Nat} {s : Ms} (h : Bd c s) (hd : c ≤ d) : Bd d s := by
  obtain ⟨⟨a1, a2, a3, a4, a5⟩, ⟨b1, b2, b3, b4⟩, h3⟩ := h
  exact ⟨⟨a1, by omega, by omega, by omega, by omega⟩, ⟨b1.mono hd, b2.mono hd, fun q hq => (b3 q hq).mono hd, fun w q hw hq => (b4 w q hw hq).mono hd⟩, h3⟩
theorem IvS.mono {c d : Nat} {s : Ms} (h : IvS c s) (hd : c ≤ d) : IvS d s := ⟨h.1, h.2.1, h.2.2.mono hd⟩
theorem tkE_ok {pt : Nat → Nat} {op : Option Nat} {n l e : Nat} (ho : ∀ e, op = some e → e < 8) (h : tkE pt op n l = some e) : e < 8 ∧ pt e + n ≤ 16 := by
  unfold tkE at h
  by_cases c : 16 < n
  · rw [if_pos c] at h; cases h
  · rw [if_neg c] at h
    have f : ∀ e, fst_ (emE pt op) 0 8 = some e → e < 8 ∧ pt e + n ≤ 16 := by
      intro e he
      obtain ⟨h1, h2, h3⟩ := fst_spec _ _ _ _ he
      unfold emE at h1
      rw [Bool.and_eq_true, beq_iff_eq] at h1
      omega
    cases op with
    | none =>
      have h : (if cnt (emE pt none) 8 < l then none else fst_ (emE pt none) 0 8) = some e := h
      split at h
      · cases h
      · exact f e h
    | some a =>
      have h : (if pt a + n ≤ 16 then some a else if cnt (emE pt (some a)) 8 < l then none else fst_ (emE pt (some a)) 0 8) = some e := h
      split at h
      · cases h
        exact ⟨ho _ rfl, by assumption⟩
      · split at h
        · cases h
        · exact f e h
theorem tkE_ne {pt : Nat → Nat} {op : Option Nat} {n l e e0 : Nat} (ho : op ≠ some e0) (hp : pt e0 ≠ 0) (h : tkE pt op n l = some e) : e ≠ e0 := by
  unfold tkE at h
  by_cases c : 16 < n
  · rw [if_pos c] at h; cases h
  · rw [if_neg c] at h
    have f : ∀ e, fst_ (emE pt op) 0 8 = some e → e ≠ e0 := by
      intro e he c2
      obtain ⟨h1, h2, h3⟩ := fst_spec _ _ _ _ he
      unfold emE at h1
      rw [Bool.and_eq_true, beq_iff_eq, c2] at h1
      exact hp h1.1
    cases op with
    | none =>
      have h : (if cnt (emE pt none) 8 < l then none else fst_ (emE pt none) 0 8) = some e := h
      split at h
      · cases h
      · exact f e h
    | some a =>
      have h : (if pt a + n ≤ 16 then some a else if cnt (emE pt (some a)) 8 < l then none else fst_ (emE pt (some a)) 0 8) = some e := h
      split at h
      · cases h
        intro c2
        rw [c2] at ho
        exact ho rfl
      · split at h
        · cases h
        · exact f e h
theorem nwM_bt {dk : Nat → Nat → Nat} {ws : List Wm} {md p nb : Nat} {cl : List Nat} {o : Option Nat} {f : Nat → Bool} (h : BtI dk ws) (hc : ∀ v, v ∈ cl → v < 256) : BtI dk (ws ++ nwM ws md p cl o f nb) := by
  refine ⟨h.1, fun w hw hr i => ?_⟩
  rcases List.mem_append.mp hw with hw | hw
  · exact h.2 w hw hr i
  · obtain ⟨j, _, _, _, _, h4, _⟩ := nwM_mem hw
    rw [h4]
    show (cl[16 * j + i]?).getD 0 < 256
    cases hg : cl[16 * j + i]? with
    | none => show 0 < 256; omega
    | some v => exact hc v (List.mem_of_getElem? hg)
theorem vw_bt {dk : Nat → Nat → Nat} {ws : List Wm} (h : BtI dk ws) (hr : ∀ x, x ∈ ws → x.r = none → x.t < 128) {b : Nat} (hx : ∀ x, x ∈ ws → x.t = b → x.r = none) (i : Nat) : vw dk ws b i < 256 := by
  have key : ∀ (l : List Wm) (f : Nat → Nat), (∀ x, x ∈ l → x ∈ ws) → (∀ i, f i < 256) → ∀ i, (l.foldl (fun f x => if x.t = b then x.y else f) f) i < 256 := by
    intro l
    induction l with
    | nil => intro f _ hf i; exact hf i
    | cons a l ih =>
      intro f hl hf i
      rw [List.foldl_cons]
      refine ih _ (fun x hx => hl x (by simp [hx])) (fun i => ?_) i
      by_cases c : a.t = b
      · rw [if_pos c]
        exact h.2 a (hl a (by simp)) (hx a (hl a (by simp)) c) i
      · rw [if_neg c]; exact hf i
  exact key ws (dk b) (fun x hx => hx) (h.1 b) i
theorem On_.vb {s : Ms} (h : On_ s) (hb : BtI s.dk s.ws) {b : Nat} (hl : b < 128) (i : Nat) : s.V b i < 256 := by
  refine vw_bt hb (fun x hx => (h.1.1.2 x hx).2.2.1) (fun x hx tx => ?_) i
  cases hr : x.r with
  | none => rfl
  | some q =>
    have := (h.1.1.2 x hx).2.2.2 q hr
    omega
theorem ctS_len (S : Nat → Nat → Nat) (p n : Nat) : (ctS S p n).length = n := by
  unfold ctS
  rw [List.length_map, List.length_range]
theorem tbB_le (mg : Bool) (s : Ms) : tbB mg s ≤ 10 ∧ 1 ≤ tbB mg s := by
  unfold tbB
  rw [tbL_len]
  have := nE_le (frS mg s.ch s.tb) 48
  omega
/-! the calls that change little -/
theorem inv_feed {c : Nat} {s : Ms} (h : IvS c s) (x1 x2 x3 x4 x5 : Int32) : IvS c (mFeed x1 x2 x3 x4 x5 s).2 := by
  unfold mFeed
  by_cases c1 : 200 < s.tp.length + 20
  · rw [if_pos c1]; exact h
  · rw [if_neg c1]
    obtain ⟨h1, h2, ⟨a, b, d, e, ⟨f1, f2⟩, f3⟩⟩ := h
    refine ⟨h1, h2, a, b, d, e, ⟨?_, fun v hv => ?_⟩, f3⟩
    · show (s.tp ++ _).length ≤ 200
      rw [List.length_append]
      show s.tp.length + 20 ≤ 200
      omega
    · have hv : v ∈ s.tp ++ (fdB x1 ++ fdB x2 ++ fdB x3 ++ fdB x4 ++ fdB x5) := hv
      have fd : ∀ x, v ∈ fdB x → v < 256 := by
        intro x hx
        unfold fdB byI at hx
        simp at hx
        omega
      rcases List.mem_append.mp hv with hv | hv
      · exact f2 v hv
      · simp only [List.mem_append] at hv
        rcases hv with (((hv | hv) | hv) | hv) | hv <;> exact fd _ hv
theorem inv_tape {c : Nat} {s : Ms} (h : IvS c s) : IvS c (sT ([], s.ou) s) := by
  obtain ⟨h1, h2, ⟨a, b, d, e, ⟨f1, f2⟩, f3⟩⟩ := h
  exact ⟨h1, h2, a, b, d, e, ⟨Nat.zero_le _, fun v hv => (by cases hv)⟩, f3⟩
/-- an object's chunk: what On_ and the bounds become -/
theorem On_.obj {s : Ms} (h : On_ s) {k e : Nat} {ct : List Nat} (he : e < 8) (hn : s.pt e + (ct.length + 23) / 16 ≤ 16) (hc : ct.length ≤ 100) : On_ (sCh k (16 * e + s.pt e) (mkC 1 k ct e s)) := CoI.obj h he hn hc
theorem On_.mu {s : Ms} (h : On_ s) : On_ (sMu s) := h
theorem inv_obj {c : Nat} {s : Ms} (h : IvS c s) (hoff : s.off = false) {k e : Nat} {ct : List Nat} (hk : k < 48) (hl : ct.length ≤ 100) (htl : ∀ v, v ∈ ct → v < 256) (e1 : e < 8) (e2 : s.pt e + (ct.length + 23) / 16 ≤ 16) (hw : s.ws.length + (ct.length + 23) / 16 ≤ 120) : IvS (c + 1) (sMu (sCh k (16 * e + s.pt e) (mkC 1 k ct e s))) := by
  have hm := h.mono (Nat.le_succ c)
  have o2 : On_ (sCh k (16 * e + s.pt e) (mkC 1 k ct e s)) := On_.obj (h.1 hoff) e1 e2 hl
  refine ⟨fun _ => o2.mu, fun c3 => ?_, ?_⟩
  · have c3 : s.off = true := c3
    rw [hoff] at c3; cases c3
  · obtain ⟨⟨a1, a2, a3, a4, a5⟩, ⟨b1, b2, b3, b4⟩, ⟨d1, d2⟩, f, g⟩ := hm.2.2
    have a2' := h.2.2.1.2.1
    have a3' := h.2.2.1.2.2.1
    have a4' := h.2.2.1.2.2.2.1
    refine ⟨⟨?_, ?_, ?_, ?_, a5⟩, ⟨b1, b2, b3, fun w q hw hq => ?_⟩, ⟨d1, fun x hx => ?_⟩, ?_, g⟩
    · show (s.ws ++ nwM s.ws s.md (16 * e + s.pt e) (chL 1 k ct s.st) (s.em e) (fun _ => false) ((ct.length + 23) / 16)).length ≤ 120
      rw [List.length_append, nwM_len]
      omega
    · show s.md + (ct.length + 23) / 16 ≤ _
      omega
    · show s.st + 1 ≤ _
      omega
    · show s.mu + 1 ≤ _
      omega
    · have hw : w ∈ s.ws ++ nwM s.ws s.md (16 * e + s.pt e) (chL 1 k ct s.st) (s.em e) (fun _ => false) ((ct.length + 23) / 16) := hw
      rcases List.mem_append.mp hw with hw | hw
      · exact b4 w q hw hq
      · obtain ⟨_, _, _, _, hr, _⟩ := nwM_mem hw
        rw [hr] at hq; cases hq
    · have hx : some e = some x := hx
      cases hx; exact e1
    · show BtI s.dk (s.ws ++ nwM s.ws s.md (16 * e + s.pt e) (chL 1 k ct s.st) (s.em e) (fun _ => false) ((ct.length + 23) / 16))
      exact nwM_bt f (chL_lt (by omega) (by omega) htl (by omega))
theorem inv_put {c : Nat} {s : Ms} (h : IvS c s) (key n : Int32) : IvS (c + 1) (mPut key n s).2 := by
  unfold mPut
  have hm := h.mono (Nat.le_succ c)
  cases hk : keyOf key with
  | none => exact hm
  | some k =>
    show IvS (c + 1) (if _ then _ else _ : Int32 × Ms).2
    have hk48 : k < 48 := by
      unfold keyOf at hk
      split at hk
      · cases hk; omega
      · cases hk
    by_cases c1 : s.off = true ∨ n.toInt < 0 ∨ 100 < n.toInt ∨ (s.tp.length : Int) < n.toInt
    · rw [if_pos c1]; exact hm
    · rw [if_neg c1]
      have hoff : s.off = false := by
        cases ho : s.off with
        | false => rfl
        | true => exact absurd (Or.inl ho) c1
      generalize hN : n.toInt.toNat = m
      have hm1 : m ≤ 100 := by omega
      have hm2 : m ≤ s.tp.length := by omega
      cases ht : tkE s.pt s.op ((m + 23) / 16) 3 with
      | none => exact inv_tape hm
      | some e =>
        show IvS (c + 1) (if _ then _ else _ : Int32 × Ms).2
        by_cases c2 : 120 < s.ws.length + (m + 23) / 16
        · rw [if_pos c2]; exact inv_tape hm
        · rw [if_neg c2]
          have hlen : (s.tp.take m).length = m := by rw [List.length_take]; omega
          have htl : ∀ v, v ∈ s.tp.take m → v < 256 := fun v hv => h.2.2.2.2.2.2.1.2 v (List.mem_of_mem_take hv)
          obtain ⟨e1, e2⟩ := tkE_ok h.2.2.2.2.1.2 ht
          have h2 := inv_tape h
          have p2 : (sT ([], s.ou) s).pt = s.pt := rfl
          have w2 : (sT ([], s.ou) s).ws = s.ws := rfl
          have f2 : (sT ([], s.ou) s).off = s.off := rfl
          rw [← p2]
          generalize hs : sT ([], s.ou) s = s' at *
          exact inv_obj h2 (by rw [f2]; exact hoff) hk48 (by omega) htl e1 (by rw [hlen, p2]; exact e2) (by rw [hlen, w2]; omega)
theorem inv_del {c : Nat} {s : Ms} (h : IvS c s) (key : Int32) : IvS (c + 1) (mDel key s).2 := by
  unfold mDel
  have hm := h.mono (Nat.le_succ c)
  cases hk : keyOf key with
  | none => exact hm
  | some k =>
    show IvS (c + 1) (if _ then _ else _ : Int32 × Ms).2
    by_cases c1 : s.off = true ∨ plO s.ch s.tb (some k) = none
    · rw [if_pos c1]; exact hm
    · rw [if_neg c1]
      have hoff : s.off = false := by
        cases ho : s.off with
        | false => rfl
        | true => exact absurd (Or.inl ho) c1
      have o1 := h.1 hoff
      refine ⟨fun _ => CoI.del o1, fun c3 => ?_, ?_⟩
      · have c3 : s.off = true := c3
        rw [hoff] at c3; cases c3
      · obtain ⟨⟨a1, a2, a3, a4, a5⟩, r⟩ := hm.2.2
        have a4' := h.2.2.1.2.2.2.1
        exact ⟨⟨a1, a2, a3, by show s.mu + 1 ≤ _; omega, a5⟩, r⟩
theorem cuR_le (l : List Nat) (b : Nat) : cuR l b ≤ 1 := by unfold cuR; split <;> omega
theorem usC_le (ws : List Wm) (C : List Nat × Nat) (p : Nat) : ∀ n, (usC ws C p n).2 ≤ C.2 + n
  | 0 => Nat.le_refl _
  | n + 1 => by
    have h1 := usC_le ws C p n
    show (usM ws (usC ws C p n) (p + n)).2 ≤ _
    unfold usM
    split
    · omega
    · show (usC ws C p n).2 + cuR _ _ ≤ _
      have := cuR_le (usC ws C p n).1 (p + n)
      omega
theorem inv_get {c : Nat} {s : Ms} (h : IvS c s) (key : Int32) : IvS (c + 1) (mGet key s).2 := by
  unfold mGet
  have hm := h.mono (Nat.le_succ c)
  by_cases c1 : s.off = true
  · rw [if_pos c1]; exact hm
  · rw [if_neg c1]
    have hoff : s.off = false := by
      cases ho : s.off with
      | false => rfl
      | true => exact absurd ho c1
    have o1 := h.1 hoff
    cases hk : keyOf key with
    | none =>
      cases hp : plO s.ch s.tb none with
      | none => exact hm
      | some p =>
        have hp' : plO s.ch s.tb none = none := by
          have : ∀ tb : TbT, lkT tb none = none := by
            intro tb
            induction tb with
            | nil => rfl
            | cons z l ih => show orO none (lkT l none) = none; rw [ih]; rfl
          unfold plO lkS
          show noG (lkT s.tb none) = none
          rw [this]
          rfl
        rw [hp'] at hp; cases hp
    | some k =>
      have hk48 : k < 48 := by
        unfold keyOf at hk
        split at hk
        · cases hk; omega
        · cases hk
      cases hp : plO s.ch s.tb (some k) with
      | none => exact hm
      | some p =>
        obtain ⟨w1, w2, w3, w4, w5, w6, w7, w8⟩ := o1.2.2.2.1
        obtain ⟨p1, p2⟩ := w5 k p hk48 hp
        have p3 := w6 p (Or.inl ⟨k, hk48, hp⟩)
        have p2 : lnS s.V p ≤ 100 := p2
        refine ⟨fun _ => o1, fun c3 => ?_, ?_⟩
        · have c3 : s.off = true := c3
          rw [hoff] at c3; cases c3
        · obtain ⟨⟨a1, a2, a3, a4, a5⟩, b, d, f, g1, g2⟩ := hm.2.2
          have a5' := h.2.2.1.2.2.2.2
          refine ⟨⟨a1, a2, a3, a4, ?_⟩, b, d, f, g1, ?_, fun v hv => ?_⟩
          · show (usC s.ws s.C p (nbS s.V p)).2 ≤ _
            have h1 := usC_le s.ws s.C p (nbS s.V p)
            have h2 : nbS s.V p ≤ 17 := by unfold nbS; unfold lnS at p2; omega
            omega
          · show (ctS s.V p (lnS s.V p)).length ≤ 100
            rw [ctS_len]; exact p2
          · have hv : v ∈ ctS s.V p (lnS s.V p) := hv
            unfold ctS at hv
            obtain ⟨j, hj, e⟩ := List.mem_map.mp hv
            rw [List.mem_range] at hj
            subst e
            have w1' := w1 (p / 16) (by omega)
            have h3 : nbS s.V p = (lnS s.V p + 23) / 16 := rfl
            have p3 : p % 16 + nbS s.V p ≤ s.pt (p / 16) := p3
            exact o1.vb f (by omega) _
