theorem mvC_le (s : Ms) : ∀ (l : List Nat) (C : List Nat × Nat), (mvC s l C).2 ≤ C.2 + sumB (l.map (fun k => (k, ctS s.V (plK s k) (lnS s.V (plK s k)))))
  | [], C => Nat.le_refl _
  | k :: l, C => by
    have h1 := mvC_le s l (usC s.ws C (plK s k) (nbS s.V (plK s k)))
    have h2 := usC_le s.ws C (plK s k) (nbS s.V (plK s k))
    show (mvC s l (usC s.ws C (plK s k) (nbS s.V (plK s k)))).2 ≤ C.2 + (((ctS s.V (plK s k) (lnS s.V (plK s k))).length + 23) / 16 + sumB (l.map (fun k => (k, ctS s.V (plK s k) (lnS s.V (plK s k))))))
    rw [ctS_len]
    have h3 : nbS s.V (plK s k) = (lnS s.V (plK s k) + 23) / 16 := rfl
    omega
theorem cnt_z {p : Nat → Bool} : ∀ {n : Nat}, cnt p n = 0 → ∀ i, i < n → p i = false
  | 0, _, i, hi => by omega
  | n + 1, h, i, hi => by
    have h : cnt p n + (if p n then 1 else 0) = 0 := h
    by_cases c : i = n
    · subst c
      cases hp : p i with
      | false => rfl
      | true => rw [hp] at h; simp at h
    · exact cnt_z (n := n) (by omega) i (by omega)
theorem inv_recl {c : Nat} {s : Ms} (h : IvS c s) (x : Int32) : IvS (c + 1) (mRecl x s).2 := by
  unfold mRecl
  have hm := h.mono (Nat.le_succ c)
  cases hi : idx x 8 with
  | none => exact hm
  | some e =>
    have he : e < 8 := by
      unfold idx at hi
      split at hi
      · cases hi; omega
      · cases hi
    show IvS (c + 1) (if _ then _ else _ : Int32 × Ms).2
    by_cases c1 : s.off = true ∨ s.op = some e ∨ s.pt e = 0
    · rw [if_pos c1]; exact hm
    · rw [if_neg c1]
      have hoff : s.off = false := by
        cases ho : s.off with
        | false => rfl
        | true => exact absurd (Or.inl ho) c1
      have ho : s.op ≠ some e := fun q => c1 (Or.inr (Or.inl q))
      have hp : s.pt e ≠ 0 := fun q => c1 (Or.inr (Or.inr q))
      have o1 := h.1 hoff
      have hC : (mvC s (mvK e s) s.C).2 ≤ s.C.2 + 16 := by
        have h1 := mvC_le s (mvK e s) s.C
        have h2 := mvI_sum o1 he
        unfold mvI at h2
        omega
      have h1 : IvS (c + 1) (sC (mvC s (mvK e s) s.C) s) := by
        refine ⟨fun _ => o1, hm.2.1, ?_⟩
        obtain ⟨⟨a1, a2, a3, a4, a5⟩, r⟩ := hm.2.2
        have a5' := h.2.2.1.2.2.2.2
        refine ⟨⟨a1, a2, a3, a4, ?_⟩, r⟩
        show (mvC s (mvK e s) s.C).2 ≤ _
        omega
      have hM : BdM c 0 0 (sC (mvC s (mvK e s) s.C) s) := by
        obtain ⟨⟨a2, a3, a4, a5⟩, r⟩ := h.2.2.mid
        have a5' := h.2.2.1.2.2.2.2
        refine ⟨⟨a2, a3, a4, ?_⟩, r⟩
        show (mvC s (mvK e s) s.C).2 ≤ _
        omega
      have os1 : On_ (sC (mvC s (mvK e s) s.C) s) := o1
      have eqs : (sC (mvC s (mvK e s) s.C) s).op = s.op ∧ (sC (mvC s (mvK e s) s.C) s).pt = s.pt ∧ (sC (mvC s (mvK e s) s.C) s).ch = s.ch ∧ (sC (mvC s (mvK e s) s.C) s).tb = s.tb ∧ (sC (mvC s (mvK e s) s.C) s).off = s.off := ⟨rfl, rfl, rfl, rfl, rfl⟩
      generalize sC (mvC s (mvK e s) s.C) s = s1 at *
      unfold mReO
      cases hv : mvO (mvI e s) s1 with
      | none => exact h1
      | some s2 =>
        show IvS (c + 1) (mReT e s s1 s2).2
        unfold mReT
        obtain ⟨⟨g1, g2, g3⟩, ⟨g4, g5⟩, ⟨g6, g7, -, -, -, -⟩, g8, g9, g10⟩ := mv_ok (c := c) (e0 := e) (mvI e s) 0 0 s1 s2 os1 hM (mvI_ok o1 h.2.2.2.2.2.1) (by rw [eqs.1]; exact ho) (by rw [eqs.2.1]; exact hp) hv
        have hsum := mvI_sum o1 he
        have hlen : (mvI e s).length ≤ 16 := by
          unfold mvI mvK
          rw [List.length_map]
          exact Nat.le_trans (List.length_filterMap_le _ _) (by rw [List.length_range]; omega)
        have hQ : ∀ k p, k < 48 → plO s2.ch s2.tb (some k) = some p → p / 16 ≠ e := by
          intro k p hk hp2
          by_cases ck : k ∈ mvK e s
          · exact g10 (k, _) (List.mem_map.mpr ⟨k, ck, rfl⟩) p hp2
          · refine g9 k (fun p hp3 c4 => ?_) p hp2
            rw [eqs.2.2.1, eqs.2.2.2.1] at hp3
            exact ck (mvK_all o1 hk hp3 c4)
        have hs2 : s2.off = false := by rw [g7, eqs.2.2.2.2]; exact hoff
        by_cases c2 : (mvK e s).length ≠ 0 ∨ chN s ≠ 0 ∨ tabIn s.tb e = true
        · rw [if_pos c2]
          cases ht : tkE s2.pt s2.op (tbB true s2) 1 with
          | none => exact h1
          | some e2 =>
            show IvS (c + 1) (if _ then _ else _ : Int32 × Ms).2
            by_cases c3 : 120 < s2.ws.length + tbB true s2 + 1
            · rw [if_pos c3]; exact h1
            · rw [if_neg c3]
              obtain ⟨t1, t2⟩ := tkE_ok g2.2.2.1.2 ht
              have t3 := tkE_ne g4 (by rw [g5, eqs.2.1]; exact hp) ht
              have hb := tbB_le true s2
              refine ⟨fun _ => g1.tr t1 t2 (fun q => by cases q) (fun y hy => ?_), fun c4 => ?_, ?_⟩
              · cases hy
                exact ⟨rfl, fun q => t3 q.symm, hQ⟩
              · have c4 : s2.off = true := c4
                rw [hs2] at c4; cases c4
              · exact Bd.rec_ (BdM.tab g1 g2 t1) (by omega) (by omega) (by rw [tbWs_len]; omega)
        · rw [if_neg c2]
          by_cases c3 : 120 < s2.ws.length + 1
          · rw [if_pos c3]; exact h1
          · rw [if_neg c3]
            have n1 : (mvK e s).length = 0 := Decidable.byContradiction (fun q => c2 (Or.inl q))
            have n2 : chN s = 0 := Decidable.byContradiction (fun q => c2 (Or.inr (Or.inl q)))
            have n3 : tabIn s.tb e = false := by
              cases hq : tabIn s.tb e with
              | false => rfl
              | true => exact absurd (Or.inr (Or.inr hq)) c2
            have n4 : mvI e s = [] := by unfold mvI; rw [List.length_eq_zero_iff.mp n1]; rfl
            refine ⟨fun _ => g1.r0 (fun k hk => ?_) (fun p hL => ?_), fun c4 => ?_, ?_⟩
            · have h4 := cnt_z n2 k hk
              rw [g8 k (fun z hz => by rw [n4] at hz; cases hz), eqs.2.2.1]
              cases hq : s.ch k with
              | none => rfl
              | some v => rw [hq] at h4; cases h4
            · rcases hL with ⟨k, hk, hp2⟩ | ⟨z, hz, hp2⟩
              · exact hQ k p hk hp2
              · intro c5
                rw [g6, eqs.2.2.2.1] at hz
                have : tabIn s.tb e = true := by
                  unfold tabIn
                  rw [List.any_eq_true]
                  exact ⟨z, hz, by rw [hp2, c5]; simp⟩
                rw [n3] at this; cases this
            · have c4 : s2.off = true := c4
              rw [hs2] at c4; cases c4
            · exact Bd.rec_ g2 (by omega) (by omega) (by omega)
/-! the disk's turn, crash and recovery -/
theorem lfM_z {ws : List Wm} {w : Wm} : lfM ws w = 0 ↔ Rdy ws w := by
  unfold lfM Rdy
  rw [List.length_eq_zero_iff, List.filter_eq_nil_iff]
  exact ⟨fun h y hy => by simpa using h y hy, fun h y hy => by simpa using h y hy⟩
theorem land_R {s0 : RecT} {s1 : Option RecT} {q : RecT} (h0 : s0.1 % 2 = 0) (h1 : ∀ z, s1 = some z → z.1 % 2 = 1) (hq : q.1 = (latR s0 s1).1 + 1) : latR (slU s0 s1 q).1 (slU s0 s1 q).2 = q ∧ (slU s0 s1 q).1.1 % 2 = 0 ∧ ∀ z, (slU s0 s1 q).2 = some z → z.1 % 2 = 1 := by
  unfold slU
  cases s1 with
  | none =>
    have hq : q.1 = s0.1 + 1 := hq
    rw [if_neg (by omega)]
    refine ⟨?_, h0, fun z hz => (by cases hz; omega)⟩
    show (if s0.1 < q.1 then q else s0) = q
    rw [if_pos (by omega)]
  | some z =>
    have hz := h1 z rfl
    have hq : q.1 = (if s0.1 < z.1 then z else s0).1 + 1 := hq
    by_cases c : s0.1 < z.1
    · rw [if_pos c] at hq
      rw [if_pos (by omega)]
      refine ⟨?_, by show q.1 % 2 = 0; omega, fun y hy => by cases hy; exact hz⟩
      show (if q.1 < z.1 then z else q) = q
      rw [if_neg (by omega)]
    · rw [if_neg c] at hq
      rw [if_neg (by omega)]
      refine ⟨?_, h0, fun y hy => by cases hy; omega⟩
      show (if s0.1 < q.1 then q else s0) = q
      rw [if_pos (by omega)]
theorem inv_land {c : Nat} {s : Ms} (h : IvS c s) {i : Nat} (hr : rdM s.ws i = true) : IvS c (landM i s) := by
  unfold rdM at hr
  cases hx : s.ws[i]? with
  | none => rw [hx] at hr; cases hr
  | some x =>
    rw [hx] at hr
    have hr : (lfM s.ws x == 0) = true := hr
    rw [beq_iff_eq, lfM_z] at hr
    have hmem : x ∈ s.ws := List.mem_iff_getElem?.mpr ⟨i, hx⟩
    have hoff : s.off = false := by
      cases ho : s.off with
      | false => rfl
      | true =>
        have := (h.2.1 ho).1
        rw [this] at hmem; cases hmem
    have o := h.1 hoff
    have sub : ∀ w, w ∈ s.ws.eraseIdx i → w ∈ s.ws := fun w hw => (List.eraseIdx_sublist ..).subset hw
    have hlen : (s.ws.eraseIdx i).length ≤ s.ws.length := (List.eraseIdx_sublist ..).length_le
    obtain ⟨⟨a1, a2, a3, a4, a5⟩, ⟨b1, b2, b3, b4⟩, ⟨⟨d1, d2⟩, d3⟩, ⟨f1, f2⟩, g⟩ := h.2.2
    cases hq : x.r with
    | none =>
      rw [landM_B hx hq]
      refine ⟨fun _ => CoI.landB o hx hq hr, fun c4 => ?_, ⟨?_, a2, a3, a4, a5⟩, ⟨b1, b2, b3, fun w q hw => b4 w q (sub w hw)⟩, ⟨⟨d1, d2⟩, d3⟩, ⟨fun b j => ?_, fun w hw => f2 w (sub w hw)⟩, g⟩
      · have c4 : s.off = true := c4
        rw [hoff] at c4; cases c4
      · show (s.ws.eraseIdx i).length ≤ 120
        omega
      · show dkU s.dk x.t x.y b j < 256
        unfold dkU
        by_cases cb : b = x.t
        · rw [if_pos cb]; exact f2 x hmem hq j
        · rw [if_neg cb]; exact f1 b j
    | some q =>
      rw [landM_R hx hq]
      obtain ⟨l1, l2⟩ := CoI.landR o hx hq hr
      have rq := b4 x q hmem hq
      obtain ⟨k1, k2, k3⟩ := land_R d1 d2 l2
      refine ⟨fun _ => ?_, fun c4 => ?_, ⟨?_, a2, a3, a4, a5⟩, ⟨b1, ?_, ?_, fun w q hw => b4 w q (sub w hw)⟩, ⟨⟨k2, k3⟩, d3⟩, ⟨f1, fun w hw => f2 w (sub w hw)⟩, g⟩
      · show CoI s.dk (s.ws.eraseIdx i) s.md (latR (slU s.s0 s.s1 q).1 (slU s.s0 s.s1 q).2) x.g x.S s.em s.pt s.ch s.tb s.la s.lw
        rw [k1]
        exact l1
      · have c4 : s.off = true := c4
        rw [hoff] at c4; cases c4
      · show (s.ws.eraseIdx i).length ≤ 120
        omega
      · show RB c (slU s.s0 s.s1 q).1
        unfold slU
        split
        · exact rq
        · exact b2
      · intro z hz
        have hz : (slU s.s0 s.s1 q).2 = some z := hz
        unfold slU at hz
        split at hz
        · exact b3 z hz
        · cases hz; exact rq
theorem inv_iss {c : Nat} {s : Ms} (h : IvS c s) (k : Int32) : IvS c (mIss k s).2 := by
  unfold mIss
  cases hf : rpF (rdM s.ws) k 0 s.ws.length with
  | none => exact h
  | some i =>
    unfold rpF at hf
    obtain ⟨h1, _, _⟩ := fst_spec _ _ _ _ hf
    rw [Bool.and_eq_true] at h1
    exact inv_land h h1.1
/-- the first that waits is ready -/
theorem rd_first {c : Nat} {s : Ms} (h : IvS c s) (hl : s.ws.length ≠ 0) : rdM s.ws 0 = true := by
  cases hw : s.ws with
  | nil => rw [hw] at hl; exact absurd rfl hl
  | cons a l =>
    show (lfM (a :: l) a == 0) = true
    rw [beq_iff_eq, lfM_z, ← hw]
    have hoff : s.off = false := by
      cases ho : s.off with
      | false => rfl
      | true =>
        have := (h.2.1 ho).1
        rw [this] at hw; cases hw
    have hN := (h.1 hoff).1.1
    intro y hy
    cases hd : a.d y.n with
    | false => rfl
    | true =>
      have h1 := (hN.2 a (by rw [hw]; simp)).2.1 y.n hd
      have hp := hN.1
      rw [hw, List.pairwise_cons] at hp
      rw [hw] at hy
      rcases List.mem_cons.mp hy with hy | hy
      · rw [hy] at h1; omega
      · have := hp.1 y hy
        omega
theorem land_len {s : Ms} {i : Nat} (hi : i < s.ws.length) : (landM i s).ws.length + 1 = s.ws.length := by
  have e : (s.ws.eraseIdx i).length + 1 = s.ws.length := by
    rw [List.length_eraseIdx_of_lt hi]
    omega
  have hx : s.ws[i]? = some s.ws[i] := List.getElem?_eq_getElem hi
  cases hr : (s.ws[i]).r with
  | none => rw [landM_B hx hr]; exact e
  | some q => rw [landM_R hx hr]; exact e
theorem inv_stN {c : Nat} : ∀ (n : Nat) (s : Ms), IvS c s → n ≤ s.ws.length → IvS c (stN n s)
  | 0, s, h, _ => h
  | n + 1, s, h, hn => by
    have := land_len (s := s) (i := 0) (by omega)
    exact inv_stN n (landM 0 s) (inv_land h (rd_first h (by omega))) (by omega)
theorem inv_set {c : Nat} {s : Ms} (h : IvS c s) (n : Int32) : IvS c (mSet n s).2 := by
  unfold mSet
  split
  · exact h
  · exact inv_stN _ s h (Nat.min_le_right _ _)
theorem inv_cra {c : Nat} {s : Ms} (h : IvS c s) : IvS c (mCra s).2 := by
  unfold mCra
  by_cases c1 : s.off = true
  · rw [if_pos c1]; exact h
  · rw [if_neg c1]
    have hoff : s.off = false := by
      cases ho : s.off with
      | false => rfl
      | true => exact absurd ho c1
    have o := h.1 hoff
    obtain ⟨⟨a1, a2, a3, a4, a5⟩, ⟨b1, b2, b3, b4⟩, d, ⟨f1, f2⟩, g⟩ := h.2.2
    refine ⟨fun c4 => (by cases c4), fun _ => ⟨rfl, fun b hb => ⟨(o.1.2.2.1 b hb).1, fun x hx => (by cases hx)⟩, ⟨o.1.2.2.2.2.1, fun w q hw => (by cases hw)⟩⟩, ⟨Nat.zero_le _, a2, a3, a4, a5⟩, ⟨b1, b2, b3, fun w q hw => (by cases hw)⟩, d, ⟨f1, fun w hw => (by cases hw)⟩, g⟩
theorem rcC_le (s : Ms) : ∀ (l : List Nat) (C : List Nat × Nat) (k : Nat), (∀ p, p ∈ l → nbS s.dk p ≤ k) → (rcC s l C).2 ≤ C.2 + k * l.length
  | [], C, k, _ => Nat.le_refl _
  | p :: l, C, k, h => by
    have h1 := rcC_le s l (usC [] C p (nbS s.dk p)) k (fun q hq => h q (by simp [hq]))
    have h2 := usC_le [] C p (nbS s.dk p)
    have h3 := h p (by simp)
    show (rcC s l (usC [] C p (nbS s.dk p))).2 ≤ C.2 + k * (l.length + 1)
    rw [Nat.mul_add]
    omega
theorem inv_rec {c : Nat} {s : Ms} (h : IvS c s) : IvS (c + 1) (mRec s).2 := by
  unfold mRec
  have hm := h.mono (Nat.le_succ c)
  by_cases c1 : s.off = false
  · rw [if_pos c1]; exact hm
  · rw [if_neg c1]
    have hoff : s.off = true := by
      cases ho : s.off with
      | true => rfl
      | false => exact absurd ho c1
    obtain ⟨w1, w2, w3⟩ := h.2.1 hoff
    have hR : RB (c + 1) s.R := by
      obtain ⟨b1, b2, b3, b4⟩ := hm.2.2.2.1
      show RB _ (latR s.s0 s.s1)
      unfold latR
      cases hs : s.s1 with
      | none => exact b2
      | some q =>
        show RB _ (if s.s0.1 < q.1 then q else s.s0)
        split
        · exact b3 q hs
        · exact b2
    obtain ⟨⟨a1, a2, a3, a4, a5⟩, ⟨b1, b2, b3, b4⟩, ⟨d1, d2⟩, f, g⟩ := hm.2.2
    have a5' := h.2.2.1.2.2.2.2
    refine ⟨fun _ => ?_, fun c4 => (by cases c4), ⟨a1, a2, ?_, a4, ?_⟩, ⟨hR, b2, b3, b4⟩, ⟨d1, fun e he => (by cases he)⟩, f, g⟩
    · show CoI s.dk s.ws s.md s.R s.g0 s.S0 (fun _ => none) s.R.2.2.2.1 nn s.g0 s.R none
      rw [w1]
      exact CoI.back w2 w3
    · show s.R.2.2.1 ≤ _
      exact hR.2.2
    · show (rcC s s.R.2.2.2.2 s.C).2 ≤ _
      have hl : s.R.2.2.2.2.length ≤ 3 := by
        rw [← w3.1.2, List.length_map]
        exact w3.1.1.2.2.1
      have := rcC_le s s.R.2.2.2.2 s.C 17 (fun p hp => ?_)
      · have : 17 * s.R.2.2.2.2.length ≤ 51 := by omega
        omega
      · have := f.1 p 3
        unfold nbS
        omega
theorem inv_0 : IvS 0 ms0 := by
  refine ⟨fun _ => ?_, fun c => (by cases c), ⟨by decide, by decide, by decide, by decide, by decide⟩, ⟨⟨by decide, by decide, by decide⟩, ⟨by decide, by decide, by decide⟩, fun q hq => (by cases hq), fun w q hw => (by cases hw)⟩, ⟨⟨rfl, fun q hq => (by cases hq)⟩, fun e he => (by cases he)⟩, ⟨fun b i => by show 0 < 256; omega, fun w hw => (by cases hw)⟩, ⟨by decide, fun v hv => (by cases hv)⟩, by decide, fun v hv => (by cases hv)⟩
  have hno : ∀ p, ¬ Lv nn [] p := by
    intro p hp
    rcases hp with ⟨k, hk, hp⟩ | ⟨z, hz, _⟩
    · cases hp
    · cases hz
  refine CoI.back (fun b hb => ?_) ⟨⟨⟨fun e _ => Nat.zero_le _, fun k p _ hp => (by cases hp), by decide, fun z hz => (by cases hz), fun k p _ hp => (by cases hp), fun p hp => (hno p hp).elim, fun p q hp => (hno p hp).elim, fun k l p _ _ hp => (by cases hp)⟩, rfl⟩, fun w q hw => (by cases hw)⟩
  obtain ⟨p, hp, _⟩ := hb
  exact (hno p hp).elim
