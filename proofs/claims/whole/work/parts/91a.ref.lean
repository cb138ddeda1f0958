/-! the reference's object at r; its rows at r + 1 to r + 23 -/
theorem nar_and (x : Int32) : x.toInt8.toInt32 &&& 255 = x &&& 255 := by
  apply Int32.toBitVec_inj.mp
  rw [Int32.toBitVec_and, Int32.toBitVec_and]
  have e : x.toInt8.toInt32.toBitVec = ((x.toBitVec.signExtend 8).signExtend 32) := by rw [Int8.toBitVec_toInt32, Int32.toBitVec_toInt8]
  have e2 : (255 : Int32).toBitVec = 255#32 := rfl
  rw [e, e2]
  apply BitVec.eq_of_getLsbD_eq
  intro i hi
  rw [BitVec.getLsbD_and, BitVec.getLsbD_and]
  by_cases h : i < 8
  · rw [BitVec.getLsbD_signExtend, BitVec.getLsbD_signExtend]
    simp [h, hi]
  · have : (255#32).getLsbD i = false := by
      rw [BitVec.getLsbD_ofNat]
      have : (255).testBit i = false := Nat.testBit_lt_two_pow (Nat.lt_of_lt_of_le (by decide : 255 < 2 ^ 8) (Nat.pow_le_pow_right (by decide) (by omega)))
      simp [this]
    rw [this, Bool.and_false, Bool.and_false]
/-- the ints of the cells with P alone may differ -/
def Oi (P : Nat → Prop) (M M' : Mm) : Prop := M'.sh = M.sh ∧ M'.sz = M.sz ∧ M'.sl = M.sl ∧ M'.lg = M.lg ∧ M'.rf = M.rf ∧ ∀ x, ¬ P x → ∀ j, M'.it x j = M.it x j
theorem Oi.rf_ {P : Nat → Prop} {M : Mm} : Oi P M M := ⟨rfl, rfl, rfl, rfl, rfl, fun _ _ _ => rfl⟩
theorem Oi.i {P : Nat → Prop} {M M' : Mm} {a k : Nat} {x : Int32} (h : Oi P M M') (ha : P a) : Oi P M (M'.si a k x) := by
  obtain ⟨h1, h2, h3, h4, h5, h6⟩ := h
  refine ⟨h1, h2, h3, h4, h5, fun y hy j => ?_⟩
  rw [si_it, if_neg (fun q => hy (by rw [q.1]; exact ha))]
  exact h6 y hy j
theorem Oi.trans {P R : Nat → Prop} {M M' M2 : Mm} (h : Oi P M M') (g : Oi R M' M2) (hR : ∀ x, R x → P x) : Oi P M M2 := by
  obtain ⟨h1, h2, h3, h4, h5, h6⟩ := h
  obtain ⟨g1, g2, g3, g4, g5, g6⟩ := g
  exact ⟨g1.trans h1, g2.trans h2, g3.trans h3, g4.trans h4, g5.trans h5, fun y hy j => (g6 y (fun q => hy (hR y q)) j).trans (h6 y hy j)⟩
theorem Oi.mono {P R : Nat → Prop} {M M' : Mm} (h : Oi R M M') (hR : ∀ x, R x → P x) : Oi P M M' := Oi.trans Oi.rf_ h hR
theorem Oi.of {P : Nat → Prop} {M M' : Mm} (h : Oi P M M') : Of P M M' := ⟨h.1, h.2.1, h.2.2.1, fun x hx j => ⟨h.2.2.2.2.2 x hx j, by rw [h.2.2.2.1], by rw [h.2.2.2.2.1]⟩⟩
theorem Oi.at_ {P : Nat → Prop} {M M' : Mm} (h : Oi P M M') {x : Nat} (hx : ¬ P x) (j : Nat) : M'.it x j = M.it x j := h.2.2.2.2.2 x hx j
/-- its rows -/
def RS (M : Mm) (r : Nat) : Prop := (M.sh r = some (10, 0) ∧ M.rf r 1 = some (r + 1) ∧ M.rf r 3 = some (r + 2) ∧ M.rf r 4 = some (r + 3) ∧ M.rf r 6 = some (r + 4) ∧ M.rf r 7 = some (r + 5) ∧ M.rf r 8 = some (r + 6)) ∧ (M.rf r 16 = some (r + 7) ∧ M.rf r 17 = some (r + 8) ∧ M.rf r 18 = some (r + 9) ∧ M.rf r 19 = some (r + 10) ∧ M.rf r 20 = some (r + 11) ∧ M.rf r 21 = some (r + 12) ∧ M.rf r 22 = some (r + 13) ∧ M.rf r 23 = some (r + 14)) ∧ (M.rf r 24 = some (r + 15) ∧ M.rf r 25 = some (r + 16) ∧ M.rf r 26 = some (r + 17) ∧ M.rf r 29 = some (r + 18) ∧ M.rf r 30 = some (r + 19) ∧ M.rf r 31 = some (r + 20) ∧ M.rf r 32 = some (r + 21) ∧ M.rf r 33 = some (r + 22) ∧ M.rf r 37 = some (r + 23)) ∧
  (M.sh (r + 1) = some (44, 200) ∧ M.sh (r + 2) = some (44, 2048) ∧ M.sh (r + 3) = some (41, 36) ∧ M.sh (r + 4) = some (41, 8) ∧ M.sh (r + 5) = some (41, 8) ∧ M.sh (r + 6) = some (41, 200) ∧ M.sh (r + 7) = some (41, 6) ∧ M.sh (r + 8) = some (41, 48)) ∧ (M.sh (r + 9) = some (41, 144) ∧ M.sh (r + 10) = some (41, 160) ∧ M.sh (r + 11) = some (41, 160) ∧ M.sh (r + 12) = some (41, 160) ∧ M.sh (r + 13) = some (41, 32000) ∧ M.sh (r + 14) = some (44, 2560) ∧ M.sh (r + 15) = some (41, 2880) ∧ M.sh (r + 16) = some (42, 5000)) ∧ (M.sh (r + 17) = some (41, 6) ∧ M.sh (r + 18) = some (44, 100) ∧ M.sh (r + 19) = some (44, 256) ∧ M.sh (r + 20) = some (44, 1700) ∧ M.sh (r + 21) = some (41, 16) ∧ M.sh (r + 22) = some (41, 16) ∧ M.sh (r + 23) = some (41, 48))
theorem RS.oi {P : Nat → Prop} {M M' : Mm} {r : Nat} (h : RS M r) (o : Oi P M M') : RS M' r := by
  unfold RS at h ⊢
  rw [o.1, o.2.2.2.2.1]
  exact h
theorem RS.ag {P : Nat → Prop} {M M' : Mm} {r : Nat} (h : RS M r) (g : Ag P M M') (hP : ∀ x, r ≤ x ∧ x < r + 24 → P x) : RS M' r := by
  unfold RS at h ⊢
  have s : ∀ i, i < 24 → M'.sh (r + i) = M.sh (r + i) := fun i hi => g.sh (hP _ (by omega))
  have f : ∀ j, M'.rf r j = M.rf r j := fun j => g.rf (hP _ (by omega)) j
  rw [g.sh (hP r (by omega))]
  simp only [f, s 1 (by omega), s 2 (by omega), s 3 (by omega), s 4 (by omega), s 5 (by omega), s 6 (by omega), s 7 (by omega), s 8 (by omega), s 9 (by omega), s 10 (by omega), s 11 (by omega), s 12 (by omega), s 13 (by omega), s 14 (by omega), s 15 (by omega), s 16 (by omega), s 17 (by omega), s 18 (by omega), s 19 (by omega), s 20 (by omega), s 21 (by omega), s 22 (by omega), s 23 (by omega)]
  exact h
/-- a record in 18 ints -/
def RcP (M : Mm) (a o : Nat) (q : RecT) : Prop := M.it a o = nI q.1 ∧ M.it a (o + 1) = nI q.2.1 ∧ M.it a (o + 2) = nI q.2.2.1 ∧ M.it a (o + 3) = nI q.2.2.2.2.length ∧ (∀ e, e < 8 → M.it a (o + 4 + e) = nI (q.2.2.2.1 e)) ∧ ∀ t v, q.2.2.2.2[t]? = some v → t < 3 ∧ M.it a (o + 12 + 2 * t) = nI (v / 16) ∧ M.it a (o + 13 + 2 * t) = nI (v % 16)
theorem RcP.cong {M M' : Mm} {a a' o o' : Nat} {q : RecT} (h : RcP M a o q) (e : ∀ i, i < 18 → M'.it a' (o' + i) = M.it a (o + i)) : RcP M' a' o' q := by
  obtain ⟨h1, h2, h3, h4, h5, h6⟩ := h
  refine ⟨?_, ?_, ?_, ?_, fun e' he => ?_, fun t v hv => ?_⟩
  · rw [show o' = o' + 0 from rfl, e 0 (by omega)]; exact h1
  · rw [e 1 (by omega)]; exact h2
  · rw [e 2 (by omega)]; exact h3
  · rw [e 3 (by omega)]; exact h4
  · rw [Nat.add_assoc, e (4 + e') (by omega), ← Nat.add_assoc]; exact h5 e' he
  · obtain ⟨t3, g1, g2⟩ := h6 t v hv
    refine ⟨t3, ?_, ?_⟩
    · rw [Nat.add_assoc, e (12 + 2 * t) (by omega), ← Nat.add_assoc]; exact g1
    · rw [Nat.add_assoc, e (13 + 2 * t) (by omega), ← Nat.add_assoc]; exact g2
/-- the write at place i -/
def RW1 (M : Mm) (r i : Nat) (w : Wm) : Prop := (M.it (r + 10) i = nI w.n ∧ M.it (r + 11) i = nI w.t ∧ w.n < 1000000 ∧ w.t < 130) ∧ (∃ l : List Nat, l.Nodup ∧ (∀ n, n ∈ l ↔ w.d n = true) ∧ l.length ≤ 160 ∧ M.it (r + 12) i = nI l.length ∧ ∀ j v, l[j]? = some v → M.it (r + 13) (200 * i + j) = nI v ∧ v < 1000000) ∧ (w.r = none → ∀ j, j < 16 → M.it (r + 14) (16 * i + j) &&& 255 = nI (w.y j)) ∧ ∀ q, w.r = some q → RcP M (r + 15) (18 * i) q
def RWs (M : Mm) (r : Nat) (ws : List Wm) : Prop := ∀ (i : Nat) (w : Wm), ws[i]? = some w → RW1 M r i w
/-- fields -/
def RF (M : Mm) (r : Nat) (s : Ms) : Prop := (M.it r 2 = nI s.tp.length ∧ M.it r 5 = bI s.off ∧ M.it r 9 = oI s.op ∧ M.it r 10 = nI s.la.1 ∧ M.it r 11 = nI s.tb.length ∧ M.it r 12 = nI s.st ∧ M.it r 13 = nI s.mu) ∧ M.it r 14 = nI s.ws.length ∧ M.it r 15 = nI s.md ∧ M.it r 27 = nI s.C.1.length ∧ M.it r 28 = nI s.C.2 ∧ M.it r 34 = nI s.ou.length
/-- who emptied an extent: the reference knows the record, the store the write -/
def REm (M : Mm) (r : Nat) (s : Ms) : Prop := ∀ e, e < 8 → (s.em e = none ∧ M.it (r + 5) e = -1) ∨ ∃ n rn, s.em e = some n ∧ M.it (r + 5) e = nI rn ∧ rn ≤ s.la.1 ∧ ∀ w q, w ∈ s.ws → w.r = some q → (q.1 = rn ↔ w.n = n)
/-- the slots -/
def RSl (M : Mm) (r : Nat) (s : Ms) : Prop := RcP M (r + 3) 0 s.s0 ∧ match s.s1 with
  | some q => RcP M (r + 3) 18 q
  | none => M.it (r + 3) 18 = -1
def RB8 (M : Mm) (a : Nat) (l : List Nat) : Prop := ∀ j v, l[j]? = some v → M.it a j &&& 255 = nI v
def RI (M : Mm) (a : Nat) (l : List Nat) : Prop := ∀ j v, l[j]? = some v → M.it a j = nI v
def RDk (M : Mm) (a : Nat) (dk : Nat → Nat → Nat) : Prop := ∀ bl i, bl < 128 → i < 16 → M.it a (16 * bl + i) &&& 255 = nI (dk bl i)
def RPt (M : Mm) (a : Nat) (pt : Nat → Nat) : Prop := ∀ e, e < 8 → M.it a e = nI (pt e) ∧ pt e ≤ 16
def RCh (M : Mm) (a : Nat) (ch : Nat → Option Nat) : Prop := ∀ k, k < 48 → M.it a k = oI (ch k)
def REn (M : Mm) (a : Nat) (tb : TbT) : Prop := ∀ t z k, tb[t]? = some z → k < 48 → M.it a (48 * t + k) = oI (z.2 k)
def RLo (M : Mm) (a : Nat) (lo : Nat → Bool) : Prop := ∀ h, h < 513 → M.it a h = bI (lo h)
def RP (M : Mm) (r : Nat) (s : Ms) : Prop := RS M r ∧ RF M r s ∧ (RB8 M (r + 1) s.tp ∧ RDk M (r + 2) s.dk ∧ RSl M r s ∧ RPt M (r + 4) s.pt ∧ REm M r s) ∧ (RI M (r + 7) (s.tb.map Prod.fst) ∧ RCh M (r + 8) s.ch ∧ REn M (r + 9) s.tb ∧ RWs M r s.ws) ∧ (RLo M (r + 16) s.lo ∧ (RI M (r + 17) s.C.1 ∧ s.C.1.length ≤ 6 ∧ ∀ v ∈ s.C.1, v < 1000) ∧ RB8 M (r + 18) s.ou) ∧ (spOK s.ch ∧ s.tb.length ≤ 3 ∧ (∀ z ∈ s.tb, spOK z.2 ∧ z.1 < 128) ∧ ∀ e, s.op = some e → e < 8)
