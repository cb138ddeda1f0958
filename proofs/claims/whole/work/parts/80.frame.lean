/-! Ag: the cells with P are the same -/
def Ag (P : Nat → Prop) (M M' : Mm) : Prop := ∀ x, P x → M'.sh x = M.sh x ∧ ∀ j, M'.it x j = M.it x j ∧ M'.lg x j = M.lg x j ∧ M'.rf x j = M.rf x j
theorem Of.ag {P R : Nat → Prop} {M M' : Mm} (o : Of P M M') (h : ∀ x, R x → ¬ P x) : Ag R M M' := fun x hx => ⟨by rw [o.1], fun j => o.2.2.2 x (h x hx) j⟩
theorem Ag.mono {P R : Nat → Prop} {M M' : Mm} (g : Ag P M M') (h : ∀ x, R x → P x) : Ag R M M' := fun x hx => g x (h x hx)
theorem Ag.sh {P : Nat → Prop} {M M' : Mm} (g : Ag P M M') {x : Nat} (h : P x) : M'.sh x = M.sh x := (g x h).1
theorem Ag.it {P : Nat → Prop} {M M' : Mm} (g : Ag P M M') {x : Nat} (h : P x) (j : Nat) : M'.it x j = M.it x j := ((g x h).2 j).1
theorem Ag.lg {P : Nat → Prop} {M M' : Mm} (g : Ag P M M') {x : Nat} (h : P x) (j : Nat) : M'.lg x j = M.lg x j := ((g x h).2 j).2.1
theorem Ag.rf {P : Nat → Prop} {M M' : Mm} (g : Ag P M M') {x : Nat} (h : P x) (j : Nat) : M'.rf x j = M.rf x j := ((g x h).2 j).2.2
theorem By.ag {P : Nat → Prop} {M M' : Mm} {a c N : Nat} (h : By M a c N) (g : Ag P M M') (ha : P a) (hc : P c) : By M' a c N := by
  obtain ⟨h1, h2, h3, h4⟩ := h
  exact ⟨by rw [g.sh ha]; exact h1, by rw [g.rf ha]; exact h2, by rw [g.sh hc]; exact h3, h4⟩
theorem BC.ag {P : Nat → Prop} {M M' : Mm} {a c N : Nat} {l : List Int32} (h : BC M a c N l) (g : Ag P M M') (ha : P a) (hc : P c) : BC M' a c N l := by
  obtain ⟨h1, h2, h3, h4⟩ := h
  exact ⟨h1.ag g ha hc, by rw [g.it ha]; exact h2, h3, fun j v hj => by rw [g.it hc]; exact h4 j v hj⟩
theorem La.ag {P : Nat → Prop} {M M' : Mm} {a p : Nat} (h : La M a p) (g : Ag P M M') (ha : P a) (hc : P p) : La M' a p := by
  obtain ⟨h1, h2, h3⟩ := h
  exact ⟨by rw [g.sh ha]; exact h1, by rw [g.rf ha]; exact h2, by rw [g.sh hc]; exact h3⟩
theorem LaC.ag {P : Nat → Prop} {M M' : Mm} {a p : Nat} {ptr : Nat → Nat} {op : Option Nat} (h : LaC M a p ptr op) (g : Ag P M M') (ha : P a) (hc : P p) : LaC M' a p ptr op := by
  obtain ⟨h1, h2, h3, h4⟩ := h
  exact ⟨h1.ag g ha hc, fun e he => by rw [g.it hc]; exact h2 e he, by rw [g.it ha]; exact h3, h4⟩
theorem En.ag {P : Nat → Prop} {M M' : Mm} {a s : Nat} (h : En M a s) (g : Ag P M M') (ha : P a) (hc : P s) : En M' a s := by
  obtain ⟨h1, h2, h3⟩ := h
  exact ⟨by rw [g.sh ha]; exact h1, by rw [g.rf ha]; exact h2, by rw [g.sh hc]; exact h3⟩
theorem EnC.ag {P : Nat → Prop} {M M' : Mm} {a s : Nat} {sp : Nat → Option Nat} {pl : Option Nat} (h : EnC M a s sp pl) (g : Ag P M M') (ha : P a) (hc : P s) : EnC M' a s sp pl := by
  obtain ⟨h1, h2, h3, h4, h5⟩ := h
  exact ⟨h1.ag g ha hc, fun k hk => by rw [g.it hc]; exact h2 k hk, h3, by rw [g.it ha]; exact h4, by rw [g.it ha]; exact h5⟩
theorem IxC.ag {P : Nat → Prop} {M M' : Mm} {x : Nat} {im : Nat → Nat} {ch : Nat → Option Nat} {tb : TbT} (h : IxC M x im ch tb) (g : Ag P M M') (hP : ∀ y, PX x y → P y) : IxC M' x im ch tb := by
  obtain ⟨⟨b1, b2, b3, b4, b5, b6, b7, b8, b9⟩, g1, g2, g3, g4⟩ := h
  have p0 : P x := hP _ ⟨by omega, by omega⟩
  have p3 : P (x + 3) := hP _ ⟨by omega, by omega⟩
  refine ⟨⟨by rw [g.sh p0]; exact b1, by rw [g.rf p0]; exact b2, by rw [g.rf p0]; exact b3, by rw [g.rf p0]; exact b4, by rw [g.sh p3]; exact b5, fun t ht => by rw [g.rf p3]; exact b6 t ht, b7, b8, fun s hs => (b9 s hs).ag g (hP _ ⟨by omega, by omega⟩) (hP _ ⟨by omega, by omega⟩)⟩, g1.ag g (hP _ ⟨by omega, by omega⟩) (hP _ ⟨by omega, by omega⟩), by rw [g.it p0]; exact g2, g3, fun t z hz => ?_⟩
  have ht : t < 3 := by have := (List.getElem?_eq_some_iff.mp hz).1; omega
  have hi := b7 t (by omega)
  exact ⟨(g4 t z hz).1.ag g (hP _ ⟨by omega, by omega⟩) (hP _ ⟨by omega, by omega⟩), (g4 t z hz).2⟩
theorem ReC.ag {P : Nat → Prop} {M M' : Mm} {a : Nat} {r : RecT} (h : ReC M a r) (g : Ag P M M') (h0 : P a) (h1 : P (a + 1)) (h2 : P (a + 2)) : ReC M' a r := by
  obtain ⟨⟨b1, b2, b3, b4, b5⟩, g1, g2, g3, g4, g5, g6⟩ := h
  exact ⟨⟨by rw [g.sh h0]; exact b1, by rw [g.rf h0]; exact b2, by rw [g.rf h0]; exact b3, by rw [g.sh h1]; exact b4, by rw [g.sh h2]; exact b5⟩, by rw [g.it h0]; exact g1, by rw [g.it h0]; exact g2, by rw [g.it h0]; exact g3, fun e he => by rw [g.it h1]; exact g4 e he, fun i v hv => by rw [g.it h2]; exact g5 i v hv, g6⟩
theorem Di.ag {P : Nat → Prop} {M M' : Mm} {a : Nat} (h : Di M a) (g : Ag P M M') (h0 : P a) (h1 : P (a + 1)) (h2 : P (a + 2)) : Di M' a := by
  obtain ⟨b1, b2, b3, b4, b5⟩ := h
  exact ⟨by rw [g.sh h0]; exact b1, by rw [g.rf h0]; exact b2, by rw [g.rf h0]; exact b3, by rw [g.sh h1]; exact b4, by rw [g.sh h2]; exact b5⟩
theorem DkC.ag {P : Nat → Prop} {M M' : Mm} {a : Nat} {dk : Nat → Nat} (h : DkC M a dk) (g : Ag P M M') (h0 : P a) (h1 : P (a + 1)) (h2 : P (a + 2)) : DkC M' a dk := ⟨h.1.ag g h0 h1 h2, fun j hj => by rw [g.it h1]; exact h.2 j hj⟩
theorem CaC.ag {P : Nat → Prop} {M M' : Mm} {a rd : Nat} {l : List Nat} (h : CaC M a l rd) (g : Ag P M M') (h0 : P a) (h1 : P (a + 1)) : CaC M' a l rd := by
  obtain ⟨⟨b1, b2, b3⟩, g1, g2, g3, g4⟩ := h
  exact ⟨⟨by rw [g.sh h0]; exact b1, by rw [g.rf h0]; exact b2, by rw [g.sh h1]; exact b3⟩, by rw [g.it h0]; exact g1, g2, fun j v hv => by rw [g.it h1]; exact g3 j v hv, by rw [g.it h0]; exact g4⟩
theorem Wr.ag {P : Nat → Prop} {M M' : Mm} {w s : Nat} (h : Wr M w s) (g : Ag P M M') (h0 : P w) (h1 : P (w + 1)) : Wr M' w s := by
  obtain ⟨b1, b2, b3, b4, b5⟩ := h
  exact ⟨by rw [g.sh h0]; exact b1, by rw [g.rf h0]; exact b2, by rw [g.sh h1]; exact b3, by rw [g.it h0]; exact b4, b5⟩
theorem WrC.ag {P : Nat → Prop} {M M' : Mm} {w : Nat} {x : WT} (h : WrC M w x) (g : Ag P M M') (h0 : P w) (h1 : P (w + 1)) : WrC M' w x := by
  obtain ⟨g1, g2, g3, g4, g5, g6, g7⟩ := h
  exact ⟨g1.ag g h0 h1, by rw [g.it h0]; exact g2, by rw [g.it h0]; exact g3, by rw [g.rf h0]; exact g4, fun j hj => by rw [g.it h1]; exact g5 j hj, fun s hs => by rw [g.lg h0, g.lg h0]; exact g6 s hs, g7⟩
theorem QuC.ag {P : Nat → Prop} {M M' : Mm} {q made : Nat} {pm : Nat → Nat} {ws : List WT} (h : QuC M q pm made ws) (g : Ag P M M') (hP : ∀ x, PQ q x → P x) : QuC M' q pm made ws := by
  obtain ⟨⟨b1, b2, b3, b4, b5, b6⟩, h2, h3, h4, h5, h6⟩ := h
  have i0 : P q := hP q ⟨by omega, by omega⟩
  have i1 : P (q + 1) := hP _ ⟨by omega, by omega⟩
  refine ⟨⟨by rw [g.sh i0]; exact b1, by rw [g.rf i0]; exact b2, by rw [g.sh i1]; exact b3, fun k hk => by rw [g.rf i1]; exact b4 k hk, b5, fun s hs => (b6 s hs).ag g (hP _ ⟨by omega, by omega⟩) (hP _ ⟨by omega, by omega⟩)⟩, by rw [g.it i0]; exact h2, h3, by rw [g.it i0]; exact h4, h5, fun k x hx => ?_⟩
  have hk : k < 120 := by have := (List.getElem?_eq_some_iff.mp hx).1; omega
  have := (b4 k hk).2
  exact ⟨(h6 k x hx).1, (h6 k x hx).2.ag g (hP _ ⟨by omega, by omega⟩) (hP _ ⟨by omega, by omega⟩)⟩
/-! the picture of an object of the class, at b. Its records lie at b + 4 or from b + 303 on, and G tells them -/
def PRec (b a : Nat) : Prop := a = b + 4 ∨ b + 303 ≤ a
/-- the fields that never change, and rows that are only used within a call -/
def CpB (M : Mm) (b : Nat) : Prop := (M.sh b = some (0, 0) ∧ M.rf b 0 = some (b + 1) ∧ M.rf b 1 = some (b + 7) ∧ M.rf b 2 = some (b + 249) ∧ M.rf b 3 = some (b + 251) ∧ M.rf b 4 = some (b + 253) ∧ M.rf b 5 = some (b + 255)) ∧ (M.rf b 6 = some (b + 267) ∧ M.rf b 7 = some (b + 269) ∧ M.rf b 8 = some (b + 271) ∧ M.rf b 9 = some (b + 273) ∧ M.rf b 10 = some (b + 275) ∧ M.rf b 11 = some (b + 276) ∧ M.rf b 12 = some (b + 277) ∧ M.rf b 13 = some (b + 278)) ∧ (M.sh (b + 275) = some (42, 128) ∧ M.sh (b + 276) = some (41, 16) ∧ M.sh (b + 277) = some (41, 8) ∧ M.sh (b + 278) = some (42, 513)) ∧ La M (b + 253) (b + 254) ∧ By M (b + 271) (b + 272) 255 ∧ By M (b + 273) (b + 274) 263 ∧ b + 279 ≤ M.sz
/-- the disk: its bytes, the addresses of the records in its slots -/
abbrev DT : Type := (Nat → Nat) × Nat × Option Nat
/-- the queue: seats by place, how many were made, what waits -/
abbrev QT : Type := (Nat → Nat) × Nat × List WT
abbrev IT : Type := (Nat → Nat) × (Nat → Option Nat) × TbT
/-- records by address; the latest's address, its write, stamps, mutations, off -/
abbrev FT : Type := (Nat → RecT) × Nat × Option Nat × Nat × Nat × Bool
def RcC (M : Mm) (b : Nat) (G : Nat → RecT) (a : Nat) : Prop := ReC M a (G a) ∧ PRec b a ∧ a + 3 ≤ M.sz
def CpD (M : Mm) (b : Nat) (D : DT) (G : Nat → RecT) : Prop := DkC M (b + 1) D.1 ∧ M.rf (b + 3) 0 = some D.2.1 ∧ M.rf (b + 3) 1 = D.2.2 ∧ RcC M b G D.2.1 ∧ ∀ a, D.2.2 = some a → RcC M b G a
def CpQ (M : Mm) (b : Nat) (Q : QT) (G : Nat → RecT) : Prop := QuC M (b + 7) Q.1 Q.2.1 Q.2.2 ∧ ∀ (k : Nat) (x : WT) (a : Nat), Q.2.2[k]? = some x → x.2.2.2.1 = some a → RcC M b G a
def CpF (M : Mm) (b : Nat) (F : FT) : Prop := M.rf b 14 = some F.2.1 ∧ RcC M b F.1 F.2.1 ∧ M.it b 15 = oI F.2.2.1 ∧ M.it b 16 = nI F.2.2.2.1 ∧ M.it b 17 = nI F.2.2.2.2.1 ∧ M.it b 18 = bI F.2.2.2.2.2 ∧ F.2.2.2.1 < 1000000 ∧ F.2.2.2.2.1 ≤ 512
def CpT (M : Mm) (b : Nat) (T : List Nat × List Nat) : Prop := BC M (b + 267) (b + 268) 200 (T.1.map nI) ∧ BC M (b + 269) (b + 270) 255 (T.2.map nI) ∧ (∀ v ∈ T.1, v < 256) ∧ ∀ v ∈ T.2, v < 256
def CpE (M : Mm) (b : Nat) (E : (Nat → Option Nat) × (Nat → Bool)) : Prop := (∀ e, e < 8 → M.it (b + 277) e = oI (E.1 e) ∧ ∀ n, E.1 e = some n → n < 1000000) ∧ ∀ h, h < 513 → M.it (b + 278) h = bI (E.2 h)
def CP (M : Mm) (b : Nat) (D : DT) (Q : QT) (C : List Nat × Nat) (L : (Nat → Nat) × Option Nat) (I : IT) (T : List Nat × List Nat) (E : (Nat → Option Nat) × (Nat → Bool)) (F : FT) : Prop := CpB M b ∧ CpD M b D F.1 ∧ CpQ M b Q F.1 ∧ (CaC M (b + 249) C.1 C.2 ∧ C.2 < 50000000) ∧ LaC M (b + 251) (b + 252) L.1 L.2 ∧ IxC M (b + 255) I.1 I.2.1 I.2.2 ∧ CpT M b T ∧ CpE M b E ∧ CpF M b F
theorem RcC.ag {P : Nat → Prop} {M M' : Mm} {b a : Nat} {G : Nat → RecT} (h : RcC M b G a) (g : Ag P M M') (hP : ∀ x, (b + 4 ≤ x ∧ x < b + 7) ∨ (b + 303 ≤ x ∧ x < M.sz) → P x) (hz : M.sz ≤ M'.sz) : RcC M' b G a := by
  obtain ⟨h1, h2, h3⟩ := h
  unfold PRec at h2
  exact ⟨h1.ag g (hP _ (by omega)) (hP _ (by omega)) (hP _ (by omega)), h2, by omega⟩
theorem CpB.ag {P : Nat → Prop} {M M' : Mm} {b : Nat} (h : CpB M b) (g : Ag P M M') (hP : ∀ x, x = b ∨ (b + 253 ≤ x ∧ x < b + 255) ∨ (b + 271 ≤ x ∧ x < b + 279) → P x) (hz : M.sz ≤ M'.sz) : CpB M' b := by
  obtain ⟨⟨a0, a1, a2, a3, a4, a5, a6⟩, ⟨c1, c2, c3, c4, c5, c6, c7, c8⟩, ⟨e1, e2, e3, e4⟩, f1, f2, f3, f4⟩ := h
  have p0 : P b := hP b (by omega)
  exact ⟨⟨by rw [g.sh p0]; exact a0, by rw [g.rf p0]; exact a1, by rw [g.rf p0]; exact a2, by rw [g.rf p0]; exact a3, by rw [g.rf p0]; exact a4, by rw [g.rf p0]; exact a5, by rw [g.rf p0]; exact a6⟩, ⟨by rw [g.rf p0]; exact c1, by rw [g.rf p0]; exact c2, by rw [g.rf p0]; exact c3, by rw [g.rf p0]; exact c4, by rw [g.rf p0]; exact c5, by rw [g.rf p0]; exact c6, by rw [g.rf p0]; exact c7, by rw [g.rf p0]; exact c8⟩, ⟨by rw [g.sh (hP _ (by omega))]; exact e1, by rw [g.sh (hP _ (by omega))]; exact e2, by rw [g.sh (hP _ (by omega))]; exact e3, by rw [g.sh (hP _ (by omega))]; exact e4⟩, f1.ag g (hP _ (by omega)) (hP _ (by omega)), f2.ag g (hP _ (by omega)) (hP _ (by omega)), f3.ag g (hP _ (by omega)) (hP _ (by omega)), by omega⟩
/-- shapes and references are enough for what never changes -/
theorem CpB.sr {M M' : Mm} {b : Nat} (h : CpB M b) (hs : M'.sh = M.sh) (hz : M'.sz = M.sz) (hr : ∀ x, x = b ∨ x = b + 253 ∨ x = b + 271 ∨ x = b + 273 → ∀ j, j ≠ 14 → M'.rf x j = M.rf x j) : CpB M' b := by
  obtain ⟨⟨a0, a1, a2, a3, a4, a5, a6⟩, ⟨c1, c2, c3, c4, c5, c6, c7, c8⟩, ⟨e1, e2, e3, e4⟩, ⟨l1, l2, l3⟩, ⟨y1, y2, y3, y4⟩, ⟨z1, z2, z3, z4⟩, f4⟩ := h
  have hb := hr b (by omega)
  refine ⟨⟨by rw [hs]; exact a0, by rw [hb _ (by omega)]; exact a1, by rw [hb _ (by omega)]; exact a2, by rw [hb _ (by omega)]; exact a3, by rw [hb _ (by omega)]; exact a4, by rw [hb _ (by omega)]; exact a5, by rw [hb _ (by omega)]; exact a6⟩, ⟨by rw [hb _ (by omega)]; exact c1, by rw [hb _ (by omega)]; exact c2, by rw [hb _ (by omega)]; exact c3, by rw [hb _ (by omega)]; exact c4, by rw [hb _ (by omega)]; exact c5, by rw [hb _ (by omega)]; exact c6, by rw [hb _ (by omega)]; exact c7, by rw [hb _ (by omega)]; exact c8⟩, ⟨by rw [hs]; exact e1, by rw [hs]; exact e2, by rw [hs]; exact e3, by rw [hs]; exact e4⟩, ⟨by rw [hs]; exact l1, by rw [hr _ (by omega) _ (by omega)]; exact l2, by rw [hs]; exact l3⟩, ⟨by rw [hs]; exact y1, by rw [hr _ (by omega) _ (by omega)]; exact y2, by rw [hs]; exact y3, y4⟩, ⟨by rw [hs]; exact z1, by rw [hr _ (by omega) _ (by omega)]; exact z2, by rw [hs]; exact z3, z4⟩, by omega⟩
theorem CpD.ag {P : Nat → Prop} {M M' : Mm} {b : Nat} {D : DT} {G : Nat → RecT} (h : CpD M b D G) (g : Ag P M M') (hP : ∀ x, (b + 1 ≤ x ∧ x < b + 7) ∨ (b + 303 ≤ x ∧ x < M.sz) → P x) (hz : M.sz ≤ M'.sz) : CpD M' b D G := by
  obtain ⟨h1, h2, h3, h4, h5⟩ := h
  exact ⟨h1.ag g (hP _ (by omega)) (hP _ (by omega)) (hP _ (by omega)), by rw [g.rf (hP _ (by omega))]; exact h2, by rw [g.rf (hP _ (by omega))]; exact h3, h4.ag g (fun x hx => hP x (by omega)) hz, fun a ha => (h5 a ha).ag g (fun x hx => hP x (by omega)) hz⟩
theorem CpQ.ag {P : Nat → Prop} {M M' : Mm} {b : Nat} {Q : QT} {G : Nat → RecT} (h : CpQ M b Q G) (g : Ag P M M') (hP : ∀ x, (b + 4 ≤ x ∧ x < b + 249) ∨ (b + 303 ≤ x ∧ x < M.sz) → P x) (hz : M.sz ≤ M'.sz) : CpQ M' b Q G := ⟨h.1.ag g (fun x hx => hP x (by unfold PQ at hx; omega)), fun k x a hk ha => (h.2 k x a hk ha).ag g (fun x hx => hP x (by omega)) hz⟩
theorem CpF.ag {P : Nat → Prop} {M M' : Mm} {b : Nat} {F : FT} (h : CpF M b F) (g : Ag P M M') (hP : ∀ x, x = b ∨ (b + 4 ≤ x ∧ x < b + 7) ∨ (b + 303 ≤ x ∧ x < M.sz) → P x) (hz : M.sz ≤ M'.sz) : CpF M' b F := by
  obtain ⟨h1, h2, h3, h4, h5, h6, h7⟩ := h
  have p0 : P b := hP b (by omega)
  exact ⟨by rw [g.rf p0]; exact h1, h2.ag g (fun x hx => hP x (by omega)) hz, by rw [g.it p0]; exact h3, by rw [g.it p0]; exact h4, by rw [g.it p0]; exact h5, by rw [g.it p0]; exact h6, h7⟩
theorem CpT.ag {P : Nat → Prop} {M M' : Mm} {b : Nat} {T : List Nat × List Nat} (h : CpT M b T) (g : Ag P M M') (hP : ∀ x, b + 267 ≤ x ∧ x < b + 271 → P x) : CpT M' b T := ⟨h.1.ag g (hP _ (by omega)) (hP _ (by omega)), h.2.1.ag g (hP _ (by omega)) (hP _ (by omega)), h.2.2⟩
theorem CpE.ag {P : Nat → Prop} {M M' : Mm} {b : Nat} {E : (Nat → Option Nat) × (Nat → Bool)} (h : CpE M b E) (g : Ag P M M') (hP : ∀ x, b + 277 ≤ x ∧ x < b + 279 → P x) : CpE M' b E := ⟨fun e he => by rw [g.it (hP _ (by omega))]; exact h.1 e he, fun j hj => by rw [g.it (hP _ (by omega))]; exact h.2 j hj⟩
section
variable {M M' : Mm} {b : Nat} {D D' : DT} {Q Q' : QT} {C C' : List Nat × Nat} {L L' : (Nat → Nat) × Option Nat} {I I' : IT} {T T' : List Nat × List Nat} {E E' : (Nat → Option Nat) × (Nat → Bool)} {F F' : FT}
theorem CP.ag {P : Nat → Prop} (h : CP M b D Q C L I T E F) (g : Ag P M M') (hP : ∀ x, (b ≤ x ∧ x < b + 279) ∨ (b + 303 ≤ x ∧ x < M.sz) → P x) (hz : M.sz ≤ M'.sz) : CP M' b D Q C L I T E F := by
  obtain ⟨h1, h2, h3, h4, h5, h6, h7, h8, h9⟩ := h
  exact ⟨h1.ag g (fun x hx => hP x (by omega)) hz, h2.ag g (fun x hx => hP x (by omega)) hz, h3.ag g (fun x hx => hP x (by omega)) hz, ⟨h4.1.ag g (hP _ (by omega)) (hP _ (by omega)), h4.2⟩, h5.ag g (hP _ (by omega)) (hP _ (by omega)), h6.ag g (fun x hx => hP x (by unfold PX at hx; omega)), h7.ag g (fun x hx => hP x (by omega)), h8.ag g (fun x hx => hP x (by omega)), h9.ag g (fun x hx => hP x (by omega)) hz⟩
/-- what a call uses within itself: trial, body, chunk, marked, movers -/
def PZ (b : Nat) : Nat → Prop := fun y => (b + 253 ≤ y ∧ y < b + 255) ∨ (b + 271 ≤ y ∧ y < b + 277)
theorem CP.upZ (h : CP M b D Q C L I T E F) (o : Of (PZ b) M M') (hr : ∀ x, PZ b x → ∀ j, M'.rf x j = M.rf x j) : CP M' b D Q C L I T E F := by
  obtain ⟨h1, h2, h3, h4, h5, h6, h7, h8, h9⟩ := h
  have g : Ag (fun x => ¬ PZ b x) M M' := o.ag (fun _ h => h)
  have hz : M.sz ≤ M'.sz := by rw [o.2.1]; exact Nat.le_refl _
  refine ⟨h1.sr o.1 o.2.1 (fun x hx j _ => ?_), h2.ag g (fun x hx => by unfold PZ; omega) hz, h3.ag g (fun x hx => by unfold PZ; omega) hz, ⟨h4.1.ag g (by unfold PZ; omega) (by unfold PZ; omega), h4.2⟩, h5.ag g (by unfold PZ; omega) (by unfold PZ; omega), h6.ag g (fun x hx => by unfold PX at hx; unfold PZ; omega), h7.ag g (fun x hx => by unfold PZ; omega), h8.ag g (fun x hx => by unfold PZ; omega), h9.ag g (fun x hx => by unfold PZ; omega) hz⟩
  by_cases hp : PZ b x
  · exact hr x hp j
  · exact (o.2.2.2 x hp j).2.2
theorem CP.upZn {A : List Nat} (h : CP M b D Q C L I T E F) (o : On A M M') (hA : ∀ x ∈ A, PZ b x) : CP M' b D Q C L I T E F := h.upZ (o.of hA) (fun x _ j => by rw [o.2.2.2.2.1])
theorem CP.upL (h : CP M b D Q C L I T E F) {ptr : Nat → Nat} {op : Option Nat} (n : LaC M' (b + 251) (b + 252) ptr op) (o : Of (fun y => y = b + 251 ∨ y = b + 252) M M') : CP M' b D Q C (ptr, op) I T E F := by
  obtain ⟨h1, h2, h3, h4, h5, h6, h7, h8, h9⟩ := h
  have g : Ag (fun y => ¬ (y = b + 251 ∨ y = b + 252)) M M' := o.ag (fun _ h => h)
  have hz : M.sz ≤ M'.sz := by rw [o.2.1]; exact Nat.le_refl _
  exact ⟨h1.ag g (fun x hx => by omega) hz, h2.ag g (fun x hx => by omega) hz, h3.ag g (fun x hx => by omega) hz, ⟨h4.1.ag g (by omega) (by omega), h4.2⟩, n, h6.ag g (fun x hx => by unfold PX at hx; omega), h7.ag g (fun x hx => by omega), h8.ag g (fun x hx => by omega), h9.ag g (fun x hx => by omega) hz⟩
theorem CP.upC (h : CP M b D Q C L I T E F) {l : List Nat} {rd : Nat} (n : CaC M' (b + 249) l rd) (hr : rd < 50000000) (o : Of (fun y => y = b + 249 ∨ y = b + 250) M M') : CP M' b D Q (l, rd) L I T E F := by
  obtain ⟨h1, h2, h3, h4, h5, h6, h7, h8, h9⟩ := h
  have g : Ag (fun y => ¬ (y = b + 249 ∨ y = b + 250)) M M' := o.ag (fun _ h => h)
  have hz : M.sz ≤ M'.sz := by rw [o.2.1]; exact Nat.le_refl _
  exact ⟨h1.ag g (fun x hx => by omega) hz, h2.ag g (fun x hx => by omega) hz, h3.ag g (fun x hx => by omega) hz, ⟨n, hr⟩, h5.ag g (by omega) (by omega), h6.ag g (fun x hx => by unfold PX at hx; omega), h7.ag g (fun x hx => by omega), h8.ag g (fun x hx => by omega), h9.ag g (fun x hx => by omega) hz⟩
theorem CP.upI (h : CP M b D Q C L I T E F) {im : Nat → Nat} {ch : Nat → Option Nat} {tb : TbT} (n : IxC M' (b + 255) im ch tb) (o : Of (PX (b + 255)) M M') : CP M' b D Q C L (im, ch, tb) T E F := by
  obtain ⟨h1, h2, h3, h4, h5, h6, h7, h8, h9⟩ := h
  have g : Ag (fun y => ¬ PX (b + 255) y) M M' := o.ag (fun _ h => h)
  have hz : M.sz ≤ M'.sz := by rw [o.2.1]; exact Nat.le_refl _
  exact ⟨h1.ag g (fun x hx => by unfold PX; omega) hz, h2.ag g (fun x hx => by unfold PX; omega) hz, h3.ag g (fun x hx => by unfold PX; omega) hz, ⟨h4.1.ag g (by unfold PX; omega) (by unfold PX; omega), h4.2⟩, h5.ag g (by unfold PX; omega) (by unfold PX; omega), n, h7.ag g (fun x hx => by unfold PX; omega), h8.ag g (fun x hx => by unfold PX; omega), h9.ag g (fun x hx => by unfold PX; omega) hz⟩
theorem CP.upQ (h : CP M b D Q C L I T E F) {pm : Nat → Nat} {made : Nat} {ws : List WT} (n : QuC M' (b + 7) pm made ws) (o : Of (PQ (b + 7)) M M') (hr : ∀ (k : Nat) (x : WT) (a : Nat), ws[k]? = some x → x.2.2.2.1 = some a → RcC M b F.1 a) : CP M' b D (pm, made, ws) C L I T E F := by
  obtain ⟨h1, h2, h3, h4, h5, h6, h7, h8, h9⟩ := h
  have g : Ag (fun y => ¬ PQ (b + 7) y) M M' := o.ag (fun _ h => h)
  have hz : M.sz ≤ M'.sz := by rw [o.2.1]; exact Nat.le_refl _
  exact ⟨h1.ag g (fun x hx => by unfold PQ; omega) hz, h2.ag g (fun x hx => by unfold PQ; omega) hz, ⟨n, fun k x a hk ha => (hr k x a hk ha).ag g (fun y hy => by unfold PQ; omega) hz⟩, ⟨h4.1.ag g (by unfold PQ; omega) (by unfold PQ; omega), h4.2⟩, h5.ag g (by unfold PQ; omega) (by unfold PQ; omega), h6.ag g (fun x hx => by unfold PX at hx; unfold PQ; omega), h7.ag g (fun x hx => by unfold PQ; omega), h8.ag g (fun x hx => by unfold PQ; omega), h9.ag g (fun x hx => by unfold PQ; omega) hz⟩
theorem CP.upT (h : CP M b D Q C L I T E F) (n : CpT M' b T') (o : Of (fun y => b + 267 ≤ y ∧ y < b + 271) M M') : CP M' b D Q C L I T' E F := by
  obtain ⟨h1, h2, h3, h4, h5, h6, h7, h8, h9⟩ := h
  have g : Ag (fun y => ¬ (b + 267 ≤ y ∧ y < b + 271)) M M' := o.ag (fun _ h => h)
  have hz : M.sz ≤ M'.sz := by rw [o.2.1]; exact Nat.le_refl _
  exact ⟨h1.ag g (fun x hx => by omega) hz, h2.ag g (fun x hx => by omega) hz, h3.ag g (fun x hx => by omega) hz, ⟨h4.1.ag g (by omega) (by omega), h4.2⟩, h5.ag g (by omega) (by omega), h6.ag g (fun x hx => by unfold PX at hx; omega), n, h8.ag g (fun x hx => by omega), h9.ag g (fun x hx => by omega) hz⟩
theorem CP.upE (h : CP M b D Q C L I T E F) (n : CpE M' b E') (o : On [b + 277, b + 278] M M') : CP M' b D Q C L I T E' F := by
  obtain ⟨h1, h2, h3, h4, h5, h6, h7, h8, h9⟩ := h
  have o2 : Of (fun y => y = b + 277 ∨ y = b + 278) M M' := o.of (fun x hx => by simpa using hx)
  have g : Ag (fun y => ¬ (y = b + 277 ∨ y = b + 278)) M M' := o2.ag (fun _ h => h)
  have hz : M.sz ≤ M'.sz := by rw [o.2.1]; exact Nat.le_refl _
  exact ⟨h1.sr o.1 o.2.1 (fun x hx j _ => by rw [o.2.2.2.2.1]), h2.ag g (fun x hx => by omega) hz, h3.ag g (fun x hx => by omega) hz, ⟨h4.1.ag g (by omega) (by omega), h4.2⟩, h5.ag g (by omega) (by omega), h6.ag g (fun x hx => by unfold PX at hx; omega), h7.ag g (fun x hx => by omega), n, h9.ag g (fun x hx => by omega) hz⟩
/-- the object's own numbers -/
theorem CP.upF (h : CP M b D Q C L I T E F) (n : CpF M' b F') (hG : F'.1 = F.1) (o : Of (· = b) M M') (hr : ∀ j, j ≠ 14 → M'.rf b j = M.rf b j) : CP M' b D Q C L I T E F' := by
  obtain ⟨h1, h2, h3, h4, h5, h6, h7, h8, h9⟩ := h
  have g : Ag (fun y => ¬ y = b) M M' := o.ag (fun _ h => h)
  have hz : M.sz ≤ M'.sz := by rw [o.2.1]; exact Nat.le_refl _
  refine ⟨h1.sr o.1 o.2.1 (fun x hx j hj => ?_), by rw [hG]; exact h2.ag g (fun x hx => by omega) hz, by rw [hG]; exact h3.ag g (fun x hx => by omega) hz, ⟨h4.1.ag g (by omega) (by omega), h4.2⟩, h5.ag g (by omega) (by omega), h6.ag g (fun x hx => by unfold PX at hx; omega), h7.ag g (fun x hx => by omega), h8.ag g (fun x hx => by omega), n⟩
  by_cases hx2 : x = b
  · rw [hx2]; exact hr j hj
  · exact (o.2.2.2 x hx2 j).2.2
end
