/-! a write that waits, as a mathematician has it: number, target, record; bytes; what it waits for; of a record its tables with what is in them, and the blocks as they were when it was made -/
def Wm : Type := (Nat × Nat × Option RecT) × (Nat → Nat) × (Nat → Bool) × TbT × (Nat → Nat → Nat)
def Wm.n (w : Wm) : Nat := w.1.1
def Wm.t (w : Wm) : Nat := w.1.2.1
def Wm.r (w : Wm) : Option RecT := w.1.2.2
def Wm.y (w : Wm) : Nat → Nat := w.2.1
def Wm.d (w : Wm) : Nat → Bool := w.2.2.1
def Wm.g (w : Wm) : TbT := w.2.2.2.1
def Wm.S (w : Wm) : Nat → Nat → Nat := w.2.2.2.2
def isRec (w : Wm) : Prop := ∃ q, w.r = some q
def nn : Nat → Option Nat := fun _ => none
def lnS (S : Nat → Nat → Nat) (p : Nat) : Nat := S p 3
def nbS (S : Nat → Nat → Nat) (p : Nat) : Nat := (S p 3 + 23) / 16
def ctS (S : Nat → Nat → Nat) (p n : Nat) : List Nat := (List.range n).map (fun k => S (p + (k + 6) / 16) ((k + 6) % 16))
/-- a block as it is read: the last write of it that waits, else the disk -/
def vw (dk : Nat → Nat → Nat) (ws : List Wm) (b : Nat) : Nat → Nat := ws.foldl (fun f x => if x.t = b then x.y else f) (dk b)
def Lv (ch : Nat → Option Nat) (tb : TbT) (p : Nat) : Prop := (∃ k, k < 48 ∧ plO ch tb (some k) = some p) ∨ ∃ z, z ∈ tb ∧ z.1 = p
def Rch (ch : Nat → Option Nat) (tb : TbT) (S : Nat → Nat → Nat) (b : Nat) : Prop := ∃ p, Lv ch tb p ∧ p ≤ b ∧ b < p + nbS S p
def WFS (pt : Nat → Nat) (ch : Nat → Option Nat) (tb : TbT) (S : Nat → Nat → Nat) : Prop :=
  (∀ e, e < 8 → pt e ≤ 16) ∧ spOK ch ∧ tb.length ≤ 3 ∧
  (∀ z, z ∈ tb → spOK z.2 ∧ z.1 < 128 ∧ lnS S z.1 = (tbL z.2).length ∧ ctS S z.1 (tbL z.2).length = tbL z.2) ∧
  (∀ k p, k < 48 → plO ch tb (some k) = some p → p < 128 ∧ lnS S p ≤ 100) ∧
  (∀ p, Lv ch tb p → p % 16 + nbS S p ≤ pt (p / 16)) ∧
  (∀ p q, Lv ch tb p → Lv ch tb q → p < q → p + nbS S p ≤ q) ∧
  (∀ k l p, k < 48 → l < 48 → plO ch tb (some k) = some p → plO ch tb (some l) = some p → k = l)
theorem vw_no {dk : Nat → Nat → Nat} {b : Nat} : ∀ {ws : List Wm} {f : Nat → Nat}, (∀ x, x ∈ ws → x.t ≠ b) → ws.foldl (fun f x => if x.t = b then x.y else f) f = f
  | [], f, _ => rfl
  | a :: l, f, h => by
    rw [List.foldl_cons, if_neg (h a (by simp))]
    exact vw_no (dk := dk) (fun x hx => h x (by simp [hx]))
theorem vw_none {dk : Nat → Nat → Nat} {ws : List Wm} {b : Nat} (h : ∀ x, x ∈ ws → x.t ≠ b) : vw dk ws b = dk b := vw_no (dk := dk) h
theorem vw_la {b : Nat} {x : Wm} : ∀ {ws : List Wm} {f : Nat → Nat}, ws.Pairwise (fun x y => x.n < y.n) → x ∈ ws → x.t = b → (∀ y, y ∈ ws → y.t = b → y.n ≤ x.n) → ws.foldl (fun f x => if x.t = b then x.y else f) f = x.y
  | [], f, _, hx, _, _ => by cases hx
  | a :: l, f, hp, hx, ht, hm => by
    rw [List.foldl_cons]
    rw [List.pairwise_cons] at hp
    rcases List.mem_cons.mp hx with h | h
    · subst h
      rw [if_pos ht]
      refine vw_no (dk := fun _ => f) (fun y hy c => ?_)
      have h1 := hm y (by simp [hy]) c
      have h2 := hp.1 y hy
      omega
    · exact vw_la hp.2 h ht (fun y hy => hm y (by simp [hy]))
theorem vw_last {dk : Nat → Nat → Nat} {ws : List Wm} {b : Nat} {x : Wm} (hp : ws.Pairwise (fun x y => x.n < y.n)) (hx : x ∈ ws) (ht : x.t = b) (hm : ∀ y, y ∈ ws → y.t = b → y.n ≤ x.n) : vw dk ws b = x.y := vw_la hp hx ht hm
theorem vw_app {dk : Nat → Nat → Nat} {ws l : List Wm} {b : Nat} : vw dk (ws ++ l) b = l.foldl (fun f x => if x.t = b then x.y else f) (vw dk ws b) := by unfold vw; rw [List.foldl_append]
theorem vw_app_no {dk : Nat → Nat → Nat} {ws l : List Wm} {b : Nat} (h : ∀ x, x ∈ l → x.t ≠ b) : vw dk (ws ++ l) b = vw dk ws b := by rw [vw_app]; exact vw_no (dk := dk) h
theorem max_ex (P : Wm → Prop) : ∀ (ws : List Wm), (∃ x, x ∈ ws ∧ P x) → ∃ x, x ∈ ws ∧ P x ∧ ∀ y, y ∈ ws → P y → y.n ≤ x.n
  | [], h => by obtain ⟨x, hx, _⟩ := h; cases hx
  | a :: l, h => by
    by_cases hl : ∃ x, x ∈ l ∧ P x
    · obtain ⟨x, hx, px, mx⟩ := max_ex P l hl
      by_cases ha : P a ∧ x.n < a.n
      · refine ⟨a, by simp, ha.1, fun y hy py => ?_⟩
        rcases List.mem_cons.mp hy with e | e
        · rw [e]; exact Nat.le_refl _
        · have := mx y e py
          omega
      · refine ⟨x, by simp [hx], px, fun y hy py => ?_⟩
        rcases List.mem_cons.mp hy with e | e
        · subst e
          exact Nat.le_of_not_lt (fun c => ha ⟨py, c⟩)
        · exact mx y e py
    · obtain ⟨x, hx, px⟩ := h
      rcases List.mem_cons.mp hx with e | e
      · subst e
        refine ⟨x, by simp, px, fun y hy py => ?_⟩
        rcases List.mem_cons.mp hy with e | e
        · rw [e]; exact Nat.le_refl _
        · exact absurd ⟨y, e, py⟩ hl
      · exact absurd ⟨x, e, px⟩ hl
/-! what holds between the calls -/
def NbI (md : Nat) (ws : List Wm) : Prop := ws.Pairwise (fun x y => x.n < y.n) ∧ ∀ x, x ∈ ws → x.n < md ∧ (∀ n, x.d n = true → n < x.n) ∧ (x.r = none → x.t < 128) ∧ ∀ q, x.r = some q → x.t = 128 + q.1 % 2
def OrI (ws : List Wm) : Prop :=
  (∀ x y, x ∈ ws → y ∈ ws → x.r = none → y.r = none → x.t = y.t → x.n < y.n → ∃ v, v ∈ ws ∧ y.d v.n = true ∧ v.d x.n = true) ∧
  ∀ w v, w ∈ ws → v ∈ ws → isRec w → isRec v → v.n < w.n → ∃ u, u ∈ ws ∧ isRec u ∧ w.d u.n = true ∧ v.n ≤ u.n
def D0I (dk : Nat → Nat → Nat) (ws : List Wm) (g : TbT) (S : Nat → Nat → Nat) : Prop := ∀ b, Rch nn g S b → dk b = S b ∧ ∀ x, x ∈ ws → x.t = b → ∃ v, v ∈ ws ∧ isRec v ∧ x.d v.n = true
def DwI (dk : Nat → Nat → Nat) (ws : List Wm) : Prop := ∀ w, w ∈ ws → isRec w → ∀ b, Rch nn w.g w.S b →
  (∀ x, x ∈ ws → x.t = b → w.n < x.n → ∃ v, v ∈ ws ∧ isRec v ∧ w.n < v.n ∧ x.d v.n = true) ∧
  ((∃ x, x ∈ ws ∧ x.t = b ∧ x.n < w.n ∧ (∀ y, y ∈ ws → y.t = b → y.n < w.n → y.n ≤ x.n) ∧ x.y = w.S b ∧ (w.d x.n = true ∨ ∃ u, u ∈ ws ∧ w.d u.n = true ∧ u.d x.n = true)) ∨
   ((∀ y, y ∈ ws → y.t = b → w.n < y.n) ∧ dk b = w.S b) ∨
   ∃ v, v ∈ ws ∧ isRec v ∧ w.d v.n = true ∧ Rch nn v.g v.S b ∧ v.S b = w.S b ∧ ∀ y, y ∈ ws → y.t = b → y.n < v.n ∨ w.n < y.n)
def PtI (ws : List Wm) (em : Nat → Option Nat) (pt : Nat → Nat) (R : RecT) : Prop := ∀ e, e < 8 →
  (R.2.2.2.1 e ≤ pt e ∨ ∃ v, v ∈ ws ∧ isRec v ∧ em e = some v.n) ∧
  (∀ w q, w ∈ ws → w.r = some q → q.2.2.2.1 e ≤ pt e ∨ ∃ v, v ∈ ws ∧ isRec v ∧ em e = some v.n ∧ w.n < v.n) ∧
  ∀ x, x ∈ ws → x.r = none → x.t / 16 = e → x.t % 16 < pt e ∨ ∃ v, v ∈ ws ∧ isRec v ∧ em e = some v.n ∧ v.d x.n = true
def GhI (ws : List Wm) (R : RecT) (g : TbT) (S : Nat → Nat → Nat) : Prop := (WFS R.2.2.2.1 nn g S ∧ g.map Prod.fst = R.2.2.2.2) ∧ ∀ w q, w ∈ ws → w.r = some q → WFS q.2.2.2.1 nn w.g w.S ∧ w.g.map Prod.fst = q.2.2.2.2
def LtI (ws : List Wm) (R : RecT) (g : TbT) (la : RecT) (lw : Option Nat) (tb : TbT) : Prop :=
  (∀ w, w ∈ ws → isRec w → (∀ v, v ∈ ws → isRec v → v.n ≤ w.n) → lw = some w.n ∧ w.r = some la ∧ w.g = tb) ∧
  ((∀ w, w ∈ ws → ¬ isRec w) → la = R ∧ g = tb) ∧ ∀ w, w ∈ ws → lw = some w.n → isRec w
theorem Lv.lt {pt : Nat → Nat} {ch : Nat → Option Nat} {tb : TbT} {S : Nat → Nat → Nat} (h : WFS pt ch tb S) {p : Nat} (hp : Lv ch tb p) : p < 128 := by
  obtain ⟨_, _, _, h4, h5, _⟩ := h
  rcases hp with ⟨k, hk, hp⟩ | ⟨z, hz, hp⟩
  · exact (h5 k p hk hp).1
  · rw [← hp]; exact (h4 z hz).2.1
theorem Rch.lt {pt : Nat → Nat} {ch : Nat → Option Nat} {tb : TbT} {S : Nat → Nat → Nat} (h : WFS pt ch tb S) {b : Nat} (hb : Rch ch tb S b) : b < 128 ∧ b % 16 < pt (b / 16) := by
  obtain ⟨p, hp, h1, h2⟩ := hb
  have hp0 := hp.lt h
  have h6 := h.2.2.2.2.2.1 p hp
  have h7 := h.1 (p / 16) (by omega)
  have e : b / 16 = p / 16 := by omega
  rw [e]
  omega
theorem nb_inj {ws : List Wm} {md : Nat} (h : NbI md ws) {x y : Wm} (hx : x ∈ ws) (hy : y ∈ ws) (e : x.n = y.n) : x = y := by
  have key : ∀ l : List Wm, l.Pairwise (fun x y => x.n < y.n) → x ∈ l → y ∈ l → x = y := by
    intro l
    induction l with
    | nil => intro _ hx; cases hx
    | cons a l ih =>
      intro hp hx hy
      rw [List.pairwise_cons] at hp
      rcases List.mem_cons.mp hx with h1 | h1 <;> rcases List.mem_cons.mp hy with h2 | h2
      · rw [h1, h2]
      · have := hp.1 y h2
        rw [h1] at e
        omega
      · have := hp.1 x h1
        rw [h2] at e
        omega
      · exact ih hp.2 h1 h2
  exact key ws h.1 hx hy
/-- a write lands: what waits then -/
def Gone (ws ws' : List Wm) (x : Wm) : Prop := (∀ y, y ∈ ws' ↔ y ∈ ws ∧ y.n ≠ x.n) ∧ ws'.Pairwise (fun x y => x.n < y.n)
def Rdy (ws : List Wm) (x : Wm) : Prop := ∀ y, y ∈ ws → x.d y.n = false
theorem no_d {ws : List Wm} {x y : Wm} (h : Rdy ws x) (hy : y ∈ ws) (hd : x.d y.n = true) : False := by
  rw [h y hy] at hd; cases hd
section
variable {dk : Nat → Nat → Nat} {ws ws' : List Wm} {md : Nat} {R : RecT} {g : TbT} {S : Nat → Nat → Nat} {x : Wm}
theorem NbI.gone (h : NbI md ws) (o : Gone ws ws' x) : NbI md ws' := ⟨o.2, fun y hy => h.2 y ((o.1 y).mp hy).1⟩
/-- of the writes of one block only the first can be ready -/
theorem first_of (hN : NbI md ws) (hO : OrI ws) (hx : x ∈ ws) (hr : x.r = none) (hd : Rdy ws x) {y : Wm} (hy : y ∈ ws) (ht : y.t = x.t) : x.n ≤ y.n := by
  have hb := (hN.2 x hx).2.2.1 hr
  have hyr : y.r = none := by
    cases hq : y.r with
    | none => rfl
    | some q =>
      have := (hN.2 y hy).2.2.2 q hq
      omega
  refine Nat.le_of_not_lt (fun c => ?_)
  obtain ⟨v, hv, h1, h2⟩ := hO.1 y x hy hx hyr hr ht c
  exact no_d hd hv h1
/-- what is waited for waits on, behind a landing, unless it landed -/
theorem OrI.gone (hN : NbI md ws) (h : OrI ws) (hx : x ∈ ws) (hd : Rdy ws x) (o : Gone ws ws' x) : OrI ws' := by
  refine ⟨fun a c ha hc ra rc ht hlt => ?_, fun w v hw hv rw_ rv hlt => ?_⟩
  · obtain ⟨ha, na⟩ := (o.1 a).mp ha
    obtain ⟨hc, nc⟩ := (o.1 c).mp hc
    obtain ⟨v, hv, h1, h2⟩ := h.1 a c ha hc ra rc ht hlt
    refine ⟨v, (o.1 v).mpr ⟨hv, fun e => ?_⟩, h1, h2⟩
    rw [nb_inj hN hv hx e] at h2
    exact no_d hd ha h2
  · obtain ⟨hw, nw⟩ := (o.1 w).mp hw
    obtain ⟨hv, nv⟩ := (o.1 v).mp hv
    obtain ⟨u, hu, ru, du, le⟩ := h.2 w v hw hv rw_ rv hlt
    refine ⟨u, (o.1 u).mpr ⟨hu, fun e => ?_⟩, ru, du, le⟩
    have ex := nb_inj hN hu hx e
    subst ex
    obtain ⟨z, hz, _, dz, _⟩ := h.2 u v hu hv ru rv (by omega)
    exact no_d hd hz dz
/-- a ready record is the first of those that wait -/
theorem first_rec (h : OrI ws) (hx : x ∈ ws) (rx : isRec x) (hd : Rdy ws x) {v : Wm} (hv : v ∈ ws) (rv : isRec v) : x.n ≤ v.n := by
  refine Nat.le_of_not_lt (fun c => ?_)
  obtain ⟨z, hz, _, dz, _⟩ := h.2 x v hx hv rx rv c
  exact no_d hd hz dz
/-- the disk with a block anew -/
def dkU (dk : Nat → Nat → Nat) (b : Nat) (f : Nat → Nat) : Nat → Nat → Nat := fun c => if c = b then f else dk c
theorem vw_gone (hN : NbI md ws) (hO : OrI ws) (hx : x ∈ ws) (hr : x.r = none) (hd : Rdy ws x) (o : Gone ws ws' x) (b : Nat) : vw (dkU dk x.t x.y) ws' b = vw dk ws b := by
  by_cases hb : ∃ y, y ∈ ws ∧ y.t = b
  · obtain ⟨z, hz, tz, mz⟩ := max_ex (fun y => y.t = b) ws hb
    rw [vw_last hN.1 hz tz mz]
    by_cases hzx : z.n = x.n
    · have ex := nb_inj hN hz hx hzx
      subst ex
      have hno : ∀ y, y ∈ ws' → y.t ≠ b := by
        intro y hy ty
        obtain ⟨hy, ny⟩ := (o.1 y).mp hy
        have h1 := mz y hy ty
        have h2 := first_of hN hO hz hr hd hy (by rw [ty, tz])
        omega
      rw [vw_none hno]
      unfold dkU
      rw [if_pos tz.symm]
    · exact vw_last o.2 ((o.1 z).mpr ⟨hz, hzx⟩) tz (fun y hy => mz y ((o.1 y).mp hy).1)
  · rw [vw_none (fun y hy c => hb ⟨y, hy, c⟩), vw_none (fun y hy c => hb ⟨y, ((o.1 y).mp hy).1, c⟩)]
    unfold dkU
    rw [if_neg (fun c => hb ⟨x, hx, c.symm⟩)]
theorem vw_goneR (hN : NbI md ws) (hx : x ∈ ws) (hr : isRec x) (o : Gone ws ws' x) {b : Nat} (hb : b < 128) : vw dk ws' b = vw dk ws b := by
  by_cases he : ∃ y, y ∈ ws ∧ y.t = b
  · obtain ⟨z, hz, tz, mz⟩ := max_ex (fun y => y.t = b) ws he
    rw [vw_last hN.1 hz tz mz]
    have hzx : z.n ≠ x.n := by
      intro e
      have ex := nb_inj hN hz hx e
      subst ex
      obtain ⟨q, hq⟩ := hr
      have := (hN.2 z hz).2.2.2 q hq
      omega
    exact vw_last o.2 ((o.1 z).mpr ⟨hz, hzx⟩) tz (fun y hy => mz y ((o.1 y).mp hy).1)
  · rw [vw_none (fun y hy c => he ⟨y, hy, c⟩), vw_none (fun y hy c => he ⟨y, ((o.1 y).mp hy).1, c⟩)]
/-- a block's write lands -/
theorem D0I.gone (h : D0I dk ws g S) (hN : NbI md ws) (hx : x ∈ ws) (hr : x.r = none) (hd : Rdy ws x) (o : Gone ws ws' x) : D0I (dkU dk x.t x.y) ws' g S := by
  intro b hb
  obtain ⟨h1, h2⟩ := h b hb
  refine ⟨?_, fun y hy ty => ?_⟩
  · unfold dkU
    by_cases e : b = x.t
    · obtain ⟨v, hv, _, dv⟩ := h2 x hx e.symm
      exact (no_d hd hv dv).elim
    · rw [if_neg e]; exact h1
  · obtain ⟨hy, ny⟩ := (o.1 y).mp hy
    obtain ⟨v, hv, rv, dv⟩ := h2 y hy ty
    refine ⟨v, (o.1 v).mpr ⟨hv, fun e => ?_⟩, rv, dv⟩
    rw [nb_inj hN hv hx e] at rv
    obtain ⟨q, hq⟩ := rv
    rw [hr] at hq; cases hq
theorem DwI.gone (h : DwI dk ws) (hN : NbI md ws) (hO : OrI ws) (hx : x ∈ ws) (hr : x.r = none) (hd : Rdy ws x) (o : Gone ws ws' x) : DwI (dkU dk x.t x.y) ws' := by
  have hne : ∀ v : Wm, v ∈ ws → isRec v → v.n ≠ x.n := by
    intro v hv rv e
    rw [nb_inj hN hv hx e] at rv
    obtain ⟨q, hq⟩ := rv
    rw [hr] at hq; cases hq
  intro w hw rw_ b hb
  obtain ⟨hw, nw⟩ := (o.1 w).mp hw
  obtain ⟨h1, h2⟩ := h w hw rw_ b hb
  refine ⟨fun y hy ty lt => ?_, ?_⟩
  · obtain ⟨v, hv, rv, lv, dv⟩ := h1 y ((o.1 y).mp hy).1 ty lt
    exact ⟨v, (o.1 v).mpr ⟨hv, hne v hv rv⟩, rv, lv, dv⟩
  · rcases h2 with ⟨z, hz, tz, lz, mz, yz, dz⟩ | ⟨hno, hdk⟩ | ⟨v, hv, rv, dv, bv, sv, nv⟩
    · by_cases e : z.n = x.n
      · have ex := nb_inj hN hz hx e
        subst ex
        refine Or.inr (Or.inl ⟨fun y hy ty => ?_, ?_⟩)
        · obtain ⟨hy, ny⟩ := (o.1 y).mp hy
          have h3 := first_of hN hO hz hr hd hy (by rw [ty, tz])
          refine Nat.lt_of_not_le (fun c => ?_)
          by_cases c2 : y.n < w.n
          · have := mz y hy ty c2
            omega
          · have e2 : y.n = w.n := by omega
            rw [nb_inj hN hy hw e2] at ty
            obtain ⟨q, hq⟩ := rw_
            have := (hN.2 w hw).2.2.2 q hq
            have := (hN.2 z hz).2.2.1 hr
            omega
        · unfold dkU
          rw [if_pos tz.symm]
          exact yz
      · refine Or.inl ⟨z, (o.1 z).mpr ⟨hz, e⟩, tz, lz, fun y hy => mz y ((o.1 y).mp hy).1, yz, ?_⟩
        rcases dz with dz | ⟨u, hu, d1, d2⟩
        · exact Or.inl dz
        · refine Or.inr ⟨u, (o.1 u).mpr ⟨hu, fun e2 => ?_⟩, d1, d2⟩
          rw [nb_inj hN hu hx e2] at d2
          exact no_d hd hz d2
    · refine Or.inr (Or.inl ⟨fun y hy => hno y ((o.1 y).mp hy).1, ?_⟩)
      unfold dkU
      by_cases e : b = x.t
      · have lt := hno x hx e.symm
        obtain ⟨v, hv, _, _, dv⟩ := h1 x hx e.symm lt
        exact (no_d hd hv dv).elim
      · rw [if_neg e]; exact hdk
    · exact Or.inr (Or.inr ⟨v, (o.1 v).mpr ⟨hv, hne v hv rv⟩, rv, dv, bv, sv, fun y hy => nv y ((o.1 y).mp hy).1⟩)
theorem PtI.gone {em : Nat → Option Nat} {pt : Nat → Nat} (h : PtI ws em pt R) (hN : NbI md ws) (hx : x ∈ ws) (hr : x.r = none) (o : Gone ws ws' x) : PtI ws' em pt R := by
  have hne : ∀ v : Wm, v ∈ ws → isRec v → v ∈ ws' := by
    intro v hv rv
    refine (o.1 v).mpr ⟨hv, fun e => ?_⟩
    rw [nb_inj hN hv hx e] at rv
    obtain ⟨q, hq⟩ := rv
    rw [hr] at hq; cases hq
  intro e he
  obtain ⟨h1, h2, h3⟩ := h e he
  refine ⟨?_, fun w q hw hq => ?_, fun y hy ry ty => ?_⟩
  · rcases h1 with h1 | ⟨v, hv, rv, ev⟩
    · exact Or.inl h1
    · exact Or.inr ⟨v, hne v hv rv, rv, ev⟩
  · rcases h2 w q ((o.1 w).mp hw).1 hq with h1 | ⟨v, hv, rv, ev⟩
    · exact Or.inl h1
    · exact Or.inr ⟨v, hne v hv rv, rv, ev⟩
  · rcases h3 y ((o.1 y).mp hy).1 ry ty with h1 | ⟨v, hv, rv, ev⟩
    · exact Or.inl h1
    · exact Or.inr ⟨v, hne v hv rv, rv, ev⟩
theorem GhI.gone (h : GhI ws R g S) (o : Gone ws ws' x) : GhI ws' R g S := ⟨h.1, fun w q hw hq => h.2 w q ((o.1 w).mp hw).1 hq⟩
theorem LtI.gone {la : RecT} {lw : Option Nat} {tb : TbT} (h : LtI ws R g la lw tb) (hN : NbI md ws) (hx : x ∈ ws) (hr : x.r = none) (o : Gone ws ws' x) : LtI ws' R g la lw tb := by
  have hne : ∀ v : Wm, v ∈ ws → isRec v → v ∈ ws' := by
    intro v hv rv
    refine (o.1 v).mpr ⟨hv, fun e => ?_⟩
    rw [nb_inj hN hv hx e] at rv
    obtain ⟨q, hq⟩ := rv
    rw [hr] at hq; cases hq
  obtain ⟨h1, h2, h3⟩ := h
  exact ⟨fun w hw rw_ mw => h1 w ((o.1 w).mp hw).1 rw_ (fun v hv rv => mw v (hne v hv rv) rv), fun hno => h2 (fun w hw rw_ => hno w (hne w hw rw_) rw_), fun w hw => h3 w ((o.1 w).mp hw).1⟩
/-- a record lands, the first that waits -/
theorem rec_disk (h : DwI dk ws) (hx : x ∈ ws) (rx : isRec x) (hd : Rdy ws x) {b : Nat} (hb : Rch nn x.g x.S b) : (∀ y, y ∈ ws → y.t = b → x.n < y.n) ∧ dk b = x.S b := by
  obtain ⟨_, h2⟩ := h x hx rx b hb
  rcases h2 with ⟨z, hz, _, _, _, _, dz⟩ | h2 | ⟨v, hv, _, dv, _⟩
  · rcases dz with dz | ⟨u, hu, du, _⟩
    · exact (no_d hd hz dz).elim
    · exact (no_d hd hu du).elim
  · exact h2
  · exact (no_d hd hv dv).elim
theorem D0I.goneR (h : DwI dk ws) (hx : x ∈ ws) (rx : isRec x) (hd : Rdy ws x) (o : Gone ws ws' x) : D0I dk ws' x.g x.S := by
  intro b hb
  obtain ⟨h1, h2⟩ := rec_disk h hx rx hd hb
  refine ⟨h2, fun y hy ty => ?_⟩
  obtain ⟨hy, ny⟩ := (o.1 y).mp hy
  obtain ⟨v, hv, rv, lv, dv⟩ := (h x hx rx b hb).1 y hy ty (h1 y hy ty)
  exact ⟨v, (o.1 v).mpr ⟨hv, by omega⟩, rv, dv⟩
theorem DwI.goneR (h : DwI dk ws) (hG : GhI ws R g S) (hN : NbI md ws) (hO : OrI ws) (hx : x ∈ ws) (rx : isRec x) (hd : Rdy ws x) (o : Gone ws ws' x) : DwI dk ws' := by
  intro w hw rw_ b hb
  obtain ⟨hw, nw⟩ := (o.1 w).mp hw
  have hlt : x.n < w.n := by
    have := first_rec hO hx rx hd hw rw_
    omega
  obtain ⟨h1, h2⟩ := h w hw rw_ b hb
  refine ⟨fun y hy ty lt => ?_, ?_⟩
  · obtain ⟨v, hv, rv, lv, dv⟩ := h1 y ((o.1 y).mp hy).1 ty lt
    exact ⟨v, (o.1 v).mpr ⟨hv, by omega⟩, rv, lv, dv⟩
  · rcases h2 with ⟨z, hz, tz, lz, mz, yz, dz⟩ | ⟨hno, hdk⟩ | ⟨v, hv, rv, dv, bv, sv, nv⟩
    · by_cases e : z.n = x.n
      · have ex := nb_inj hN hz hx e
        subst ex
        exfalso
        obtain ⟨q, hq⟩ := rw_
        have h3 := hb.lt (hG.2 w q hw hq).1
        obtain ⟨q2, hq2⟩ := rx
        have h4 := (hN.2 z hz).2.2.2 q2 hq2
        omega
      · refine Or.inl ⟨z, (o.1 z).mpr ⟨hz, e⟩, tz, lz, fun y hy => mz y ((o.1 y).mp hy).1, yz, ?_⟩
        rcases dz with dz | ⟨u, hu, d1, d2⟩
        · exact Or.inl dz
        · refine Or.inr ⟨u, (o.1 u).mpr ⟨hu, fun e2 => ?_⟩, d1, d2⟩
          rw [nb_inj hN hu hx e2] at d2
          exact no_d hd hz d2
    · exact Or.inr (Or.inl ⟨fun y hy => hno y ((o.1 y).mp hy).1, hdk⟩)
    · by_cases e : v.n = x.n
      · have ex := nb_inj hN hv hx e
        subst ex
        obtain ⟨k1, k2⟩ := rec_disk h hv rx hd bv
        refine Or.inr (Or.inl ⟨fun y hy ty => ?_, by rw [k2, sv]⟩)
        obtain ⟨hy, ny⟩ := (o.1 y).mp hy
        have := k1 y hy ty
        have := nv y hy ty
        omega
      · exact Or.inr (Or.inr ⟨v, (o.1 v).mpr ⟨hv, e⟩, rv, dv, bv, sv, fun y hy => nv y ((o.1 y).mp hy).1⟩)
theorem PtI.goneR {em : Nat → Option Nat} {pt : Nat → Nat} (h : PtI ws em pt R) (hN : NbI md ws) (hO : OrI ws) (hx : x ∈ ws) {q : RecT} (hq : x.r = some q) (hd : Rdy ws x) (o : Gone ws ws' x) : PtI ws' em pt q := by
  have rx : isRec x := ⟨q, hq⟩
  intro e he
  obtain ⟨h1, h2, h3⟩ := h e he
  refine ⟨?_, fun w q' hw hq' => ?_, fun y hy ry ty => ?_⟩
  · rcases h2 x q hx hq with h4 | ⟨v, hv, rv, ev, lt⟩
    · exact Or.inl h4
    · exact Or.inr ⟨v, (o.1 v).mpr ⟨hv, by omega⟩, rv, ev⟩
  · obtain ⟨hw, nw⟩ := (o.1 w).mp hw
    have hle := first_rec hO hx rx hd hw ⟨q', hq'⟩
    rcases h2 w q' hw hq' with h4 | ⟨v, hv, rv, ev, lt⟩
    · exact Or.inl h4
    · exact Or.inr ⟨v, (o.1 v).mpr ⟨hv, by omega⟩, rv, ev, lt⟩
  · obtain ⟨hy, ny⟩ := (o.1 y).mp hy
    rcases h3 y hy ry ty with h4 | ⟨v, hv, rv, ev, dv⟩
    · exact Or.inl h4
    · refine Or.inr ⟨v, (o.1 v).mpr ⟨hv, fun c => ?_⟩, rv, ev, dv⟩
      rw [nb_inj hN hv hx c] at dv
      exact no_d hd hy dv
theorem GhI.goneR (h : GhI ws R g S) (hx : x ∈ ws) {q : RecT} (hq : x.r = some q) (o : Gone ws ws' x) : GhI ws' q x.g x.S := ⟨h.2 x q hx hq, fun w q hw hq => h.2 w q ((o.1 w).mp hw).1 hq⟩
theorem LtI.goneR {la : RecT} {lw : Option Nat} {tb : TbT} (h : LtI ws R g la lw tb) (hN : NbI md ws) (hO : OrI ws) (hx : x ∈ ws) {q : RecT} (hq : x.r = some q) (hd : Rdy ws x) (o : Gone ws ws' x) : LtI ws' q x.g la lw tb := by
  have rx : isRec x := ⟨q, hq⟩
  obtain ⟨h1, h2, h3⟩ := h
  refine ⟨fun w hw rw_ mw => ?_, fun hno => ?_, fun w hw => h3 w ((o.1 w).mp hw).1⟩
  · obtain ⟨hw, nw⟩ := (o.1 w).mp hw
    refine h1 w hw rw_ (fun v hv rv => ?_)
    by_cases e : v.n = x.n
    · have := first_rec hO hx rx hd hw rw_
      omega
    · exact mw v ((o.1 v).mpr ⟨hv, e⟩) rv
  · have hall : ∀ v, v ∈ ws → isRec v → v.n ≤ x.n := by
      intro v hv rv
      by_cases e : v.n = x.n
      · omega
      · exact absurd rv (hno v ((o.1 v).mpr ⟨hv, e⟩))
    obtain ⟨_, g2, g3⟩ := h1 x hx rx hall
    rw [hq] at g2
    cases g2
    exact ⟨rfl, g3⟩
end
