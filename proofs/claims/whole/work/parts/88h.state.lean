/-! the state of the store, and what each call does -/
def Ms : Type := ((Nat → Nat → Nat) × RecT × Option RecT × TbT × (Nat → Nat → Nat)) × (List Wm × Nat) × (List Nat × Nat) × ((Nat → Nat) × Option Nat) × ((Nat → Option Nat) × TbT) × (List Nat × List Nat) × ((Nat → Option Nat) × (Nat → Bool)) × (RecT × Option Nat × Nat × Nat × Bool)
def msk (D : (Nat → Nat → Nat) × RecT × Option RecT × TbT × (Nat → Nat → Nat)) (Q : List Wm × Nat) (C : List Nat × Nat) (L : (Nat → Nat) × Option Nat) (I : (Nat → Option Nat) × TbT) (T : List Nat × List Nat) (E : (Nat → Option Nat) × (Nat → Bool)) (F : RecT × Option Nat × Nat × Nat × Bool) : Ms := (D, Q, C, L, I, T, E, F)
def Ms.D (s : Ms) : (Nat → Nat → Nat) × RecT × Option RecT × TbT × (Nat → Nat → Nat) := s.1
def Ms.Q (s : Ms) : List Wm × Nat := s.2.1
def Ms.C (s : Ms) : List Nat × Nat := s.2.2.1
def Ms.L (s : Ms) : (Nat → Nat) × Option Nat := s.2.2.2.1
def Ms.I (s : Ms) : (Nat → Option Nat) × TbT := s.2.2.2.2.1
def Ms.T (s : Ms) : List Nat × List Nat := s.2.2.2.2.2.1
def Ms.E (s : Ms) : (Nat → Option Nat) × (Nat → Bool) := s.2.2.2.2.2.2.1
def Ms.F (s : Ms) : RecT × Option Nat × Nat × Nat × Bool := s.2.2.2.2.2.2.2
def Ms.dk (s : Ms) : Nat → Nat → Nat := s.D.1
def Ms.s0 (s : Ms) : RecT := s.D.2.1
def Ms.s1 (s : Ms) : Option RecT := s.D.2.2.1
def Ms.g0 (s : Ms) : TbT := s.D.2.2.2.1
def Ms.S0 (s : Ms) : Nat → Nat → Nat := s.D.2.2.2.2
def Ms.ws (s : Ms) : List Wm := s.Q.1
def Ms.md (s : Ms) : Nat := s.Q.2
def Ms.pt (s : Ms) : Nat → Nat := s.L.1
def Ms.op (s : Ms) : Option Nat := s.L.2
def Ms.ch (s : Ms) : Nat → Option Nat := s.I.1
def Ms.tb (s : Ms) : TbT := s.I.2
def Ms.tp (s : Ms) : List Nat := s.T.1
def Ms.ou (s : Ms) : List Nat := s.T.2
def Ms.em (s : Ms) : Nat → Option Nat := s.E.1
def Ms.lo (s : Ms) : Nat → Bool := s.E.2
def Ms.la (s : Ms) : RecT := s.F.1
def Ms.lw (s : Ms) : Option Nat := s.F.2.1
def Ms.st (s : Ms) : Nat := s.F.2.2.1
def Ms.mu (s : Ms) : Nat := s.F.2.2.2.1
def Ms.off (s : Ms) : Bool := s.F.2.2.2.2
/-- the latest record on the disk -/
def latR (s0 : RecT) (s1 : Option RecT) : RecT := match s1 with
  | some q => if s0.1 < q.1 then q else s0
  | none => s0
def Ms.R (s : Ms) : RecT := latR s.s0 s.s1
def Ms.V (s : Ms) : Nat → Nat → Nat := vw s.dk s.ws
/-! the cache -/
def usM (ws : List Wm) (C : List Nat × Nat) (b : Nat) : List Nat × Nat := if ws.any (fun x => x.t == b) then C else (cuL C.1 b, C.2 + cuR C.1 b)
def usC (ws : List Wm) (C : List Nat × Nat) (p : Nat) : Nat → List Nat × Nat
  | 0 => C
  | n + 1 => usM ws (usC ws C p n) (p + n)
/-! chunks, tables, records -/
def mkC (kind key : Nat) (ct : List Nat) (e : Nat) (s : Ms) : Ms := msk s.D (s.ws ++ nwM s.ws s.md (16 * e + s.pt e) (chL kind key ct s.st) (s.em e) (fun _ => false) ((ct.length + 23) / 16), s.md + (ct.length + 23) / 16) s.C (upn s.pt e (s.pt e + (ct.length + 23) / 16), some e) s.I s.T s.E (s.la, s.lw, s.st + 1, s.mu, s.off)
def sCh (k p : Nat) (s : Ms) : Ms := msk s.D s.Q s.C s.L (ups s.ch k (some p), s.tb) s.T s.E s.F
def sMu (s : Ms) : Ms := msk s.D s.Q s.C s.L s.I s.T s.E (s.la, s.lw, s.st, s.mu + 1, s.off)
def sC (C : List Nat × Nat) (s : Ms) : Ms := msk s.D s.Q C s.L s.I s.T s.E s.F
def sT (T : List Nat × List Nat) (s : Ms) : Ms := msk s.D s.Q s.C s.L s.I T s.E s.F
def tbB (mg : Bool) (s : Ms) : Nat := ((tbL (frS mg s.ch s.tb)).length + 23) / 16
def tbWs (mg : Bool) (e : Nat) (s : Ms) : List Wm := s.ws ++ nwM s.ws s.md (16 * e + s.pt e) (chL 2 0 (tbL (frS mg s.ch s.tb)) s.st) (s.em e) (tieD s.ws (vw s.dk (s.ws ++ nwM s.ws s.md (16 * e + s.pt e) (chL 2 0 (tbL (frS mg s.ch s.tb)) s.st) (s.em e) (fun _ => false) (tbB mg s))) (frS mg s.ch s.tb)) (tbB mg s)
def mkTb (mg : Bool) (e : Nat) (s : Ms) : Ms := msk s.D (tbWs mg e s, s.md + tbB mg s) s.C (upn s.pt e (s.pt e + tbB mg s), some e) (nn, (16 * e + s.pt e, frS mg s.ch s.tb) :: s.tb.take (adN mg s.tb)) s.T s.E (s.la, s.lw, s.st + 1, s.mu, s.off)
def sEm (e0 : Option Nat) (s : Ms) : Ms := msk s.D s.Q s.C (ptU s.pt e0, s.op) s.I s.T s.E s.F
/-- the record of how all is now -/
def nwR (s : Ms) : RecT := (s.la.1 + 1, s.mu, s.st, s.pt, s.tb.map Prod.fst)
def mkR (own : Nat) (e0 : Option Nat) (s : Ms) : Ms := msk s.D (s.ws ++ [wmk s.md (128 + (s.la.1 + 1) % 2) (some (nwR s)) (fun _ => 0) (rdD s.ws s.lw own e0) s.tb (vw s.dk s.ws)], s.md + 1) s.C s.L s.I s.T (emU s.em e0 s.md, s.lo) (nwR s, some s.md, s.st, s.mu, s.off)
/-! the calls -/
def idx (x : Int32) (n : Nat) : Option Nat := if 0 ≤ x.toInt ∧ x.toInt < n then some x.toInt.toNat else none
def fdB (a : Int32) : List Nat := [byI a 24, byI a 16, byI a 8, byI a 0]
def mFeed (a b c d e : Int32) (s : Ms) : Int32 × Ms := if 200 < s.tp.length + 20 then (-1, s) else (nI (s.tp.length + 20), sT (s.tp ++ (fdB a ++ fdB b ++ fdB c ++ fdB d ++ fdB e), s.ou) s)
def mPut (key n : Int32) (s : Ms) : Int32 × Ms := match keyOf key with
  | none => (-1, s)
  | some k => if s.off = true ∨ n.toInt < 0 ∨ 100 < n.toInt ∨ (s.tp.length : Int) < n.toInt then (-1, s) else
    match tkE s.pt s.op ((n.toInt.toNat + 23) / 16) 3 with
    | none => (-2, sT ([], s.ou) s)
    | some e => if 120 < s.ws.length + (n.toInt.toNat + 23) / 16 then (-3, sT ([], s.ou) s) else (nI (s.mu + 1), sMu (sCh k (16 * e + s.pt e) (mkC 1 k (s.tp.take n.toInt.toNat) e (sT ([], s.ou) s))))
def mDel (key : Int32) (s : Ms) : Int32 × Ms := match keyOf key with
  | none => (-1, s)
  | some k => if s.off = true ∨ plO s.ch s.tb (some k) = none then (-1, s) else (nI (s.mu + 1), sMu (sCh k 255 s))
def mGet (key : Int32) (s : Ms) : Int32 × Ms := if s.off = true then (-1, s) else match plO s.ch s.tb (keyOf key) with
  | none => (-1, s)
  | some p => (nI (lnS s.V p), sT (s.tp, ctS s.V p (lnS s.V p)) (sC (usC s.ws s.C p (nbS s.V p)) s))
def mOct (i : Int32) (s : Ms) : Int32 × Ms := match idx i s.ou.length with
  | some j => (nI ((s.ou[j]?).getD 0), s)
  | none => (-1, s)
def mList (k : Int32) (s : Ms) : Int32 × Ms := if s.off = true ∨ k.toInt < 0 then (-1, s) else (oI (rpF (hasK s.ch s.tb) k 0 48), s)
def chN (s : Ms) : Nat := cnt (fun k => (s.ch k).isSome) 48
def mFlush (s : Ms) : Int32 × Ms := if s.off = true then (-1, s) else if chN s = 0 then (0, s) else
  match tkE s.pt s.op (tbB (decide (3 ≤ s.tb.length)) s) 1 with
  | none => (-2, s)
  | some e => if 120 < s.ws.length + tbB (decide (3 ≤ s.tb.length)) s + 1 then (-3, s) else (1, mkR (tbB (decide (3 ≤ s.tb.length)) s) none (sEm none (mkTb (decide (3 ≤ s.tb.length)) e s)))
/-- the keys of the live objects of an extent, by their blocks -/
def mvK (e : Nat) (s : Ms) : List Nat := (List.range 16).filterMap (fun b => fst_ (isAt s.ch s.tb (16 * e + b)) 0 48)
def plK (s : Ms) (k : Nat) : Nat := (plO s.ch s.tb (some k)).getD 0
def mvI (e : Nat) (s : Ms) : List (Nat × List Nat) := (mvK e s).map (fun k => (k, ctS s.V (plK s k) (lnS s.V (plK s k))))
def mvC (s : Ms) : List Nat → List Nat × Nat → List Nat × Nat
  | [], C => C
  | k :: l, C => mvC s l (usC s.ws C (plK s k) (nbS s.V (plK s k)))
def mvO : List (Nat × List Nat) → Ms → Option Ms
  | [], s => some s
  | z :: l, s => match tkE s.pt s.op ((z.2.length + 23) / 16) 1 with
    | none => none
    | some e => mvO l (sCh z.1 (16 * e + s.pt e) (mkC 1 z.1 z.2 e s))
def mReT (e : Nat) (s s1 s2 : Ms) : Int32 × Ms := if (mvK e s).length ≠ 0 ∨ chN s ≠ 0 ∨ tabIn s.tb e = true then
    match tkE s2.pt s2.op (tbB true s2) 1 with
    | none => (-2, s1)
    | some e2 => if 120 < s2.ws.length + tbB true s2 + 1 then (-3, s1) else (nI (mvK e s).length, mkR (tbB true s2) (some e) (sEm (some e) (mkTb true e2 s2)))
  else if 120 < s2.ws.length + 1 then (-3, s1) else (nI (mvK e s).length, mkR 0 (some e) (sEm (some e) s2))
def mReO (e : Nat) (s s1 : Ms) : Int32 × Ms := match mvO (mvI e s) s1 with
  | none => (-2, s1)
  | some s2 => mReT e s s1 s2
def mRecl (x : Int32) (s : Ms) : Int32 × Ms := match idx x 8 with
  | none => (-1, s)
  | some e => if s.off = true ∨ s.op = some e ∨ s.pt e = 0 then (-1, s) else mReO e s (sC (mvC s (mvK e s) s.C) s)
def mPoll (h : Int32) (s : Ms) : Int32 × Ms := if h.toInt < 1 ∨ (s.mu : Int) < h.toInt then (-1, s) else if s.lo h.toInt.toNat = true then (2, s) else if h.toInt ≤ s.R.2.1 then (1, s) else (0, s)
/-! the disk's turn -/
def lfM (ws : List Wm) (w : Wm) : Nat := (ws.filter (fun v => w.d v.n)).length
def rdM (ws : List Wm) (i : Nat) : Bool := match ws[i]? with
  | some w => lfM ws w == 0
  | none => false
def slU (s0 : RecT) (s1 : Option RecT) (q : RecT) : RecT × Option RecT := if q.1 % 2 = 0 then (q, s1) else (s0, some q)
def ldB (i : Nat) (x : Wm) (s : Ms) : Ms := msk (dkU s.dk x.t x.y, s.s0, s.s1, s.g0, s.S0) (s.ws.eraseIdx i, s.md) s.C s.L s.I s.T s.E s.F
def ldR (i : Nat) (x : Wm) (q : RecT) (s : Ms) : Ms := msk (s.dk, (slU s.s0 s.s1 q).1, (slU s.s0 s.s1 q).2, x.g, x.S) (s.ws.eraseIdx i, s.md) s.C s.L s.I s.T s.E s.F
def ldX (i : Nat) (x : Wm) (s : Ms) : Option RecT → Ms
  | none => ldB i x s
  | some q => ldR i x q s
def landM (i : Nat) (s : Ms) : Ms := match s.ws[i]? with
  | none => s
  | some x => ldX i x s x.r
theorem landM_B {i : Nat} {x : Wm} {s : Ms} (h : s.ws[i]? = some x) (hr : x.r = none) : landM i s = ldB i x s := by
  unfold landM
  rw [h]
  show ldX i x s x.r = _
  rw [hr]
  rfl
theorem landM_R {i : Nat} {x : Wm} {q : RecT} {s : Ms} (h : s.ws[i]? = some x) (hr : x.r = some q) : landM i s = ldR i x q s := by
  unfold landM
  rw [h]
  show ldX i x s x.r = _
  rw [hr]
  rfl
def nuM (s : Ms) (i : Nat) : Int32 := match s.ws[i]? with
  | some x => nI x.n
  | none => -1
def mIss (k : Int32) (s : Ms) : Int32 × Ms := match rpF (rdM s.ws) k 0 s.ws.length with
  | none => (-1, s)
  | some i => (nuM s i, landM i s)
def stN : Nat → Ms → Ms
  | 0, s => s
  | n + 1, s => stN n (landM 0 s)
def mSet (n : Int32) (s : Ms) : Int32 × Ms := if n.toInt < 0 ∨ 200 < n.toInt then (-1, s) else (nI (min n.toInt.toNat s.ws.length), stN (min n.toInt.toNat s.ws.length) s)
def mCra (s : Ms) : Int32 × Ms := if s.off = true then (-1, s) else (nI s.ws.length, msk s.D ([], s.md) ([], s.C.2) s.L s.I s.T (s.em, fun h => s.lo h || (decide (s.R.2.1 < h) && decide (h ≤ s.mu))) (s.la, s.lw, s.st, s.mu, true))
def rcC (s : Ms) : List Nat → List Nat × Nat → List Nat × Nat
  | [], C => C
  | p :: l, C => rcC s l (usC [] C p (nbS s.dk p))
def mRec (s : Ms) : Int32 × Ms := if s.off = false then (-1, s) else (nI (cnt (hasK nn s.g0) 48), msk s.D s.Q (rcC s s.R.2.2.2.2 s.C) (s.R.2.2.2.1, none) (nn, s.g0) s.T ((fun _ => none), s.lo) (s.R, none, s.R.2.2.1, s.mu, false))
/-! looking in -/
def mAbo (x : Int32) (s : Ms) : Int32 × Ms := (if x = 0 then nI s.mu else if x = 5 then nI s.C.2 else if x = 7 then nI s.R.2.1 else if x = 11 then (if s.off then 1 else 0) else if s.off then (if 1 ≤ x.toInt ∧ x.toInt ≤ 10 ∧ x ≠ 4 then 0 else -1) else if x = 1 then nI s.ws.length else if x = 2 then nI (cnt (rdM s.ws) s.ws.length) else if x = 3 then nI (cnt (emE s.pt s.op) 8) else if x = 4 then oI s.op else if x = 6 then nI s.la.1 else if x = 8 then nI s.tb.length else if x = 9 then nI (chN s) else if x = 10 then nI s.st else -1, s)
def wai (x : Int32) (ws : List Wm) (o : Option Wm) : Int32 := match o with
  | some w => if x = 0 then nI w.n else if x = 1 then nI w.t else if x = 2 then nI (lfM ws w) else -1
  | none => -1
def mWai (k x : Int32) (s : Ms) : Int32 × Ms := (wai x s.ws ((idx k s.ws.length).bind (fun j => s.ws[j]?)), s)
def lvB (s : Ms) (b : Nat) : Bool := mkB s.V (fun k => plO s.ch s.tb (some k)) b || s.tb.any (fun z => decide (z.1 ≤ b) && decide (b < z.1 + nbS s.V z.1))
def exN (x : Int32) (s : Ms) (j : Nat) : Int32 := if x = 0 then nI (s.pt j) else if x = 1 then nI (cnt (fun i => lvB s (16 * j + i)) 16) else -1
def mExt (e x : Int32) (s : Ms) : Int32 × Ms := (match idx e 8 with
  | none => -1
  | some j => if s.off = true then -1 else exN x s j, s)
def mDis (e b i : Int32) (s : Ms) : Int32 × Ms := match idx e 8, idx b 16, idx i 16 with
  | some e, some b, some i => (nI (s.dk (16 * e + b) i), s)
  | _, _, _ => (-1, s)
def tlI (y : Int32) (q : RecT) : Int32 := match idx y 18 with
  | some j => tellR q j
  | none => -1
def tlO (y : Int32) (o : Option RecT) : Int32 := match o with
  | some q => tlI y q
  | none => -1
def mRcd (x y : Int32) (s : Ms) : Int32 × Ms := (if x = 0 then tlI y s.s0 else if x = 1 then tlO y s.s1 else -1, s)
/-! at first -/
def r00 : RecT := (0, 0, 0, fun _ => 0, [])
def ms0 : Ms := msk ((fun _ _ => 0), r00, none, [], fun _ _ => 0) ([], 0) ([], 0) ((fun _ => 0), none) (nn, []) ([], []) ((fun _ => none), fun _ => false) (r00, none, 0, 0, false)
