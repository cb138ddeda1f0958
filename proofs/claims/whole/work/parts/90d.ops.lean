/-! the class's own steps, on the mathematical state -/
def WI (s : Ms) : Prop := NbI s.md s.ws ∧ BtI s.dk s.ws
theorem IvS.wi {c : Nat} {s : Ms} (h : IvS c s) : WI s := ⟨h.nb, h.bt⟩
theorem WI.obj {s : Ms} (h : WI s) {kind key e : Nat} {ct : List Nat} (he : e < 8) (hn : s.pt e + (ct.length + 23) / 16 ≤ 16) (h1 : kind < 256) (h2 : key < 256) (h3 : ∀ v ∈ ct, v < 256) (h4 : ct.length < 256) : WI (mkC kind key ct e s) := by
  have c : NwC s.ws (nwM s.ws s.md (16 * e + s.pt e) (chL kind key ct s.st) (s.em e) (fun _ => false) ((ct.length + 23) / 16)) s.md (s.md + (ct.length + 23) / 16) e (s.pt e) ((ct.length + 23) / 16) s.em := nwM_c (fun n hn => by cases hn)
  exact ⟨h.1.add c he hn, nwM_bt h.2 (chL_lt h1 h2 h3 h4)⟩
theorem WI.tab {s : Ms} (h : WI s) {mg : Bool} {e : Nat} (he : e < 8) (hn : s.pt e + tbB mg s ≤ 16) (hf : spOK (frS mg s.ch s.tb)) : WI (mkTb mg e s) := by
  have c : NwC s.ws (nwM s.ws s.md (16 * e + s.pt e) (chL 2 0 (tbL (frS mg s.ch s.tb)) s.st) (s.em e) (tieD s.ws (vw s.dk (s.ws ++ nwM s.ws s.md (16 * e + s.pt e) (chL 2 0 (tbL (frS mg s.ch s.tb)) s.st) (s.em e) (fun _ => false) (tbB mg s))) (frS mg s.ch s.tb)) (tbB mg s)) s.md (s.md + tbB mg s) e (s.pt e) (tbB mg s) s.em := nwM_c (fun n hn => by
    obtain ⟨v, hv, ev, _⟩ := tieD_iff.mp hn
    exact ⟨v, hv, ev⟩)
  have hl := tbL_len (frS mg s.ch s.tb)
  have hl2 := nE_le (frS mg s.ch s.tb) 48
  exact ⟨h.1.add c he hn, nwM_bt h.2 (chL_lt (by omega) (by omega) (tbL_lt hf) (by omega))⟩
/-- makeChunk of an object, the body being filled -/
theorem c52 {d : Nat} {M : Mm} {k : mQ} {b kind key l e : Nat} {s : Ms} {ct : List Nat} (h : CM M b s) (hw : WI s) (hb : BC M (b + 271) (b + 272) 255 (ct.map nI)) (hct : ∀ v ∈ ct, v < 256) (h1 : kind < 256) (h2 : key < 256) (hst : s.st + 1 < 1000000) (hl : 1 ≤ l ∧ l < 100) (he : tkE s.pt s.op ((ct.length + 23) / 16) l = some e) (he2 : e < 8 ∧ s.pt e + (ct.length + 23) / 16 ≤ 16) (hn : s.ws.length + (ct.length + 23) / 16 ≤ 120) (hmd : s.md + (ct.length + 23) / 16 < 1000000)
    (hk : ∀ M', CM M' b (mkC kind key ct e s) → Of (PM b) M M' → k (some (.inl (nI (16 * e + s.pt e)))) M') : XC (d + 5) 52 [.inr (some b), .inl (nI kind), .inl (nI key), .inl (nI l)] M k := by
  obtain ⟨D, pm, ws, im, G, a, h, r⟩ := h
  have hlen := r.2.2.2.1.1
  refine k52 (Q := (pm, s.md, ws)) h hb hct h1 h2 hst hl he he2 (by show ws.length + _ ≤ 120; rw [hlen]; exact hn) hmd (fun M' h' o' => hk M' ?_ o')
  exact ⟨D, pm, _, im, G, a, h', r.1, r.2.1, r.2.2.1, r.2.2.2.1.chunk hw.1, r.2.2.2.2⟩
/-- makeTable -/
theorem c68 {d : Nat} {M : Mm} {k : mQ} {b e : Nat} {s : Ms} {mg : Bool} (h : CM M b s) (hw : WI s) (hst : s.st + 1 < 1000000) (he : tkE s.pt s.op (tbB mg s) 1 = some e) (he2 : e < 8 ∧ s.pt e + tbB mg s ≤ 16) (hn : s.ws.length + tbB mg s ≤ 120) (hmd : s.md + tbB mg s < 1000000)
    (hk : ∀ M', CM M' b (mkTb mg e s) → Of (PT b) M M' → k (some (.inl (nI (tbB mg s)))) M') : XC (d + 7) 68 [.inr (some b), .inl (bI mg)] M k := by
  obtain ⟨D, pm, ws, im, G, a, h, r⟩ := h
  have hlen := r.2.2.2.1.1
  have hf : spOK (frS mg s.ch s.tb) := frS_ok h.2.2.2.2.2.1 mg
  have hl := tbL_len (frS mg s.ch s.tb)
  have hl2 := nE_le (frS mg s.ch s.tb) 48
  refine k68 (Q := (pm, s.md, ws)) (I := (im, s.I)) h (r.2.2.2.1.okW_ hw.1 hw.2) hst he he2 (by show ws.length + _ ≤ 120; rw [hlen]; exact hn) hmd (fun M' h' o' => hk M' ?_ o')
  have c : NwC s.ws (nwM s.ws s.md (16 * e + s.pt e) (chL 2 0 (tbL (frS mg s.ch s.tb)) s.st) (s.em e) (fun _ => false) (tbB mg s)) s.md (s.md + tbB mg s) e (s.pt e) (tbB mg s) s.em := nwM_c (fun n hn => by cases hn)
  have hBt : BtI s.dk (s.ws ++ nwM s.ws s.md (16 * e + s.pt e) (chL 2 0 (tbL (frS mg s.ch s.tb)) s.st) (s.em e) (fun _ => false) (tbB mg s)) := nwM_bt hw.2 (chL_lt (by omega) (by omega) (tbL_lt hf) (by omega))
  refine ⟨D, pm, _, _, G, a, h', r.1, r.2.1, r.2.2.1, ?_, r.2.2.2.2⟩
  exact RW.tie_ (r.2.2.2.1.chunk hw.1) r.2.2.2.1 hw.1 (hw.1.add c he2.1 he2.2) hBt r.1 (fun k p hk hp => noG_lt (fun q hq => hf k q hk hq) hp)
/-- the record without the note of who emptied -/
def mkRn (own : Nat) (e0 : Option Nat) (s : Ms) : Ms := msk s.D (s.ws ++ [wmk s.md (128 + (s.la.1 + 1) % 2) (some (nwR s)) (fun _ => 0) (rdD s.ws s.lw own e0) s.tb (vw s.dk s.ws)], s.md + 1) s.C s.L s.I s.T s.E (nwR s, some s.md, s.st, s.mu, s.off)
theorem mkR_n (own : Nat) (s : Ms) : mkR own none s = mkRn own none s := rfl
theorem c78 {d : Nat} {M : Mm} {k : mQ} {b own : Nat} {s : Ms} {e0 : Option Nat} (h : CM M b s) (hw : WI s) (hz : b + 303 ≤ M.sz) (hown : own ≤ s.ws.length) (hn : s.ws.length < 120) (hm : s.md + 1 < 1000000) (he0 : ∀ e, e0 = some e → e < 8) (hr : s.la.1 + 1 < 100000) (hlw : ∀ n, s.lw = some n → n < s.md)
    (hk : ∀ (M' : Mm), CM M' b (mkRn own e0 s) → M'.sz = M.sz + 3 → M'.sl ≤ M.sl + 16 → Ag (fun y => y < M.sz ∧ ¬ (y = b ∨ PQ (b + 7) y)) M M' → k none M') : XC (d + 3) 78 [.inr (some b), .inl (nI own), .inl (oI e0)] M k := by
  obtain ⟨D, pm, ws, im, G, a, h, r⟩ := h
  have hlen := r.2.2.2.1.1
  have ea : G a = s.la := r.2.2.2.2
  have hq : rcN s.L (im, s.I) (G, a, s.F.2) = nwR s := by
    show ((G a).1 + 1, s.mu, s.st, s.pt, s.tb.map Prod.fst) = (s.la.1 + 1, s.mu, s.st, s.pt, s.tb.map Prod.fst)
    rw [ea]
  refine k78 (Q := (pm, s.md, ws)) (I := (im, s.I)) (F := (G, a, s.F.2)) h hz (by show own ≤ ws.length; rw [hlen]; exact hown) (by show ws.length < 120; rw [hlen]; exact hn) hm he0 (by show (G a).1 + 1 < 100000; rw [ea]; exact hr) hlw (fun M' by_ h' z' l' g' => hk M' ?_ z' (by have : s.tb.length ≤ 3 := h.2.2.2.2.2.1.2.2.2.1; have l'' : M'.sl = M.sl + (13 + s.tb.length) := l'; omega) g')
  rw [hq] at h'
  have hgU : ∀ y, y + 3 ≤ M.sz → gU G M.sz (nwR s) y = G y := fun y hy => by unfold gU; rw [if_neg (by omega)]
  have hD := h.2.1
  refine ⟨D, pm, _, im, gU G M.sz (nwR s), M.sz, h', r.1, ?_, ?_, ?_, ?_⟩
  · rw [hgU _ hD.2.2.2.1.2.2]; exact r.2.1
  · show Option.map (gU G M.sz (nwR s)) D.2.2 = s.s1
    rw [← r.2.2.1]
    cases hd : D.2.2 with
    | none => rfl
    | some a1 => show some _ = some _; rw [hgU _ (hD.2.2.2.2 a1 hd).2.2]
  · have hRW := r.2.2.2.1.congrG (G2 := gU G M.sz (nwR s)) (fun k x a1 hx ha => hgU _ (h.2.2.1.2 k x a1 hx ha).2.2)
    exact hRW.rec_ hw.1 (show gU G M.sz (nwR s) M.sz = nwR s by unfold gU; rw [if_pos rfl]) (fun s => rfl)
  · show gU G M.sz (nwR s) M.sz = nwR s
    unfold gU
    rw [if_pos rfl]
