section
variable {dk : Nat → Nat → Nat} {ws ws2 : List Wm} {md : Nat} {R la : RecT} {g tb : TbT} {S : Nat → Nat → Nat} {em : Nat → Option Nat} {pt : Nat → Nat} {ch : Nat → Option Nat} {lw : Option Nat}
/-- the record without a table: nothing has changed -/
theorem CoI.rec0 {e0 mu st : Nat} {y : Nat → Nat} (h : CoI dk ws md R g S em pt ch tb la lw) (hc : ∀ k, k < 48 → ch k = none) (hE : ∀ p, Lv ch tb p → p / 16 ≠ e0) :
    CoI dk (ws ++ [wmk md (128 + (la.1 + 1) % 2) (some (la.1 + 1, mu, st, upn pt e0 0, tb.map Prod.fst)) y (rdD ws lw 0 (some e0)) tb (vw dk ws)]) (md + 1) R g S (ups em e0 (some md)) (upn pt e0 0) ch tb (la.1 + 1, mu, st, upn pt e0 0, tb.map Prod.fst) (some md) := by
  have hpl : ∀ k, k < 48 → plO nn tb (some k) = plO ch tb (some k) := by
    intro k hk
    unfold plO lkS
    show noG (orO none _) = noG (orO (ch k) _)
    rw [hc k hk]
  have hL : ∀ p, Lv nn tb p → Lv ch tb p := by
    intro p hp
    rcases hp with ⟨k, hk, hp⟩ | hp
    · exact Or.inl ⟨k, hk, by rw [← hpl k hk]; exact hp⟩
    · exact Or.inr hp
  have hW1 : WFS (upn pt e0 0) ch tb (vw dk ws) := h.2.2.2.1.emptied hE
  have hW : WFS (upn pt e0 0) nn tb (vw dk ws) := hW1.sub (fun k p _ hp => (by cases hp)) (fun k p hk hp => by rw [← hpl k hk]; exact hp) hW1.2.2.1 (fun z hz => hz)
  have h' := h
  obtain ⟨h0, h6, h7, h8, h9, h10⟩ := h'
  refine CoI.mkRec (e0 := some e0) (tbo := tb) ⟨h0, h6, h7, h9, h10⟩ ⟨⟨rfl, rfl, rfl, rfl, rfl⟩, fun n hd => ?_, fun v hv rv mv => ?_, fun b hb => ?_⟩ hW hW1 rfl rfl rfl (fun e x he hx rx tx => ?_)
  · have hd : rdD ws lw 0 (some e0) n = true := hd
    rcases rdD_iff.mp hd with hd | ⟨v, hv, ev⟩ | ⟨e, v, _, hv, ev, _⟩
    · exact hd.2
    · exact ⟨v, List.mem_of_mem_drop hv, ev⟩
    · exact ⟨v, hv, ev⟩
  · show rdD ws lw 0 (some e0) v.n = true
    exact rdD_iff.mpr (Or.inl ⟨(h7.1 v hv rv mv).1, v, hv, rfl⟩)
  · rcases h.inh hb with hno | ⟨v, hv, rv, lv, bv, sv, nv⟩
    · exact Or.inr (Or.inl hno)
    · exact Or.inr (Or.inr ⟨v, hv, rv, (rdD_iff (own := 0) (e0 := some e0)).mpr (Or.inl ⟨lv, v, hv, rfl⟩), bv, sv, nv⟩)
  · refine rdD_iff.mpr (Or.inr (Or.inr ⟨e, x, he, hx, rfl, ?_, tx⟩))
    exact (h0.1.2 x hx).2.2.1 rx
theorem nwM_len {p nb : Nat} {cl : List Nat} {o : Option Nat} {f : Nat → Bool} : (nwM ws md p cl o f nb).length = nb := by
  unfold nwM
  rw [List.length_map, List.length_range]
theorem drop_own {p nb : Nat} {cl : List Nat} {o : Option Nat} {f : Nat → Bool} : (ws ++ nwM ws md p cl o f nb).drop ((ws ++ nwM ws md p cl o f nb).length - nb) = nwM ws md p cl o f nb := by
  rw [List.length_append, nwM_len, Nat.add_sub_cancel, List.drop_left]
/-- a table is made, then the record with it -/
theorem CoI.tabRec {mg : Bool} {e mu st st2 : Nat} {y : Nat → Nat} {e0 : Option Nat} (h : CoI dk ws md R g S em pt ch tb la lw) (he : e < 8) (hn : pt e + ((tbL (frS mg ch tb)).length + 23) / 16 ≤ 16) (hm : mg = false → tb.length < 3)
    (hE : ∀ x, e0 = some x → mg = true ∧ x ≠ e ∧ ∀ k p, k < 48 → plO ch tb (some k) = some p → p / 16 ≠ x) (ws1 : List Wm) (hws1 : ws1 = ws ++ nwM ws md (16 * e + pt e) (chL 2 0 (tbL (frS mg ch tb)) st) (em e) (tieD ws (vw dk (ws ++ nwM ws md (16 * e + pt e) (chL 2 0 (tbL (frS mg ch tb)) st) (em e) (fun _ => false) (((tbL (frS mg ch tb)).length + 23) / 16))) (frS mg ch tb)) (((tbL (frS mg ch tb)).length + 23) / 16)) (q : RecT)
    (hq : q = (la.1 + 1, mu, st2, ptU (upn pt e (pt e + ((tbL (frS mg ch tb)).length + 23) / 16)) e0, ((16 * e + pt e, frS mg ch tb) :: tb.take (adN mg tb)).map Prod.fst)) :
    CoI dk (ws1 ++ [wmk (md + ((tbL (frS mg ch tb)).length + 23) / 16) (128 + (la.1 + 1) % 2) (some q) y (rdD ws1 lw (((tbL (frS mg ch tb)).length + 23) / 16) e0) ((16 * e + pt e, frS mg ch tb) :: tb.take (adN mg tb)) (vw dk ws1)]) (md + ((tbL (frS mg ch tb)).length + 23) / 16 + 1) R g S (emU em e0 (md + ((tbL (frS mg ch tb)).length + 23) / 16)) (ptU (upn pt e (pt e + ((tbL (frS mg ch tb)).length + 23) / 16)) e0) nn ((16 * e + pt e, frS mg ch tb) :: tb.take (adN mg tb)) q (some (md + ((tbL (frS mg ch tb)).length + 23) / 16)) := by
  have h' := h
  obtain ⟨⟨h1, h2, h3, h4, h5⟩, h6, h7, h8, h9, h10⟩ := h'
  have hfr : spOK (frS mg ch tb) := by
    intro k p hk hp
    cases mg with
    | true => exact Or.inr (h8.2.2.2.2.1 k p hk hp).1
    | false => exact h8.2.1 k p hk hp
  generalize hfe : frS mg ch tb = fr at *
  generalize hnb : ((tbL fr).length + 23) / 16 = nb at *
  generalize hcl : chL 2 0 (tbL fr) st = cl at *
  have hV : vw dk (ws ++ nwM ws md (16 * e + pt e) cl (em e) (fun _ => false) nb) = vw dk ws1 := by rw [hws1]; exact vw_f _ _
  rw [hV] at hws1
  generalize hf : tieD ws (vw dk ws1) fr = f at *
  have hft : ∀ n, f n = true → ∃ v, v ∈ ws ∧ v.n = n := by
    intro n hn
    rw [← hf] at hn
    obtain ⟨v, hv, ev, _⟩ := tieD_iff.mp hn
    exact ⟨v, hv, ev⟩
  have c : NwC ws (nwM ws md (16 * e + pt e) cl (em e) f nb) md (md + nb) e (pt e) nb em := nwM_c hft
  have hp : 16 * e + pt e < 128 := by have := nbS_pos (fun _ _ => (tbL fr).length) 0; unfold nbS at this; omega
  -- the new list
  have hmem : ∀ x, x ∈ ws1 ↔ x ∈ ws ∨ x ∈ nwM ws md (16 * e + pt e) cl (em e) f nb := by intro x; rw [hws1, List.mem_append]
  have hold : ∀ b, Rch ch tb (vw dk ws) b → (b < 16 * e + pt e ∨ 16 * e + pt e + nb ≤ b) := by
    intro b hb
    have h11 := hb.lt h8
    by_cases c2 : b / 16 = e
    · rw [c2] at h11
      omega
    · omega
  have hVo : ∀ b, Rch ch tb (vw dk ws) b → vw dk ws1 b = vw dk ws b := by
    intro b hb
    rw [hws1]
    exact vw_old (hold b hb)
  have hln : lnS (vw dk ws1) (16 * e + pt e) = (tbL fr).length := by rw [hws1, ← hcl, ← hnb]; exact ln_new
  have hct : ctS (vw dk ws1) (16 * e + pt e) (tbL fr).length = tbL fr := by rw [hws1, ← hcl, ← hnb]; exact ct_new
  have hnbp : nbS (vw dk ws1) (16 * e + pt e) = nb := by
    unfold nbS
    unfold lnS at hln
    rw [hln]
    exact hnb
  have hpl : ∀ k, plO nn ((16 * e + pt e, fr) :: tb.take (adN mg tb)) (some k) = plO ch tb (some k) := by
    intro k
    rw [← hfe]
    exact plO_tab hm k
  have hlen : ((16 * e + pt e, fr) :: tb.take (adN mg tb)).length ≤ 3 := by
    rw [List.length_cons, List.length_take]
    unfold adN
    split <;> omega
  have hW1 : WFS (upn pt e (pt e + nb)) nn ((16 * e + pt e, fr) :: tb.take (adN mg tb)) (vw dk ws1) := by
    refine h8.add (kk := none) he hn hnbp hVo (fun k p _ hp => by cases hp) hlen (fun k p hk hp => ?_) (fun z hz => ?_)
    · rw [hpl k] at hp
      exact Or.inl hp
    · rcases List.mem_cons.mp hz with hz | hz
      · rw [hz]
        exact Or.inr ⟨rfl, hfr, hln, hct⟩
      · exact Or.inl (List.mem_of_mem_take hz)
  have hW : WFS (ptU (upn pt e (pt e + nb)) e0) nn ((16 * e + pt e, fr) :: tb.take (adN mg tb)) (vw dk ws1) := by
    cases e0 with
    | none => exact hW1
    | some x =>
      obtain ⟨k1, k2, k3⟩ := hE x rfl
      refine hW1.emptied (fun p hp c2 => ?_)
      rcases hp with ⟨k, hk, hp⟩ | ⟨z, hz, hp⟩
      · rw [hpl k] at hp
        exact k3 k p hk hp c2
      · have ha : adN mg tb = 0 := by unfold adN; rw [if_pos (Or.inl k1)]
        rw [ha, List.take_zero, List.mem_singleton] at hz
        rw [hz] at hp
        have hp : 16 * e + pt e = p := hp
        have := nbS_pos (vw dk ws1) (16 * e + pt e)
        omega
  have n1 : 1 ≤ nb := by have := nbS_pos (vw dk ws1) (16 * e + pt e); omega
  have hown : ∀ u, u ∈ nwM ws md (16 * e + pt e) cl (em e) f nb → rdD ws1 lw nb e0 u.n = true := by
    intro u hu
    refine rdD_iff.mpr (Or.inr (Or.inl ⟨u, ?_, rfl⟩))
    rw [hws1, drop_own]
    exact hu
  have g0 : NbI (md + nb) ws1 ∧ OrI ws1 ∧ D0I dk ws1 g S ∧ DwI dk ws1 ∧ GhI ws1 R g S := by
    rw [hws1]
    exact ⟨h1.add c he hn, h2.add h6 c he hn h1, h3.add h6 h5 c he hn, h4.add h6 h5 h1 c he hn, h5.add c⟩
  have g6 : PtI ws1 em (upn pt e (pt e + nb)) R := by rw [hws1]; exact h6.add c he hn
  have g7 : LtI ws1 R g la lw tb := by rw [hws1]; exact h7.add h9.1 c
  have g9 : EmI (md + nb) ws1 em lw := by
    refine ⟨fun n hl => by have := h9.1 n hl; omega, fun e' n hl => ?_⟩
    obtain ⟨k1, k2⟩ := h9.2 e' n hl
    refine ⟨by omega, fun w hw ew => ?_⟩
    rcases (hmem w).mp hw with hw | hw
    · exact k2 w hw ew
    · have := (c.2.1 w hw).1
      omega
  have g10 : ChI ws1 R la := by
    unfold ChI
    rw [hws1, List.filterMap_append, fm_no (fun y hy => (c.2.1 y hy).2.1), List.append_nil]
    exact h10
  refine CoI.mkRec (e0 := e0) (tbo := tb) ⟨g0, g6, g7, g9, g10⟩ ⟨⟨rfl, rfl, by rw [hq]; rfl, rfl, rfl⟩, fun n hd => ?_, fun v hv rv mv => ?_, fun b hb => ?_⟩ hW hW (by rw [hq]) (by rw [hq]) (by rw [hq]) (fun e x he hx rx tx => ?_)
  · have hd : rdD ws1 lw nb e0 n = true := hd
    rcases rdD_iff.mp hd with hd | ⟨v, hv, ev⟩ | ⟨e, v, _, hv, ev, _⟩
    · exact hd.2
    · exact ⟨v, List.mem_of_mem_drop hv, ev⟩
    · exact ⟨v, hv, ev⟩
  · exact rdD_iff.mpr (Or.inl ⟨(g7.1 v hv rv mv).1, v, hv, rfl⟩)
  · -- what it names
    have inhC : ∀ q, Lv nn tb q → Lv ch tb q → q ≤ b → b < q + nbS (vw dk ws1) q → (∃ x, x ∈ ws1 ∧ x.t = b ∧ (∀ y, y ∈ ws1 → y.t = b → y.n ≤ x.n) ∧ (rdD ws1 lw nb e0 x.n = true ∨ ∃ u, u ∈ ws1 ∧ rdD ws1 lw nb e0 u.n = true ∧ u.d x.n = true)) ∨ (∀ y, y ∈ ws1 → y.t ≠ b) ∨ ∃ v, v ∈ ws1 ∧ isRec v ∧ rdD ws1 lw nb e0 v.n = true ∧ Rch nn v.g v.S b ∧ v.S b = vw dk ws1 b ∧ ∀ y, y ∈ ws1 → y.t = b → y.n < v.n := by
      intro q hq1 hq2 b1 b2
      have e1 := hVo q hq2.self
      have b3 : b < q + nbS (vw dk ws) q := by unfold nbS at b2 ⊢; rw [← e1]; exact b2
      have hbr : Rch ch tb (vw dk ws) b := ⟨q, hq2, b1, b3⟩
      have hnw : ∀ y, y ∈ nwM ws md (16 * e + pt e) cl (em e) f nb → y.t ≠ b := by
        intro y hy ty
        have k1 := (c.2.1 y hy).2.2.1
        have k2 := hold b hbr
        omega
      rcases h.inh ⟨q, hq1, b1, b3⟩ with hno | ⟨v, hv, rv, lv, bv, sv, nv⟩
      · refine Or.inr (Or.inl (fun y hy => ?_))
        rcases (hmem y).mp hy with hy | hy
        · exact hno y hy
        · exact hnw y hy
      · refine Or.inr (Or.inr ⟨v, (hmem v).mpr (Or.inl hv), rv, rdD_iff.mpr (Or.inl ⟨lv, v, (hmem v).mpr (Or.inl hv), rfl⟩), bv, by rw [sv, hVo b hbr], fun y hy ty => ?_⟩)
        rcases (hmem y).mp hy with hy | hy
        · exact nv y hy ty
        · exact (hnw y hy ty).elim
    obtain ⟨qq, hL, b1, b2⟩ := hb
    show (∃ x, x ∈ ws1 ∧ x.t = b ∧ (∀ y, y ∈ ws1 → y.t = b → y.n ≤ x.n) ∧ (rdD ws1 lw nb e0 x.n = true ∨ ∃ u, u ∈ ws1 ∧ rdD ws1 lw nb e0 u.n = true ∧ u.d x.n = true)) ∨ (∀ y, y ∈ ws1 → y.t ≠ b) ∨ ∃ v, v ∈ ws1 ∧ isRec v ∧ rdD ws1 lw nb e0 v.n = true ∧ Rch nn v.g v.S b ∧ v.S b = vw dk ws1 b ∧ ∀ y, y ∈ ws1 → y.t = b → y.n < v.n
    rcases hL with ⟨k, hk, hp2⟩ | ⟨z, hz, hp2⟩
    · rw [hpl k] at hp2
      have hLv : Lv ch tb qq := Or.inl ⟨k, hk, hp2⟩
      rcases noG_fr (mg := mg) hp2 with hg | ⟨_, hg⟩
      · rw [hfe] at hg
        by_cases hx : ∃ x, x ∈ ws1 ∧ x.t = b
        · obtain ⟨x, hx, tx, mx⟩ := max_ex (fun x => x.t = b) ws1 hx
          obtain ⟨u, hu, _, _, _, du⟩ := nwM_at (ws := ws) (md := md) (p := 16 * e + pt e) (cl := cl) (o := em e) (f := f) (show 0 < nb by omega)
          refine Or.inl ⟨x, hx, tx, mx, Or.inr ⟨u, (hmem u).mpr (Or.inr hu), hown u hu, ?_⟩⟩
          have hbr : Rch ch tb (vw dk ws) b := ⟨qq, hLv, b1, by have e1 := hVo qq hLv.self; unfold nbS at b2 ⊢; rw [← e1]; exact b2⟩
          have hxo : x ∈ ws := by
            rcases (hmem x).mp hx with hx | hx
            · exact hx
            · have k1 := (c.2.1 x hx).2.2.1
              have k2 := hold b hbr
              omega
          rw [du]
          show (emD ws (em e) x.n || f x.n) = true
          rw [Bool.or_eq_true]
          right
          rw [← hf]
          refine tieD_iff.mpr ⟨x, hxo, rfl, by rw [tx]; exact (hbr.lt h8).1, mkB_iff.mpr ⟨k, qq, hk, hg, by omega, by omega⟩⟩
        · exact Or.inr (Or.inl (fun y hy ty => hx ⟨y, hy, ty⟩))
      · exact inhC qq (Or.inl ⟨k, hk, hg⟩) hLv b1 b2
    · rcases List.mem_cons.mp hz with hz | hz
      · rw [hz] at hp2
        have hp2 : 16 * e + pt e = qq := hp2
        subst hp2
        rw [hnbp] at b2
        obtain ⟨x, hx, nx, tx, _⟩ := nwM_at (ws := ws) (md := md) (p := 16 * e + pt e) (cl := cl) (o := em e) (f := f) (show b - (16 * e + pt e) < nb by omega)
        refine Or.inl ⟨x, (hmem x).mpr (Or.inr hx), by omega, fun y hy ty => ?_, Or.inl (hown x hx)⟩
        rcases (hmem y).mp hy with hy | hy
        · have := (h1.2 y hy).1
          omega
        · have := c.2.2 x y hx hy (by omega)
          omega
      · have hz := List.mem_of_mem_take hz
        exact inhC qq (Or.inr ⟨z, hz, hp2⟩) (Or.inr ⟨z, hz, hp2⟩) b1 b2
  · refine rdD_iff.mpr (Or.inr (Or.inr ⟨e, x, he, hx, rfl, ?_, tx⟩))
    exact (g0.1.2 x hx).2.2.1 rx
end
