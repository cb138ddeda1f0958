/-! the writes of a chunk, of a record -/
def wtN (ws : List Wm) (n : Nat) : Bool := ws.any (fun v => v.n == n)
theorem wtN_iff {ws : List Wm} {n : Nat} : wtN ws n = true ↔ ∃ v, v ∈ ws ∧ v.n = n := by
  unfold wtN
  simp
/-- the number told, when its write waits still -/
def emD (ws : List Wm) (o : Option Nat) (n : Nat) : Bool := (o == some n) && wtN ws n
theorem emD_iff {ws : List Wm} {o : Option Nat} {n : Nat} : emD ws o n = true ↔ o = some n ∧ ∃ v, v ∈ ws ∧ v.n = n := by
  unfold emD
  rw [Bool.and_eq_true, wtN_iff, beq_iff_eq]
def wmk (n t : Nat) (r : Option RecT) (y : Nat → Nat) (d : Nat → Bool) (g : TbT) (S : Nat → Nat → Nat) : Wm := ((n, t, r), y, d, g, S)
def nwM (ws : List Wm) (md p : Nat) (cl : List Nat) (o : Option Nat) (f : Nat → Bool) (nb : Nat) : List Wm := (List.range nb).map (fun i => wmk (md + i) (p + i) none (fun j => (cl[16 * i + j]?).getD 0) (fun n => emD ws o n || f n) [] (fun _ _ => 0))
theorem nwM_mem {ws : List Wm} {md p nb : Nat} {cl : List Nat} {o : Option Nat} {f : Nat → Bool} {y : Wm} (h : y ∈ nwM ws md p cl o f nb) : ∃ i, i < nb ∧ y.n = md + i ∧ y.t = p + i ∧ y.r = none ∧ (y.y = fun j => (cl[16 * i + j]?).getD 0) ∧ y.d = fun n => emD ws o n || f n := by
  unfold nwM at h
  obtain ⟨i, hi, e⟩ := List.mem_map.mp h
  rw [List.mem_range] at hi
  subst e
  exact ⟨i, hi, rfl, rfl, rfl, rfl, rfl⟩
theorem nwM_at {ws : List Wm} {md p nb : Nat} {cl : List Nat} {o : Option Nat} {f : Nat → Bool} {i : Nat} (hi : i < nb) : ∃ y, y ∈ nwM ws md p cl o f nb ∧ y.n = md + i ∧ y.t = p + i ∧ (y.y = fun j => (cl[16 * i + j]?).getD 0) ∧ y.d = fun n => emD ws o n || f n :=
  ⟨_, List.mem_map.mpr ⟨i, List.mem_range.mpr hi, rfl⟩, rfl, rfl, rfl, rfl⟩
theorem nwM_c {ws : List Wm} {md e nb o : Nat} {cl : List Nat} {em : Nat → Option Nat} {f : Nat → Bool} (hf : ∀ n, f n = true → ∃ v, v ∈ ws ∧ v.n = n) : NwC ws (nwM ws md (16 * e + o) cl (em e) f nb) md (md + nb) e o nb em := by
  refine ⟨⟨?_, by omega⟩, fun y hy => ?_, fun x y hx hy ht => ?_⟩
  · unfold nwM
    refine List.pairwise_map.mpr ?_
    refine List.Pairwise.imp ?_ List.pairwise_lt_range
    intro a b hab
    show md + a < md + b
    omega
  · obtain ⟨i, hi, h1, h2, h3, h4, h5⟩ := nwM_mem hy
    refine ⟨by omega, h3, by omega, fun n hd => ?_, fun v hv ev => ?_⟩
    · rw [h5] at hd
      have hd : (emD ws (em e) n || f n) = true := hd
      rw [Bool.or_eq_true] at hd
      rcases hd with hd | hd
      · exact (emD_iff.mp hd).2
      · exact hf n hd
    · rw [h5]
      show (emD ws (em e) v.n || f v.n) = true
      rw [emD_iff.mpr ⟨ev, v, hv, rfl⟩, Bool.true_or]
  · obtain ⟨i, hi, h1, h2, _⟩ := nwM_mem hx
    obtain ⟨j, hj, g1, g2, _⟩ := nwM_mem hy
    omega
section
variable {dk : Nat → Nat → Nat} {ws : List Wm} {md p nb : Nat} {cl : List Nat} {o : Option Nat} {f : Nat → Bool}
theorem vw_new {i : Nat} (hi : i < nb) : vw dk (ws ++ nwM ws md p cl o f nb) (p + i) = fun j => (cl[16 * i + j]?).getD 0 := by
  have key : ∀ (l : List Nat) (g : Nat → Nat), (i ∈ l → ∃ l1 l2, l = l1 ++ i :: l2 ∧ ∀ x, x ∈ l2 → x ≠ i) := by
    intro l g
    induction l with
    | nil => intro h; cases h
    | cons a l ih =>
      intro h
      by_cases h2 : i ∈ l
      · obtain ⟨l1, l2, e, h3⟩ := ih h2
        exact ⟨a :: l1, l2, by rw [e]; rfl, h3⟩
      · rcases List.mem_cons.mp h with h | h
        · exact ⟨[], l, by rw [h]; rfl, fun x hx c => h2 (by rw [← c]; exact hx)⟩
        · exact absurd h h2
  obtain ⟨l1, l2, e, h3⟩ := key (List.range nb) (fun _ => 0) (List.mem_range.mpr hi)
  rw [vw_app]
  unfold nwM
  rw [e, List.map_append, List.map_cons, List.foldl_append, List.foldl_cons]
  rw [vw_no (dk := dk)]
  · show (if p + i = p + i then _ else _) = _
    rw [if_pos rfl]
    rfl
  · intro x hx
    obtain ⟨j, hj, e2⟩ := List.mem_map.mp hx
    subst e2
    show p + j ≠ p + i
    have := h3 j hj
    omega
theorem vw_old {b : Nat} (h : b < p ∨ p + nb ≤ b) : vw dk (ws ++ nwM ws md p cl o f nb) b = vw dk ws b := by
  refine vw_app_no (fun x hx => ?_)
  obtain ⟨i, hi, _, h2, _⟩ := nwM_mem hx
  omega
end
theorem chM_len (kind key st : Nat) (ct : List Nat) : (chL kind key ct st).length = ct.length + 8 := by
  unfold chL
  simp
theorem chL_get {kind key st i : Nat} {ct : List Nat} (hi : i < ct.length) : ((chL kind key ct st)[i + 6]?).getD 0 = (ct[i]?).getD 0 := by
  unfold chL
  rw [List.append_assoc, List.getElem?_append_right (by simp)]
  rw [List.getElem?_append_left (by simpa using hi)]
  simp
theorem ln_new {dk : Nat → Nat → Nat} {ws : List Wm} {md p kind key st : Nat} {ct : List Nat} {o : Option Nat} {f : Nat → Bool} : lnS (vw dk (ws ++ nwM ws md p (chL kind key ct st) o f ((ct.length + 23) / 16))) p = ct.length := by
  unfold lnS
  have := vw_new (dk := dk) (ws := ws) (md := md) (p := p) (cl := chL kind key ct st) (o := o) (f := f) (show 0 < (ct.length + 23) / 16 by omega)
  rw [show p + 0 = p from rfl] at this
  rw [this]
  rfl
theorem ct_new {dk : Nat → Nat → Nat} {ws : List Wm} {md p kind key st : Nat} {ct : List Nat} {o : Option Nat} {f : Nat → Bool} : ctS (vw dk (ws ++ nwM ws md p (chL kind key ct st) o f ((ct.length + 23) / 16))) p ct.length = ct := by
  unfold ctS
  refine List.ext_getElem (by simp) (fun k h1 h2 => ?_)
  rw [List.getElem_map, List.getElem_range]
  rw [vw_new (show (k + 6) / 16 < (ct.length + 23) / 16 by omega)]
  show ((chL kind key ct st)[16 * ((k + 6) / 16) + (k + 6) % 16]?).getD 0 = _
  rw [show 16 * ((k + 6) / 16) + (k + 6) % 16 = k + 6 by omega, chL_get h2, List.getElem?_eq_getElem h2]
  rfl
