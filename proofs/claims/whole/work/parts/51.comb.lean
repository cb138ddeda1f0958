/-! HOW simp RUNS A METHOD, from the outside in: combinators and rows (all used with ↓); nr: so that simp keeps the row in its proof (else the kernel unfolds all) -/
theorem nr {α : Sort _} {a b : α} (h : a = b) : a = b := by
  cases h
  exact rfl
def oA (r : Option Nat) (F : Nat → Prop) : Prop := match r with
  | some a => F a
  | none => False
def shO (M : Mm) (a t : Nat) (P : Prop) : Prop := M.sh a = some (t, 0) ∧ P
def rrf (M : Mm) (a k : Nat) (F : Option Nat → Prop) : Prop := F (M.rf a k)
def sL (L : List (Option mL)) (k : Nat) (v : Option mL) (F : List (Option mL) → Prop) : Prop := F (L.set k v)
theorem pA_o (r : Option Nat) (S : List mV) (F : Nat → List mV → Prop) : pA (.inr (.inr r) :: S) F = oA r (fun a => F a S) := by cases r <;> rfl
theorem qI_c (x : Int32) (S : List mV) (F : Int32 → List mV → Prop) : pI (.inl x :: S) F = F x S := nr rfl
theorem qL_c (x : Int64) (S : List mV) (F : Int64 → List mV → Prop) : pL (.inr (.inl x) :: S) F = F x S := nr rfl
theorem qR_c (x : Option Nat) (S : List mV) (F : Option Nat → List mV → Prop) : pR (.inr (.inr x) :: S) F = F x S := nr rfl
theorem qC_i (x : Int32) (S : List mV) (F : mV → List mV → Prop) : pC (.inl x :: S) F = F (.inl x) S := nr rfl
theorem qC_r (x : Option Nat) (S : List mV) (F : mV → List mV → Prop) : pC (.inr (.inr x) :: S) F = F (.inr (.inr x)) S := nr rfl
theorem qn_42 (x : Int32) : bnar 42 x = vp_nar .boolean x := nr rfl
theorem qn_44 (x : Int32) : bnar 44 x = x.toInt8.toInt32 := nr rfl
theorem aT40 : aTyB 40 = true := nr rfl
theorem aT41 : aTyB 41 = true := nr rfl
theorem aT42 : aTyB 42 = true := nr rfl
theorem aT44 : aTyB 44 = true := nr rfl
theorem aT54 : aTyB 54 = true := nr rfl
theorem aT58 : aTyB 58 = true := nr rfl
theorem aT59 : aTyB 59 = true := nr rfl
theorem rT54 : rTyB 54 = true := nr rfl
theorem rT58 : rTyB 58 = true := nr rfl
theorem rT59 : rTyB 59 = true := nr rfl
theorem oA_s (a : Nat) (F : Nat → Prop) : oA (some a) F = F a := nr rfl
theorem oA_of {r : Option Nat} {a : Nat} (h : r = some a) (F : Nat → Prop) : oA r F = F a := by rw [h]; rfl
theorem rrf_of {M : Mm} {a k : Nat} {r : Option Nat} (h : M.rf a k = r) (F : Option Nat → Prop) : rrf M a k F = F r := by unfold rrf; rw [h]
theorem shO_of {M : Mm} {a t : Nat} (h : M.sh a = some (t, 0)) (P : Prop) : shO M a t P = P := by unfold shO; simp [h]
theorem rrf_si (M : Mm) (a k b j : Nat) (x : Int32) (F : Option Nat → Prop) : rrf (M.si a k x) b j F = rrf M b j F := nr rfl
theorem rrf_sg (M : Mm) (a k b j : Nat) (x : Int64) (F : Option Nat → Prop) : rrf (M.sg a k x) b j F = rrf M b j F := nr rfl
theorem shO_si (M : Mm) (a k b t : Nat) (x : Int32) (P : Prop) : shO (M.si a k x) b t P = shO M b t P := nr rfl
theorem shO_sg (M : Mm) (a k b t : Nat) (x : Int64) (P : Prop) : shO (M.sg a k x) b t P = shO M b t P := nr rfl
theorem shO_sr (M : Mm) (a k b t : Nat) (x : Option Nat) (P : Prop) : shO (M.sr a k x) b t P = shO M b t P := nr rfl
theorem shA_si (M : Mm) (a k b : Nat) (x : Int32) (F : Nat → Nat → Prop) : shA (M.si a k x) b F = shA M b F := nr rfl
theorem shA_sg (M : Mm) (a k b : Nat) (x : Int64) (F : Nat → Nat → Prop) : shA (M.sg a k x) b F = shA M b F := nr rfl
theorem shA_sr (M : Mm) (a k b : Nat) (x : Option Nat) (F : Nat → Nat → Prop) : shA (M.sr a k x) b F = shA M b F := nr rfl
theorem pAs_0 (S : List mV) (F : List mL → List mV → Prop) : pAs 0 S F = F [] S := nr rfl
theorem pAs_i (n : Nat) (x : Int32) (S : List mV) (F : List mL → List mV → Prop) : pAs (n + 1) (.inl x :: S) F = pAs n S (fun as S2 => F (as ++ [.inl x]) S2) := nr rfl
theorem pAs_r (n : Nat) (x : Option Nat) (S : List mV) (F : List mL → List mV → Prop) : pAs (n + 1) (.inr (.inr x) :: S) F = pAs n S (fun as S2 => F (as ++ [.inr x]) S2) := nr rfl
theorem stk_n : stk [] = 0 := nr rfl
theorem stk_i (x : Int32) (S : List mV) : stk (.inl x :: S) = stk S + 1 := nr rfl
theorem stk_l (x : Int64) (S : List mV) : stk (.inr (.inl x) :: S) = stk S + 2 := nr rfl
theorem stk_r (x : Option Nat) (S : List mV) : stk (.inr (.inr x) :: S) = stk S + 1 := nr rfl
theorem rt_0 (pc : Nat) (L : List (Option mL)) (S : List mV) (K : mK) : rtK 0 pc L S K = fun r M => r = none ∧ K pc L S M := nr rfl
theorem rt_1 (pc : Nat) (L : List (Option mL)) (S : List mV) (K : mK) : rtK 1 pc L S K = fun r M => ∃ x : Int32, r = some (.inl x) ∧ K pc L (.inl x :: S) M := nr rfl
theorem rt_2 (pc : Nat) (L : List (Option mL)) (S : List mV) (K : mK) : rtK 2 pc L S K = fun r M => ∃ x : Option Nat, r = some (.inr (.inr x)) ∧ K pc L (.inr (.inr x) :: S) M := nr rfl
theorem xc {d j : Nat} {as : List mL} {M : Mm} {k : mQ} (h : X d j 0 (enL (mX j) as) [] M k) : XC (d + 1) j as M k := ⟨d, rfl, h⟩
theorem le8_0 : (0 ≤ 8) = True := eq_true (by decide)
theorem le8_1 : (1 ≤ 8) = True := eq_true (by decide)
theorem le8_2 : (2 ≤ 8) = True := eq_true (by decide)
theorem le8_3 : (3 ≤ 8) = True := eq_true (by decide)
theorem le8_4 : (4 ≤ 8) = True := eq_true (by decide)
theorem le8_5 : (5 ≤ 8) = True := eq_true (by decide)
theorem le8_6 : (6 ≤ 8) = True := eq_true (by decide)
theorem le8_7 : (7 ≤ 8) = True := eq_true (by decide)
theorem le8_8 : (8 ≤ 8) = True := eq_true (by decide)
theorem dp_s (d n : Nat) : (0 < d + (n + 1)) = True := eq_true (Nat.succ_pos _)
theorem gI_0 (x : Int32) (L : List (Option mL)) (F : Int32 → Prop) : gI (some (.inl x) :: L) 0 F = F x := nr rfl
theorem gR_0 (x : Option Nat) (L : List (Option mL)) (F : Option Nat → Prop) : gR (some (.inr x) :: L) 0 F = F x := nr rfl
theorem sL_0 (o v : Option mL) (L : List (Option mL)) (F : List (Option mL) → Prop) : sL (o :: L) 0 v F = F (v :: L) := nr rfl
theorem gI_1 (o0 : Option mL) (x : Int32) (L : List (Option mL)) (F : Int32 → Prop) : gI (o0 :: some (.inl x) :: L) 1 F = F x := nr rfl
theorem gR_1 (o0 : Option mL) (x : Option Nat) (L : List (Option mL)) (F : Option Nat → Prop) : gR (o0 :: some (.inr x) :: L) 1 F = F x := nr rfl
theorem sL_1 (o0 : Option mL) (o v : Option mL) (L : List (Option mL)) (F : List (Option mL) → Prop) : sL (o0 :: o :: L) 1 v F = F (o0 :: v :: L) := nr rfl
theorem gI_2 (o0 o1 : Option mL) (x : Int32) (L : List (Option mL)) (F : Int32 → Prop) : gI (o0 :: o1 :: some (.inl x) :: L) 2 F = F x := nr rfl
theorem gR_2 (o0 o1 : Option mL) (x : Option Nat) (L : List (Option mL)) (F : Option Nat → Prop) : gR (o0 :: o1 :: some (.inr x) :: L) 2 F = F x := nr rfl
theorem sL_2 (o0 o1 : Option mL) (o v : Option mL) (L : List (Option mL)) (F : List (Option mL) → Prop) : sL (o0 :: o1 :: o :: L) 2 v F = F (o0 :: o1 :: v :: L) := nr rfl
theorem gI_3 (o0 o1 o2 : Option mL) (x : Int32) (L : List (Option mL)) (F : Int32 → Prop) : gI (o0 :: o1 :: o2 :: some (.inl x) :: L) 3 F = F x := nr rfl
theorem gR_3 (o0 o1 o2 : Option mL) (x : Option Nat) (L : List (Option mL)) (F : Option Nat → Prop) : gR (o0 :: o1 :: o2 :: some (.inr x) :: L) 3 F = F x := nr rfl
theorem sL_3 (o0 o1 o2 : Option mL) (o v : Option mL) (L : List (Option mL)) (F : List (Option mL) → Prop) : sL (o0 :: o1 :: o2 :: o :: L) 3 v F = F (o0 :: o1 :: o2 :: v :: L) := nr rfl
theorem gI_4 (o0 o1 o2 o3 : Option mL) (x : Int32) (L : List (Option mL)) (F : Int32 → Prop) : gI (o0 :: o1 :: o2 :: o3 :: some (.inl x) :: L) 4 F = F x := nr rfl
theorem gR_4 (o0 o1 o2 o3 : Option mL) (x : Option Nat) (L : List (Option mL)) (F : Option Nat → Prop) : gR (o0 :: o1 :: o2 :: o3 :: some (.inr x) :: L) 4 F = F x := nr rfl
theorem sL_4 (o0 o1 o2 o3 : Option mL) (o v : Option mL) (L : List (Option mL)) (F : List (Option mL) → Prop) : sL (o0 :: o1 :: o2 :: o3 :: o :: L) 4 v F = F (o0 :: o1 :: o2 :: o3 :: v :: L) := nr rfl
theorem gI_5 (o0 o1 o2 o3 o4 : Option mL) (x : Int32) (L : List (Option mL)) (F : Int32 → Prop) : gI (o0 :: o1 :: o2 :: o3 :: o4 :: some (.inl x) :: L) 5 F = F x := nr rfl
theorem gR_5 (o0 o1 o2 o3 o4 : Option mL) (x : Option Nat) (L : List (Option mL)) (F : Option Nat → Prop) : gR (o0 :: o1 :: o2 :: o3 :: o4 :: some (.inr x) :: L) 5 F = F x := nr rfl
theorem sL_5 (o0 o1 o2 o3 o4 : Option mL) (o v : Option mL) (L : List (Option mL)) (F : List (Option mL) → Prop) : sL (o0 :: o1 :: o2 :: o3 :: o4 :: o :: L) 5 v F = F (o0 :: o1 :: o2 :: o3 :: o4 :: v :: L) := nr rfl
theorem gI_6 (o0 o1 o2 o3 o4 o5 : Option mL) (x : Int32) (L : List (Option mL)) (F : Int32 → Prop) : gI (o0 :: o1 :: o2 :: o3 :: o4 :: o5 :: some (.inl x) :: L) 6 F = F x := nr rfl
theorem gR_6 (o0 o1 o2 o3 o4 o5 : Option mL) (x : Option Nat) (L : List (Option mL)) (F : Option Nat → Prop) : gR (o0 :: o1 :: o2 :: o3 :: o4 :: o5 :: some (.inr x) :: L) 6 F = F x := nr rfl
theorem sL_6 (o0 o1 o2 o3 o4 o5 : Option mL) (o v : Option mL) (L : List (Option mL)) (F : List (Option mL) → Prop) : sL (o0 :: o1 :: o2 :: o3 :: o4 :: o5 :: o :: L) 6 v F = F (o0 :: o1 :: o2 :: o3 :: o4 :: o5 :: v :: L) := nr rfl
theorem gI_7 (o0 o1 o2 o3 o4 o5 o6 : Option mL) (x : Int32) (L : List (Option mL)) (F : Int32 → Prop) : gI (o0 :: o1 :: o2 :: o3 :: o4 :: o5 :: o6 :: some (.inl x) :: L) 7 F = F x := nr rfl
theorem gR_7 (o0 o1 o2 o3 o4 o5 o6 : Option mL) (x : Option Nat) (L : List (Option mL)) (F : Option Nat → Prop) : gR (o0 :: o1 :: o2 :: o3 :: o4 :: o5 :: o6 :: some (.inr x) :: L) 7 F = F x := nr rfl
theorem sL_7 (o0 o1 o2 o3 o4 o5 o6 : Option mL) (o v : Option mL) (L : List (Option mL)) (F : List (Option mL) → Prop) : sL (o0 :: o1 :: o2 :: o3 :: o4 :: o5 :: o6 :: o :: L) 7 v F = F (o0 :: o1 :: o2 :: o3 :: o4 :: o5 :: o6 :: v :: L) := nr rfl
theorem gI_8 (o0 o1 o2 o3 o4 o5 o6 o7 : Option mL) (x : Int32) (L : List (Option mL)) (F : Int32 → Prop) : gI (o0 :: o1 :: o2 :: o3 :: o4 :: o5 :: o6 :: o7 :: some (.inl x) :: L) 8 F = F x := nr rfl
theorem gR_8 (o0 o1 o2 o3 o4 o5 o6 o7 : Option mL) (x : Option Nat) (L : List (Option mL)) (F : Option Nat → Prop) : gR (o0 :: o1 :: o2 :: o3 :: o4 :: o5 :: o6 :: o7 :: some (.inr x) :: L) 8 F = F x := nr rfl
theorem sL_8 (o0 o1 o2 o3 o4 o5 o6 o7 : Option mL) (o v : Option mL) (L : List (Option mL)) (F : List (Option mL) → Prop) : sL (o0 :: o1 :: o2 :: o3 :: o4 :: o5 :: o6 :: o7 :: o :: L) 8 v F = F (o0 :: o1 :: o2 :: o3 :: o4 :: o5 :: o6 :: o7 :: v :: L) := nr rfl
theorem gI_9 (o0 o1 o2 o3 o4 o5 o6 o7 o8 : Option mL) (x : Int32) (L : List (Option mL)) (F : Int32 → Prop) : gI (o0 :: o1 :: o2 :: o3 :: o4 :: o5 :: o6 :: o7 :: o8 :: some (.inl x) :: L) 9 F = F x := nr rfl
theorem gR_9 (o0 o1 o2 o3 o4 o5 o6 o7 o8 : Option mL) (x : Option Nat) (L : List (Option mL)) (F : Option Nat → Prop) : gR (o0 :: o1 :: o2 :: o3 :: o4 :: o5 :: o6 :: o7 :: o8 :: some (.inr x) :: L) 9 F = F x := nr rfl
theorem sL_9 (o0 o1 o2 o3 o4 o5 o6 o7 o8 : Option mL) (o v : Option mL) (L : List (Option mL)) (F : List (Option mL) → Prop) : sL (o0 :: o1 :: o2 :: o3 :: o4 :: o5 :: o6 :: o7 :: o8 :: o :: L) 9 v F = F (o0 :: o1 :: o2 :: o3 :: o4 :: o5 :: o6 :: o7 :: o8 :: v :: L) := nr rfl
theorem gI_10 (o0 o1 o2 o3 o4 o5 o6 o7 o8 o9 : Option mL) (x : Int32) (L : List (Option mL)) (F : Int32 → Prop) : gI (o0 :: o1 :: o2 :: o3 :: o4 :: o5 :: o6 :: o7 :: o8 :: o9 :: some (.inl x) :: L) 10 F = F x := nr rfl
theorem gR_10 (o0 o1 o2 o3 o4 o5 o6 o7 o8 o9 : Option mL) (x : Option Nat) (L : List (Option mL)) (F : Option Nat → Prop) : gR (o0 :: o1 :: o2 :: o3 :: o4 :: o5 :: o6 :: o7 :: o8 :: o9 :: some (.inr x) :: L) 10 F = F x := nr rfl
theorem sL_10 (o0 o1 o2 o3 o4 o5 o6 o7 o8 o9 : Option mL) (o v : Option mL) (L : List (Option mL)) (F : List (Option mL) → Prop) : sL (o0 :: o1 :: o2 :: o3 :: o4 :: o5 :: o6 :: o7 :: o8 :: o9 :: o :: L) 10 v F = F (o0 :: o1 :: o2 :: o3 :: o4 :: o5 :: o6 :: o7 :: o8 :: o9 :: v :: L) := nr rfl
