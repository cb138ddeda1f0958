/-! what each instruction leaves to show, printed by gen_rows.py -/
set_option maxRecDepth 100000 in
theorem v129_0 (n d : Nat) (L : List (Option mL)) (S : List mV) (M : Mm) (Q : mQ) : vc (n + 1) d 129 0 L S M Q = (gR L 0 fun x => vc n d 129 1 L (.inr (.inr x) :: S) M Q) := nr rfl
set_option maxRecDepth 100000 in
theorem v129_1 (n d : Nat) (L : List (Option mL)) (S : List mV) (M : Mm) (Q : mQ) : vc (n + 1) d 129 1 L S M Q = (pA S fun a S => shO M a 10 (rrf M a 17 fun r => vc n d 129 4 L (.inr (.inr r) :: S) M Q)) := nr rfl
set_option maxRecDepth 100000 in
theorem v129_4 (n d : Nat) (L : List (Option mL)) (S : List mV) (M : Mm) (Q : mQ) : vc (n + 1) d 129 4 L S M Q = (gI L 1 fun x => vc n d 129 5 L (.inl x :: S) M Q) := nr rfl
set_option maxRecDepth 100000 in
theorem v129_5 (n d : Nat) (L : List (Option mL)) (S : List mV) (M : Mm) (Q : mQ) : vc (n + 1) d 129 5 L S M Q = (pI S fun i S => pA S fun a S => shA M a fun t k => (t = 40 ∨ t = 41) ∧ inB i k ∧ vc n d 129 6 L (.inl (M.it a i.toNatClampNeg) :: S) M Q) := nr rfl
set_option maxRecDepth 100000 in
theorem v129_6 (n d : Nat) (L : List (Option mL)) (S : List mV) (M : Mm) (Q : mQ) : vc (n + 1) d 129 6 L S M Q = (pI S fun x S => sL L 2 (some (.inl x)) fun L => vc n d 129 7 L S M Q) := nr rfl
set_option maxRecDepth 100000 in
theorem v129_7 (n d : Nat) (L : List (Option mL)) (S : List mV) (M : Mm) (Q : mQ) : vc (n + 1) d 129 7 L S M Q = (vc n d 129 8 L (.inl 0 :: S) M Q) := nr rfl
set_option maxRecDepth 100000 in
theorem v129_8 (n d : Nat) (L : List (Option mL)) (S : List mV) (M : Mm) (Q : mQ) : vc (n + 1) d 129 8 L S M Q = (pI S fun x S => sL L 3 (some (.inl x)) fun L => X d 129 9 L S M Q) := nr rfl
set_option maxRecDepth 100000 in
theorem v129_9 (n d : Nat) (L : List (Option mL)) (S : List mV) (M : Mm) (Q : mQ) : vc (n + 1) d 129 9 L S M Q = (gI L 3 fun x => vc n d 129 10 L (.inl x :: S) M Q) := nr rfl
set_option maxRecDepth 100000 in
theorem v129_10 (n d : Nat) (L : List (Option mL)) (S : List mV) (M : Mm) (Q : mQ) : vc (n + 1) d 129 10 L S M Q = (gR L 0 fun x => vc n d 129 11 L (.inr (.inr x) :: S) M Q) := nr rfl
set_option maxRecDepth 100000 in
theorem v129_11 (n d : Nat) (L : List (Option mL)) (S : List mV) (M : Mm) (Q : mQ) : vc (n + 1) d 129 11 L S M Q = (pA S fun a S => shO M a 10 (vc n d 129 14 L (.inl (M.it a 11) :: S) M Q)) := nr rfl
set_option maxRecDepth 100000 in
theorem v129_14 (n d : Nat) (L : List (Option mL)) (S : List mV) (M : Mm) (Q : mQ) : vc (n + 1) d 129 14 L S M Q = (pI S fun y S => pI S fun x S => (y ≤ x → X d 129 40 L S M Q) ∧ (¬ (y ≤ x) → vc n d 129 17 L S M Q)) := nr rfl
set_option maxRecDepth 100000 in
theorem v129_17 (n d : Nat) (L : List (Option mL)) (S : List mV) (M : Mm) (Q : mQ) : vc (n + 1) d 129 17 L S M Q = (gI L 2 fun x => vc n d 129 18 L (.inl x :: S) M Q) := nr rfl
set_option maxRecDepth 100000 in
theorem v129_18 (n d : Nat) (L : List (Option mL)) (S : List mV) (M : Mm) (Q : mQ) : vc (n + 1) d 129 18 L S M Q = (vc n d 129 19 L (.inl (-1) :: S) M Q) := nr rfl
set_option maxRecDepth 100000 in
theorem v129_19 (n d : Nat) (L : List (Option mL)) (S : List mV) (M : Mm) (Q : mQ) : vc (n + 1) d 129 19 L S M Q = (pI S fun y S => pI S fun x S => (¬ x = y → X d 129 40 L S M Q) ∧ (¬ (¬ x = y) → vc n d 129 22 L S M Q)) := nr rfl
set_option maxRecDepth 100000 in
theorem v129_22 (n d : Nat) (L : List (Option mL)) (S : List mV) (M : Mm) (Q : mQ) : vc (n + 1) d 129 22 L S M Q = (gR L 0 fun x => vc n d 129 23 L (.inr (.inr x) :: S) M Q) := nr rfl
set_option maxRecDepth 100000 in
theorem v129_23 (n d : Nat) (L : List (Option mL)) (S : List mV) (M : Mm) (Q : mQ) : vc (n + 1) d 129 23 L S M Q = (pA S fun a S => shO M a 10 (rrf M a 18 fun r => vc n d 129 26 L (.inr (.inr r) :: S) M Q)) := nr rfl
set_option maxRecDepth 100000 in
theorem v129_26 (n d : Nat) (L : List (Option mL)) (S : List mV) (M : Mm) (Q : mQ) : vc (n + 1) d 129 26 L S M Q = (vc n d 129 28 L (.inl 48 :: S) M Q) := nr rfl
set_option maxRecDepth 100000 in
theorem v129_28 (n d : Nat) (L : List (Option mL)) (S : List mV) (M : Mm) (Q : mQ) : vc (n + 1) d 129 28 L S M Q = (gI L 3 fun x => vc n d 129 29 L (.inl x :: S) M Q) := nr rfl
set_option maxRecDepth 100000 in
theorem v129_29 (n d : Nat) (L : List (Option mL)) (S : List mV) (M : Mm) (Q : mQ) : vc (n + 1) d 129 29 L S M Q = (pI S fun y S => pI S fun x S => vc n d 129 30 L (.inl (x * y) :: S) M Q) := nr rfl
set_option maxRecDepth 100000 in
theorem v129_30 (n d : Nat) (L : List (Option mL)) (S : List mV) (M : Mm) (Q : mQ) : vc (n + 1) d 129 30 L S M Q = (gI L 1 fun x => vc n d 129 31 L (.inl x :: S) M Q) := nr rfl
set_option maxRecDepth 100000 in
theorem v129_31 (n d : Nat) (L : List (Option mL)) (S : List mV) (M : Mm) (Q : mQ) : vc (n + 1) d 129 31 L S M Q = (pI S fun y S => pI S fun x S => vc n d 129 32 L (.inl (x + y) :: S) M Q) := nr rfl
set_option maxRecDepth 100000 in
theorem v129_32 (n d : Nat) (L : List (Option mL)) (S : List mV) (M : Mm) (Q : mQ) : vc (n + 1) d 129 32 L S M Q = (pI S fun i S => pA S fun a S => shA M a fun t k => (t = 40 ∨ t = 41) ∧ inB i k ∧ vc n d 129 33 L (.inl (M.it a i.toNatClampNeg) :: S) M Q) := nr rfl
set_option maxRecDepth 100000 in
theorem v129_33 (n d : Nat) (L : List (Option mL)) (S : List mV) (M : Mm) (Q : mQ) : vc (n + 1) d 129 33 L S M Q = (pI S fun x S => sL L 2 (some (.inl x)) fun L => vc n d 129 34 L S M Q) := nr rfl
set_option maxRecDepth 100000 in
theorem v129_34 (n d : Nat) (L : List (Option mL)) (S : List mV) (M : Mm) (Q : mQ) : vc (n + 1) d 129 34 L S M Q = (gI L 3 fun x => sL L 3 (some (.inl (x + 1))) fun L => vc n d 129 37 L S M Q) := nr rfl
set_option maxRecDepth 100000 in
theorem v129_37 (n d : Nat) (L : List (Option mL)) (S : List mV) (M : Mm) (Q : mQ) : vc (n + 1) d 129 37 L S M Q = (X d 129 9 L S M Q) := nr rfl
set_option maxRecDepth 100000 in
theorem v129_40 (n d : Nat) (L : List (Option mL)) (S : List mV) (M : Mm) (Q : mQ) : vc (n + 1) d 129 40 L S M Q = (gI L 2 fun x => vc n d 129 41 L (.inl x :: S) M Q) := nr rfl
set_option maxRecDepth 100000 in
theorem v129_41 (n d : Nat) (L : List (Option mL)) (S : List mV) (M : Mm) (Q : mQ) : vc (n + 1) d 129 41 L S M Q = (vc n d 129 44 L (.inl 255 :: S) M Q) := nr rfl
set_option maxRecDepth 100000 in
theorem v129_44 (n d : Nat) (L : List (Option mL)) (S : List mV) (M : Mm) (Q : mQ) : vc (n + 1) d 129 44 L S M Q = (pI S fun y S => pI S fun x S => (¬ x = y → vc n d 129 51 L S M Q) ∧ (¬ (¬ x = y) → vc n d 129 47 L S M Q)) := nr rfl
set_option maxRecDepth 100000 in
theorem v129_47 (n d : Nat) (L : List (Option mL)) (S : List mV) (M : Mm) (Q : mQ) : vc (n + 1) d 129 47 L S M Q = (vc n d 129 48 L (.inl (-1) :: S) M Q) := nr rfl
set_option maxRecDepth 100000 in
theorem v129_48 (n d : Nat) (L : List (Option mL)) (S : List mV) (M : Mm) (Q : mQ) : vc (n + 1) d 129 48 L S M Q = (vc n d 129 52 L S M Q) := nr rfl
set_option maxRecDepth 100000 in
theorem v129_51 (n d : Nat) (L : List (Option mL)) (S : List mV) (M : Mm) (Q : mQ) : vc (n + 1) d 129 51 L S M Q = (gI L 2 fun x => vc n d 129 52 L (.inl x :: S) M Q) := nr rfl
set_option maxRecDepth 100000 in
theorem v129_52 (n d : Nat) (L : List (Option mL)) (S : List mV) (M : Mm) (Q : mQ) : vc (n + 1) d 129 52 L S M Q = (pI S fun x S => S = [] ∧ (0 = 0 ∨ x = 0 ∨ x = 1) ∧ Q (some (.inl x)) M) := nr rfl
set_option maxRecDepth 100000 in
theorem v130_0 (n d : Nat) (L : List (Option mL)) (S : List mV) (M : Mm) (Q : mQ) : vc (n + 1) d 130 0 L S M Q = (gR L 0 fun x => vc n d 130 1 L (.inr (.inr x) :: S) M Q) := nr rfl
set_option maxRecDepth 100000 in
theorem v130_1 (n d : Nat) (L : List (Option mL)) (S : List mV) (M : Mm) (Q : mQ) : vc (n + 1) d 130 1 L S M Q = (vc n d 130 2 L (.inl 0 :: S) M Q) := nr rfl
set_option maxRecDepth 100000 in
theorem v130_2 (n d : Nat) (L : List (Option mL)) (S : List mV) (M : Mm) (Q : mQ) : vc (n + 1) d 130 2 L S M Q = (pI S fun x S => pA S fun a S => shO M a 10 (vc n d 130 5 L S (M.si a 0 x) Q)) := nr rfl
set_option maxRecDepth 100000 in
theorem v130_5 (n d : Nat) (L : List (Option mL)) (S : List mV) (M : Mm) (Q : mQ) : vc (n + 1) d 130 5 L S M Q = (gR L 0 fun x => vc n d 130 6 L (.inr (.inr x) :: S) M Q) := nr rfl
set_option maxRecDepth 100000 in
theorem v130_6 (n d : Nat) (L : List (Option mL)) (S : List mV) (M : Mm) (Q : mQ) : vc (n + 1) d 130 6 L S M Q = (pA S fun a S => shO M a 10 (vc n d 130 9 L (.inl (M.it a 5) :: S) M Q)) := nr rfl
set_option maxRecDepth 100000 in
theorem v130_9 (n d : Nat) (L : List (Option mL)) (S : List mV) (M : Mm) (Q : mQ) : vc (n + 1) d 130 9 L S M Q = (pI S fun x S => (¬ x = 0 → vc n d 130 28 L S M Q) ∧ (¬ (¬ x = 0) → vc n d 130 12 L S M Q)) := nr rfl
set_option maxRecDepth 100000 in
theorem v130_12 (n d : Nat) (L : List (Option mL)) (S : List mV) (M : Mm) (Q : mQ) : vc (n + 1) d 130 12 L S M Q = (gI L 1 fun x => vc n d 130 13 L (.inl x :: S) M Q) := nr rfl
set_option maxRecDepth 100000 in
theorem v130_13 (n d : Nat) (L : List (Option mL)) (S : List mV) (M : Mm) (Q : mQ) : vc (n + 1) d 130 13 L S M Q = (pAs 1 S fun as S => stk S ≤ 8 ∧ XC d 119 as M (fun r M => ∃ x : Int32, r = some (.inl x) ∧ X d 130 16 L (.inl x :: S) M Q)) := nr rfl
set_option maxRecDepth 100000 in
theorem v130_16 (n d : Nat) (L : List (Option mL)) (S : List mV) (M : Mm) (Q : mQ) : vc (n + 1) d 130 16 L S M Q = (pI S fun x S => (x = 0 → vc n d 130 28 L S M Q) ∧ (¬ (x = 0) → vc n d 130 19 L S M Q)) := nr rfl
set_option maxRecDepth 100000 in
theorem v130_19 (n d : Nat) (L : List (Option mL)) (S : List mV) (M : Mm) (Q : mQ) : vc (n + 1) d 130 19 L S M Q = (gR L 0 fun x => vc n d 130 20 L (.inr (.inr x) :: S) M Q) := nr rfl
set_option maxRecDepth 100000 in
theorem v130_20 (n d : Nat) (L : List (Option mL)) (S : List mV) (M : Mm) (Q : mQ) : vc (n + 1) d 130 20 L S M Q = (gI L 1 fun x => vc n d 130 21 L (.inl x :: S) M Q) := nr rfl
set_option maxRecDepth 100000 in
theorem v130_21 (n d : Nat) (L : List (Option mL)) (S : List mV) (M : Mm) (Q : mQ) : vc (n + 1) d 130 21 L S M Q = (pAs 1 S fun as S => pA S fun a S => shO M a 10 (stk S ≤ 8 ∧ XC d 129 (.inr (some a) :: as) M (fun r M => ∃ x : Int32, r = some (.inl x) ∧ X d 130 24 L (.inl x :: S) M Q))) := nr rfl
set_option maxRecDepth 100000 in
theorem v130_24 (n d : Nat) (L : List (Option mL)) (S : List mV) (M : Mm) (Q : mQ) : vc (n + 1) d 130 24 L S M Q = (vc n d 130 25 L (.inl (-1) :: S) M Q) := nr rfl
set_option maxRecDepth 100000 in
theorem v130_25 (n d : Nat) (L : List (Option mL)) (S : List mV) (M : Mm) (Q : mQ) : vc (n + 1) d 130 25 L S M Q = (pI S fun y S => pI S fun x S => (¬ x = y → vc n d 130 30 L S M Q) ∧ (¬ (¬ x = y) → vc n d 130 28 L S M Q)) := nr rfl
set_option maxRecDepth 100000 in
theorem v130_28 (n d : Nat) (L : List (Option mL)) (S : List mV) (M : Mm) (Q : mQ) : vc (n + 1) d 130 28 L S M Q = (vc n d 130 29 L (.inl (-1) :: S) M Q) := nr rfl
set_option maxRecDepth 100000 in
theorem v130_29 (n d : Nat) (L : List (Option mL)) (S : List mV) (M : Mm) (Q : mQ) : vc (n + 1) d 130 29 L S M Q = (pI S fun x S => S = [] ∧ (0 = 0 ∨ x = 0 ∨ x = 1) ∧ Q (some (.inl x)) M) := nr rfl
set_option maxRecDepth 100000 in
theorem v130_30 (n d : Nat) (L : List (Option mL)) (S : List mV) (M : Mm) (Q : mQ) : vc (n + 1) d 130 30 L S M Q = (gR L 0 fun x => vc n d 130 31 L (.inr (.inr x) :: S) M Q) := nr rfl
set_option maxRecDepth 100000 in
theorem v130_31 (n d : Nat) (L : List (Option mL)) (S : List mV) (M : Mm) (Q : mQ) : vc (n + 1) d 130 31 L S M Q = (gI L 1 fun x => vc n d 130 32 L (.inl x :: S) M Q) := nr rfl
set_option maxRecDepth 100000 in
theorem v130_32 (n d : Nat) (L : List (Option mL)) (S : List mV) (M : Mm) (Q : mQ) : vc (n + 1) d 130 32 L S M Q = (pAs 1 S fun as S => pA S fun a S => shO M a 10 (stk S ≤ 8 ∧ XC d 129 (.inr (some a) :: as) M (fun r M => ∃ x : Int32, r = some (.inl x) ∧ X d 130 35 L (.inl x :: S) M Q))) := nr rfl
set_option maxRecDepth 100000 in
theorem v130_35 (n d : Nat) (L : List (Option mL)) (S : List mV) (M : Mm) (Q : mQ) : vc (n + 1) d 130 35 L S M Q = (pI S fun x S => sL L 2 (some (.inl x)) fun L => vc n d 130 36 L S M Q) := nr rfl
set_option maxRecDepth 100000 in
theorem v130_36 (n d : Nat) (L : List (Option mL)) (S : List mV) (M : Mm) (Q : mQ) : vc (n + 1) d 130 36 L S M Q = (gR L 0 fun x => vc n d 130 37 L (.inr (.inr x) :: S) M Q) := nr rfl
set_option maxRecDepth 100000 in
theorem v130_37 (n d : Nat) (L : List (Option mL)) (S : List mV) (M : Mm) (Q : mQ) : vc (n + 1) d 130 37 L S M Q = (gR L 0 fun x => vc n d 130 38 L (.inr (.inr x) :: S) M Q) := nr rfl
set_option maxRecDepth 100000 in
theorem v130_38 (n d : Nat) (L : List (Option mL)) (S : List mV) (M : Mm) (Q : mQ) : vc (n + 1) d 130 38 L S M Q = (gI L 2 fun x => vc n d 130 39 L (.inl x :: S) M Q) := nr rfl
set_option maxRecDepth 100000 in
theorem v130_39 (n d : Nat) (L : List (Option mL)) (S : List mV) (M : Mm) (Q : mQ) : vc (n + 1) d 130 39 L S M Q = (pAs 1 S fun as S => pA S fun a S => shO M a 10 (stk S ≤ 8 ∧ XC d 131 (.inr (some a) :: as) M (fun r M => ∃ x : Int32, r = some (.inl x) ∧ X d 130 42 L (.inl x :: S) M Q))) := nr rfl
set_option maxRecDepth 100000 in
theorem v130_42 (n d : Nat) (L : List (Option mL)) (S : List mV) (M : Mm) (Q : mQ) : vc (n + 1) d 130 42 L S M Q = (pI S fun x S => pA S fun a S => shO M a 10 (vc n d 130 45 L S (M.si a 34 x) Q)) := nr rfl
set_option maxRecDepth 100000 in
theorem v130_45 (n d : Nat) (L : List (Option mL)) (S : List mV) (M : Mm) (Q : mQ) : vc (n + 1) d 130 45 L S M Q = (vc n d 130 46 L (.inl 0 :: S) M Q) := nr rfl
set_option maxRecDepth 100000 in
theorem v130_46 (n d : Nat) (L : List (Option mL)) (S : List mV) (M : Mm) (Q : mQ) : vc (n + 1) d 130 46 L S M Q = (pI S fun x S => sL L 3 (some (.inl x)) fun L => X d 130 47 L S M Q) := nr rfl
set_option maxRecDepth 100000 in
theorem v130_47 (n d : Nat) (L : List (Option mL)) (S : List mV) (M : Mm) (Q : mQ) : vc (n + 1) d 130 47 L S M Q = (gI L 3 fun x => vc n d 130 48 L (.inl x :: S) M Q) := nr rfl
set_option maxRecDepth 100000 in
theorem v130_48 (n d : Nat) (L : List (Option mL)) (S : List mV) (M : Mm) (Q : mQ) : vc (n + 1) d 130 48 L S M Q = (gR L 0 fun x => vc n d 130 49 L (.inr (.inr x) :: S) M Q) := nr rfl
set_option maxRecDepth 100000 in
theorem v130_49 (n d : Nat) (L : List (Option mL)) (S : List mV) (M : Mm) (Q : mQ) : vc (n + 1) d 130 49 L S M Q = (pA S fun a S => shO M a 10 (vc n d 130 52 L (.inl (M.it a 34) :: S) M Q)) := nr rfl
set_option maxRecDepth 100000 in
theorem v130_52 (n d : Nat) (L : List (Option mL)) (S : List mV) (M : Mm) (Q : mQ) : vc (n + 1) d 130 52 L S M Q = (pI S fun y S => pI S fun x S => (y ≤ x → vc n d 130 74 L S M Q) ∧ (¬ (y ≤ x) → vc n d 130 55 L S M Q)) := nr rfl
set_option maxRecDepth 100000 in
theorem v130_55 (n d : Nat) (L : List (Option mL)) (S : List mV) (M : Mm) (Q : mQ) : vc (n + 1) d 130 55 L S M Q = (gR L 0 fun x => vc n d 130 56 L (.inr (.inr x) :: S) M Q) := nr rfl
set_option maxRecDepth 100000 in
theorem v130_56 (n d : Nat) (L : List (Option mL)) (S : List mV) (M : Mm) (Q : mQ) : vc (n + 1) d 130 56 L S M Q = (pA S fun a S => shO M a 10 (rrf M a 29 fun r => vc n d 130 59 L (.inr (.inr r) :: S) M Q)) := nr rfl
set_option maxRecDepth 100000 in
theorem v130_59 (n d : Nat) (L : List (Option mL)) (S : List mV) (M : Mm) (Q : mQ) : vc (n + 1) d 130 59 L S M Q = (gI L 3 fun x => vc n d 130 60 L (.inl x :: S) M Q) := nr rfl
set_option maxRecDepth 100000 in
theorem v130_60 (n d : Nat) (L : List (Option mL)) (S : List mV) (M : Mm) (Q : mQ) : vc (n + 1) d 130 60 L S M Q = (gR L 0 fun x => vc n d 130 61 L (.inr (.inr x) :: S) M Q) := nr rfl
set_option maxRecDepth 100000 in
theorem v130_61 (n d : Nat) (L : List (Option mL)) (S : List mV) (M : Mm) (Q : mQ) : vc (n + 1) d 130 61 L S M Q = (gI L 2 fun x => vc n d 130 62 L (.inl x :: S) M Q) := nr rfl
set_option maxRecDepth 100000 in
theorem v130_62 (n d : Nat) (L : List (Option mL)) (S : List mV) (M : Mm) (Q : mQ) : vc (n + 1) d 130 62 L S M Q = (gI L 3 fun x => vc n d 130 63 L (.inl x :: S) M Q) := nr rfl
set_option maxRecDepth 100000 in
theorem v130_63 (n d : Nat) (L : List (Option mL)) (S : List mV) (M : Mm) (Q : mQ) : vc (n + 1) d 130 63 L S M Q = (pAs 2 S fun as S => pA S fun a S => shO M a 10 (stk S ≤ 8 ∧ XC d 134 (.inr (some a) :: as) M (fun r M => ∃ x : Int32, r = some (.inl x) ∧ X d 130 66 L (.inl x :: S) M Q))) := nr rfl
set_option maxRecDepth 100000 in
theorem v130_66 (n d : Nat) (L : List (Option mL)) (S : List mV) (M : Mm) (Q : mQ) : vc (n + 1) d 130 66 L S M Q = (pI S fun x S => vc n d 130 67 L (.inl x.toInt8.toInt32 :: S) M Q) := nr rfl
set_option maxRecDepth 100000 in
theorem v130_67 (n d : Nat) (L : List (Option mL)) (S : List mV) (M : Mm) (Q : mQ) : vc (n + 1) d 130 67 L S M Q = (pI S fun x S => pI S fun i S => pA S fun a S => shA M a fun t k => (t = 42 ∨ t = 44) ∧ inB i k ∧ vc n d 130 68 L S (M.si a i.toNatClampNeg (bnar t x)) Q) := nr rfl
set_option maxRecDepth 100000 in
theorem v130_68 (n d : Nat) (L : List (Option mL)) (S : List mV) (M : Mm) (Q : mQ) : vc (n + 1) d 130 68 L S M Q = (gI L 3 fun x => sL L 3 (some (.inl (x + 1))) fun L => vc n d 130 71 L S M Q) := nr rfl
set_option maxRecDepth 100000 in
theorem v130_71 (n d : Nat) (L : List (Option mL)) (S : List mV) (M : Mm) (Q : mQ) : vc (n + 1) d 130 71 L S M Q = (X d 130 47 L S M Q) := nr rfl
set_option maxRecDepth 100000 in
theorem v130_74 (n d : Nat) (L : List (Option mL)) (S : List mV) (M : Mm) (Q : mQ) : vc (n + 1) d 130 74 L S M Q = (gR L 0 fun x => vc n d 130 75 L (.inr (.inr x) :: S) M Q) := nr rfl
set_option maxRecDepth 100000 in
theorem v130_75 (n d : Nat) (L : List (Option mL)) (S : List mV) (M : Mm) (Q : mQ) : vc (n + 1) d 130 75 L S M Q = (gI L 2 fun x => vc n d 130 76 L (.inl x :: S) M Q) := nr rfl
set_option maxRecDepth 100000 in
theorem v130_76 (n d : Nat) (L : List (Option mL)) (S : List mV) (M : Mm) (Q : mQ) : vc (n + 1) d 130 76 L S M Q = (pAs 1 S fun as S => pA S fun a S => shO M a 10 (stk S ≤ 8 ∧ XC d 135 (.inr (some a) :: as) M (fun r M => r = none ∧ X d 130 79 L S M Q))) := nr rfl
set_option maxRecDepth 100000 in
theorem v130_79 (n d : Nat) (L : List (Option mL)) (S : List mV) (M : Mm) (Q : mQ) : vc (n + 1) d 130 79 L S M Q = (gR L 0 fun x => vc n d 130 80 L (.inr (.inr x) :: S) M Q) := nr rfl
set_option maxRecDepth 100000 in
theorem v130_80 (n d : Nat) (L : List (Option mL)) (S : List mV) (M : Mm) (Q : mQ) : vc (n + 1) d 130 80 L S M Q = (pA S fun a S => shO M a 10 (vc n d 130 83 L (.inl (M.it a 34) :: S) M Q)) := nr rfl
set_option maxRecDepth 100000 in
theorem v130_83 (n d : Nat) (L : List (Option mL)) (S : List mV) (M : Mm) (Q : mQ) : vc (n + 1) d 130 83 L S M Q = (pI S fun x S => S = [] ∧ (0 = 0 ∨ x = 0 ∨ x = 1) ∧ Q (some (.inl x)) M) := nr rfl
set_option maxRecDepth 100000 in
theorem v131_0 (n d : Nat) (L : List (Option mL)) (S : List mV) (M : Mm) (Q : mQ) : vc (n + 1) d 131 0 L S M Q = (gR L 0 fun x => vc n d 131 1 L (.inr (.inr x) :: S) M Q) := nr rfl
set_option maxRecDepth 100000 in
theorem v131_1 (n d : Nat) (L : List (Option mL)) (S : List mV) (M : Mm) (Q : mQ) : vc (n + 1) d 131 1 L S M Q = (gI L 1 fun x => vc n d 131 2 L (.inl x :: S) M Q) := nr rfl
set_option maxRecDepth 100000 in
theorem v131_2 (n d : Nat) (L : List (Option mL)) (S : List mV) (M : Mm) (Q : mQ) : vc (n + 1) d 131 2 L S M Q = (vc n d 131 3 L (.inl 3 :: S) M Q) := nr rfl
set_option maxRecDepth 100000 in
theorem v131_3 (n d : Nat) (L : List (Option mL)) (S : List mV) (M : Mm) (Q : mQ) : vc (n + 1) d 131 3 L S M Q = (pAs 2 S fun as S => pA S fun a S => shO M a 10 (stk S ≤ 8 ∧ XC d 132 (.inr (some a) :: as) M (fun r M => ∃ x : Int32, r = some (.inl x) ∧ X d 131 6 L (.inl x :: S) M Q))) := nr rfl
set_option maxRecDepth 100000 in
theorem v131_6 (n d : Nat) (L : List (Option mL)) (S : List mV) (M : Mm) (Q : mQ) : vc (n + 1) d 131 6 L S M Q = (pI S fun x S => S = [] ∧ (0 = 0 ∨ x = 0 ∨ x = 1) ∧ Q (some (.inl x)) M) := nr rfl
set_option maxRecDepth 100000 in
theorem v132_0 (n d : Nat) (L : List (Option mL)) (S : List mV) (M : Mm) (Q : mQ) : vc (n + 1) d 132 0 L S M Q = (gR L 0 fun x => vc n d 132 1 L (.inr (.inr x) :: S) M Q) := nr rfl
set_option maxRecDepth 100000 in
theorem v132_1 (n d : Nat) (L : List (Option mL)) (S : List mV) (M : Mm) (Q : mQ) : vc (n + 1) d 132 1 L S M Q = (gI L 1 fun x => vc n d 132 2 L (.inl x :: S) M Q) := nr rfl
set_option maxRecDepth 100000 in
theorem v132_2 (n d : Nat) (L : List (Option mL)) (S : List mV) (M : Mm) (Q : mQ) : vc (n + 1) d 132 2 L S M Q = (pAs 1 S fun as S => pA S fun a S => shO M a 10 (stk S ≤ 8 ∧ XC d 133 (.inr (some a) :: as) M (fun r M => ∃ x : Int32, r = some (.inl x) ∧ X d 132 5 L (.inl x :: S) M Q))) := nr rfl
set_option maxRecDepth 100000 in
theorem v132_5 (n d : Nat) (L : List (Option mL)) (S : List mV) (M : Mm) (Q : mQ) : vc (n + 1) d 132 5 L S M Q = (pI S fun x S => sL L 3 (some (.inl x)) fun L => vc n d 132 6 L S M Q) := nr rfl
set_option maxRecDepth 100000 in
theorem v132_6 (n d : Nat) (L : List (Option mL)) (S : List mV) (M : Mm) (Q : mQ) : vc (n + 1) d 132 6 L S M Q = (gI L 3 fun x => vc n d 132 7 L (.inl x :: S) M Q) := nr rfl
set_option maxRecDepth 100000 in
theorem v132_7 (n d : Nat) (L : List (Option mL)) (S : List mV) (M : Mm) (Q : mQ) : vc (n + 1) d 132 7 L S M Q = (vc n d 132 8 L (.inl (-1) :: S) M Q) := nr rfl
set_option maxRecDepth 100000 in
theorem v132_8 (n d : Nat) (L : List (Option mL)) (S : List mV) (M : Mm) (Q : mQ) : vc (n + 1) d 132 8 L S M Q = (pI S fun y S => pI S fun x S => (¬ x = y → vc n d 132 25 L S M Q) ∧ (¬ (¬ x = y) → vc n d 132 11 L S M Q)) := nr rfl
set_option maxRecDepth 100000 in
theorem v132_11 (n d : Nat) (L : List (Option mL)) (S : List mV) (M : Mm) (Q : mQ) : vc (n + 1) d 132 11 L S M Q = (gR L 0 fun x => vc n d 132 12 L (.inr (.inr x) :: S) M Q) := nr rfl
set_option maxRecDepth 100000 in
theorem v132_12 (n d : Nat) (L : List (Option mL)) (S : List mV) (M : Mm) (Q : mQ) : vc (n + 1) d 132 12 L S M Q = (pA S fun a S => shO M a 10 (rrf M a 3 fun r => vc n d 132 15 L (.inr (.inr r) :: S) M Q)) := nr rfl
set_option maxRecDepth 100000 in
theorem v132_15 (n d : Nat) (L : List (Option mL)) (S : List mV) (M : Mm) (Q : mQ) : vc (n + 1) d 132 15 L S M Q = (vc n d 132 17 L (.inl 16 :: S) M Q) := nr rfl
set_option maxRecDepth 100000 in
theorem v132_17 (n d : Nat) (L : List (Option mL)) (S : List mV) (M : Mm) (Q : mQ) : vc (n + 1) d 132 17 L S M Q = (gI L 1 fun x => vc n d 132 18 L (.inl x :: S) M Q) := nr rfl
set_option maxRecDepth 100000 in
theorem v132_18 (n d : Nat) (L : List (Option mL)) (S : List mV) (M : Mm) (Q : mQ) : vc (n + 1) d 132 18 L S M Q = (pI S fun y S => pI S fun x S => vc n d 132 19 L (.inl (x * y) :: S) M Q) := nr rfl
set_option maxRecDepth 100000 in
theorem v132_19 (n d : Nat) (L : List (Option mL)) (S : List mV) (M : Mm) (Q : mQ) : vc (n + 1) d 132 19 L S M Q = (gI L 2 fun x => vc n d 132 20 L (.inl x :: S) M Q) := nr rfl
set_option maxRecDepth 100000 in
theorem v132_20 (n d : Nat) (L : List (Option mL)) (S : List mV) (M : Mm) (Q : mQ) : vc (n + 1) d 132 20 L S M Q = (pI S fun y S => pI S fun x S => vc n d 132 21 L (.inl (x + y) :: S) M Q) := nr rfl
set_option maxRecDepth 100000 in
theorem v132_21 (n d : Nat) (L : List (Option mL)) (S : List mV) (M : Mm) (Q : mQ) : vc (n + 1) d 132 21 L S M Q = (pI S fun i S => pA S fun a S => shA M a fun t k => (t = 42 ∨ t = 44) ∧ inB i k ∧ vc n d 132 22 L (.inl (M.it a i.toNatClampNeg) :: S) M Q) := nr rfl
set_option maxRecDepth 100000 in
theorem v132_22 (n d : Nat) (L : List (Option mL)) (S : List mV) (M : Mm) (Q : mQ) : vc (n + 1) d 132 22 L S M Q = (vc n d 132 36 L S M Q) := nr rfl
set_option maxRecDepth 100000 in
theorem v132_25 (n d : Nat) (L : List (Option mL)) (S : List mV) (M : Mm) (Q : mQ) : vc (n + 1) d 132 25 L S M Q = (gR L 0 fun x => vc n d 132 26 L (.inr (.inr x) :: S) M Q) := nr rfl
set_option maxRecDepth 100000 in
theorem v132_26 (n d : Nat) (L : List (Option mL)) (S : List mV) (M : Mm) (Q : mQ) : vc (n + 1) d 132 26 L S M Q = (pA S fun a S => shO M a 10 (rrf M a 23 fun r => vc n d 132 29 L (.inr (.inr r) :: S) M Q)) := nr rfl
set_option maxRecDepth 100000 in
theorem v132_29 (n d : Nat) (L : List (Option mL)) (S : List mV) (M : Mm) (Q : mQ) : vc (n + 1) d 132 29 L S M Q = (vc n d 132 31 L (.inl 16 :: S) M Q) := nr rfl
set_option maxRecDepth 100000 in
theorem v132_31 (n d : Nat) (L : List (Option mL)) (S : List mV) (M : Mm) (Q : mQ) : vc (n + 1) d 132 31 L S M Q = (gI L 3 fun x => vc n d 132 32 L (.inl x :: S) M Q) := nr rfl
set_option maxRecDepth 100000 in
theorem v132_32 (n d : Nat) (L : List (Option mL)) (S : List mV) (M : Mm) (Q : mQ) : vc (n + 1) d 132 32 L S M Q = (pI S fun y S => pI S fun x S => vc n d 132 33 L (.inl (x * y) :: S) M Q) := nr rfl
set_option maxRecDepth 100000 in
theorem v132_33 (n d : Nat) (L : List (Option mL)) (S : List mV) (M : Mm) (Q : mQ) : vc (n + 1) d 132 33 L S M Q = (gI L 2 fun x => vc n d 132 34 L (.inl x :: S) M Q) := nr rfl
set_option maxRecDepth 100000 in
theorem v132_34 (n d : Nat) (L : List (Option mL)) (S : List mV) (M : Mm) (Q : mQ) : vc (n + 1) d 132 34 L S M Q = (pI S fun y S => pI S fun x S => vc n d 132 35 L (.inl (x + y) :: S) M Q) := nr rfl
set_option maxRecDepth 100000 in
theorem v132_35 (n d : Nat) (L : List (Option mL)) (S : List mV) (M : Mm) (Q : mQ) : vc (n + 1) d 132 35 L S M Q = (pI S fun i S => pA S fun a S => shA M a fun t k => (t = 42 ∨ t = 44) ∧ inB i k ∧ vc n d 132 36 L (.inl (M.it a i.toNatClampNeg) :: S) M Q) := nr rfl
set_option maxRecDepth 100000 in
theorem v132_36 (n d : Nat) (L : List (Option mL)) (S : List mV) (M : Mm) (Q : mQ) : vc (n + 1) d 132 36 L S M Q = (vc n d 132 39 L (.inl 255 :: S) M Q) := nr rfl
set_option maxRecDepth 100000 in
theorem v132_39 (n d : Nat) (L : List (Option mL)) (S : List mV) (M : Mm) (Q : mQ) : vc (n + 1) d 132 39 L S M Q = (pI S fun y S => pI S fun x S => vc n d 132 40 L (.inl (x &&& y) :: S) M Q) := nr rfl
set_option maxRecDepth 100000 in
theorem v132_40 (n d : Nat) (L : List (Option mL)) (S : List mV) (M : Mm) (Q : mQ) : vc (n + 1) d 132 40 L S M Q = (pI S fun x S => S = [] ∧ (0 = 0 ∨ x = 0 ∨ x = 1) ∧ Q (some (.inl x)) M) := nr rfl
set_option maxRecDepth 100000 in
theorem v133_0 (n d : Nat) (L : List (Option mL)) (S : List mV) (M : Mm) (Q : mQ) : vc (n + 1) d 133 0 L S M Q = (gR L 0 fun x => vc n d 133 1 L (.inr (.inr x) :: S) M Q) := nr rfl
set_option maxRecDepth 100000 in
theorem v133_1 (n d : Nat) (L : List (Option mL)) (S : List mV) (M : Mm) (Q : mQ) : vc (n + 1) d 133 1 L S M Q = (pA S fun a S => shO M a 10 (vc n d 133 4 L (.inl (M.it a 14) :: S) M Q)) := nr rfl
set_option maxRecDepth 100000 in
theorem v133_4 (n d : Nat) (L : List (Option mL)) (S : List mV) (M : Mm) (Q : mQ) : vc (n + 1) d 133 4 L S M Q = (vc n d 133 5 L (.inl 1 :: S) M Q) := nr rfl
set_option maxRecDepth 100000 in
theorem v133_5 (n d : Nat) (L : List (Option mL)) (S : List mV) (M : Mm) (Q : mQ) : vc (n + 1) d 133 5 L S M Q = (pI S fun y S => pI S fun x S => vc n d 133 6 L (.inl (x - y) :: S) M Q) := nr rfl
set_option maxRecDepth 100000 in
theorem v133_6 (n d : Nat) (L : List (Option mL)) (S : List mV) (M : Mm) (Q : mQ) : vc (n + 1) d 133 6 L S M Q = (pI S fun x S => sL L 2 (some (.inl x)) fun L => X d 133 7 L S M Q) := nr rfl
set_option maxRecDepth 100000 in
theorem v133_7 (n d : Nat) (L : List (Option mL)) (S : List mV) (M : Mm) (Q : mQ) : vc (n + 1) d 133 7 L S M Q = (gI L 2 fun x => vc n d 133 8 L (.inl x :: S) M Q) := nr rfl
set_option maxRecDepth 100000 in
theorem v133_8 (n d : Nat) (L : List (Option mL)) (S : List mV) (M : Mm) (Q : mQ) : vc (n + 1) d 133 8 L S M Q = (pI S fun x S => (x < 0 → vc n d 133 29 L S M Q) ∧ (¬ (x < 0) → vc n d 133 11 L S M Q)) := nr rfl
set_option maxRecDepth 100000 in
theorem v133_11 (n d : Nat) (L : List (Option mL)) (S : List mV) (M : Mm) (Q : mQ) : vc (n + 1) d 133 11 L S M Q = (gR L 0 fun x => vc n d 133 12 L (.inr (.inr x) :: S) M Q) := nr rfl
set_option maxRecDepth 100000 in
theorem v133_12 (n d : Nat) (L : List (Option mL)) (S : List mV) (M : Mm) (Q : mQ) : vc (n + 1) d 133 12 L S M Q = (pA S fun a S => shO M a 10 (rrf M a 20 fun r => vc n d 133 15 L (.inr (.inr r) :: S) M Q)) := nr rfl
set_option maxRecDepth 100000 in
theorem v133_15 (n d : Nat) (L : List (Option mL)) (S : List mV) (M : Mm) (Q : mQ) : vc (n + 1) d 133 15 L S M Q = (gI L 2 fun x => vc n d 133 16 L (.inl x :: S) M Q) := nr rfl
set_option maxRecDepth 100000 in
theorem v133_16 (n d : Nat) (L : List (Option mL)) (S : List mV) (M : Mm) (Q : mQ) : vc (n + 1) d 133 16 L S M Q = (pI S fun i S => pA S fun a S => shA M a fun t k => (t = 40 ∨ t = 41) ∧ inB i k ∧ vc n d 133 17 L (.inl (M.it a i.toNatClampNeg) :: S) M Q) := nr rfl
set_option maxRecDepth 100000 in
theorem v133_17 (n d : Nat) (L : List (Option mL)) (S : List mV) (M : Mm) (Q : mQ) : vc (n + 1) d 133 17 L S M Q = (gI L 1 fun x => vc n d 133 18 L (.inl x :: S) M Q) := nr rfl
set_option maxRecDepth 100000 in
theorem v133_18 (n d : Nat) (L : List (Option mL)) (S : List mV) (M : Mm) (Q : mQ) : vc (n + 1) d 133 18 L S M Q = (pI S fun y S => pI S fun x S => (¬ x = y → vc n d 133 23 L S M Q) ∧ (¬ (¬ x = y) → vc n d 133 21 L S M Q)) := nr rfl
set_option maxRecDepth 100000 in
theorem v133_21 (n d : Nat) (L : List (Option mL)) (S : List mV) (M : Mm) (Q : mQ) : vc (n + 1) d 133 21 L S M Q = (gI L 2 fun x => vc n d 133 22 L (.inl x :: S) M Q) := nr rfl
set_option maxRecDepth 100000 in
theorem v133_22 (n d : Nat) (L : List (Option mL)) (S : List mV) (M : Mm) (Q : mQ) : vc (n + 1) d 133 22 L S M Q = (pI S fun x S => S = [] ∧ (0 = 0 ∨ x = 0 ∨ x = 1) ∧ Q (some (.inl x)) M) := nr rfl
set_option maxRecDepth 100000 in
theorem v133_23 (n d : Nat) (L : List (Option mL)) (S : List mV) (M : Mm) (Q : mQ) : vc (n + 1) d 133 23 L S M Q = (gI L 2 fun x => sL L 2 (some (.inl (x + (-1)))) fun L => vc n d 133 26 L S M Q) := nr rfl
set_option maxRecDepth 100000 in
theorem v133_26 (n d : Nat) (L : List (Option mL)) (S : List mV) (M : Mm) (Q : mQ) : vc (n + 1) d 133 26 L S M Q = (X d 133 7 L S M Q) := nr rfl
set_option maxRecDepth 100000 in
theorem v133_29 (n d : Nat) (L : List (Option mL)) (S : List mV) (M : Mm) (Q : mQ) : vc (n + 1) d 133 29 L S M Q = (vc n d 133 30 L (.inl (-1) :: S) M Q) := nr rfl
set_option maxRecDepth 100000 in
theorem v133_30 (n d : Nat) (L : List (Option mL)) (S : List mV) (M : Mm) (Q : mQ) : vc (n + 1) d 133 30 L S M Q = (pI S fun x S => S = [] ∧ (0 = 0 ∨ x = 0 ∨ x = 1) ∧ Q (some (.inl x)) M) := nr rfl
set_option maxRecDepth 100000 in
theorem v134_0 (n d : Nat) (L : List (Option mL)) (S : List mV) (M : Mm) (Q : mQ) : vc (n + 1) d 134 0 L S M Q = (gR L 0 fun x => vc n d 134 1 L (.inr (.inr x) :: S) M Q) := nr rfl
set_option maxRecDepth 100000 in
theorem v134_1 (n d : Nat) (L : List (Option mL)) (S : List mV) (M : Mm) (Q : mQ) : vc (n + 1) d 134 1 L S M Q = (gI L 1 fun x => vc n d 134 2 L (.inl x :: S) M Q) := nr rfl
set_option maxRecDepth 100000 in
theorem v134_2 (n d : Nat) (L : List (Option mL)) (S : List mV) (M : Mm) (Q : mQ) : vc (n + 1) d 134 2 L S M Q = (gI L 2 fun x => vc n d 134 3 L (.inl x :: S) M Q) := nr rfl
set_option maxRecDepth 100000 in
theorem v134_3 (n d : Nat) (L : List (Option mL)) (S : List mV) (M : Mm) (Q : mQ) : vc (n + 1) d 134 3 L S M Q = (vc n d 134 5 L (.inl 6 :: S) M Q) := nr rfl
set_option maxRecDepth 100000 in
theorem v134_5 (n d : Nat) (L : List (Option mL)) (S : List mV) (M : Mm) (Q : mQ) : vc (n + 1) d 134 5 L S M Q = (pI S fun y S => pI S fun x S => vc n d 134 6 L (.inl (x + y) :: S) M Q) := nr rfl
set_option maxRecDepth 100000 in
theorem v134_6 (n d : Nat) (L : List (Option mL)) (S : List mV) (M : Mm) (Q : mQ) : vc (n + 1) d 134 6 L S M Q = (vc n d 134 8 L (.inl 16 :: S) M Q) := nr rfl
set_option maxRecDepth 100000 in
theorem v134_8 (n d : Nat) (L : List (Option mL)) (S : List mV) (M : Mm) (Q : mQ) : vc (n + 1) d 134 8 L S M Q = (pI S fun y S => pI S fun x S => ¬ y = 0 ∧ vc n d 134 9 L (.inl (x / y) :: S) M Q) := nr rfl
set_option maxRecDepth 100000 in
theorem v134_9 (n d : Nat) (L : List (Option mL)) (S : List mV) (M : Mm) (Q : mQ) : vc (n + 1) d 134 9 L S M Q = (pI S fun y S => pI S fun x S => vc n d 134 10 L (.inl (x + y) :: S) M Q) := nr rfl
set_option maxRecDepth 100000 in
theorem v134_10 (n d : Nat) (L : List (Option mL)) (S : List mV) (M : Mm) (Q : mQ) : vc (n + 1) d 134 10 L S M Q = (gI L 2 fun x => vc n d 134 11 L (.inl x :: S) M Q) := nr rfl
set_option maxRecDepth 100000 in
theorem v134_11 (n d : Nat) (L : List (Option mL)) (S : List mV) (M : Mm) (Q : mQ) : vc (n + 1) d 134 11 L S M Q = (vc n d 134 13 L (.inl 6 :: S) M Q) := nr rfl
set_option maxRecDepth 100000 in
theorem v134_13 (n d : Nat) (L : List (Option mL)) (S : List mV) (M : Mm) (Q : mQ) : vc (n + 1) d 134 13 L S M Q = (pI S fun y S => pI S fun x S => vc n d 134 14 L (.inl (x + y) :: S) M Q) := nr rfl
set_option maxRecDepth 100000 in
theorem v134_14 (n d : Nat) (L : List (Option mL)) (S : List mV) (M : Mm) (Q : mQ) : vc (n + 1) d 134 14 L S M Q = (vc n d 134 16 L (.inl 16 :: S) M Q) := nr rfl
set_option maxRecDepth 100000 in
theorem v134_16 (n d : Nat) (L : List (Option mL)) (S : List mV) (M : Mm) (Q : mQ) : vc (n + 1) d 134 16 L S M Q = (pI S fun y S => pI S fun x S => ¬ y = 0 ∧ vc n d 134 17 L (.inl (x - x / y * y) :: S) M Q) := nr rfl
set_option maxRecDepth 100000 in
theorem v134_17 (n d : Nat) (L : List (Option mL)) (S : List mV) (M : Mm) (Q : mQ) : vc (n + 1) d 134 17 L S M Q = (pAs 2 S fun as S => pA S fun a S => shO M a 10 (stk S ≤ 8 ∧ XC d 132 (.inr (some a) :: as) M (fun r M => ∃ x : Int32, r = some (.inl x) ∧ X d 134 20 L (.inl x :: S) M Q))) := nr rfl
set_option maxRecDepth 100000 in
theorem v134_20 (n d : Nat) (L : List (Option mL)) (S : List mV) (M : Mm) (Q : mQ) : vc (n + 1) d 134 20 L S M Q = (pI S fun x S => S = [] ∧ (0 = 0 ∨ x = 0 ∨ x = 1) ∧ Q (some (.inl x)) M) := nr rfl
set_option maxRecDepth 100000 in
theorem v135_0 (n d : Nat) (L : List (Option mL)) (S : List mV) (M : Mm) (Q : mQ) : vc (n + 1) d 135 0 L S M Q = (vc n d 135 1 L (.inl 0 :: S) M Q) := nr rfl
set_option maxRecDepth 100000 in
theorem v135_1 (n d : Nat) (L : List (Option mL)) (S : List mV) (M : Mm) (Q : mQ) : vc (n + 1) d 135 1 L S M Q = (pI S fun x S => sL L 2 (some (.inl x)) fun L => X d 135 2 L S M Q) := nr rfl
set_option maxRecDepth 100000 in
theorem v135_2 (n d : Nat) (L : List (Option mL)) (S : List mV) (M : Mm) (Q : mQ) : vc (n + 1) d 135 2 L S M Q = (gI L 2 fun x => vc n d 135 3 L (.inl x :: S) M Q) := nr rfl
set_option maxRecDepth 100000 in
theorem v135_3 (n d : Nat) (L : List (Option mL)) (S : List mV) (M : Mm) (Q : mQ) : vc (n + 1) d 135 3 L S M Q = (gR L 0 fun x => vc n d 135 4 L (.inr (.inr x) :: S) M Q) := nr rfl
set_option maxRecDepth 100000 in
theorem v135_4 (n d : Nat) (L : List (Option mL)) (S : List mV) (M : Mm) (Q : mQ) : vc (n + 1) d 135 4 L S M Q = (gI L 1 fun x => vc n d 135 5 L (.inl x :: S) M Q) := nr rfl
set_option maxRecDepth 100000 in
theorem v135_5 (n d : Nat) (L : List (Option mL)) (S : List mV) (M : Mm) (Q : mQ) : vc (n + 1) d 135 5 L S M Q = (pAs 1 S fun as S => pA S fun a S => shO M a 10 (stk S ≤ 8 ∧ XC d 131 (.inr (some a) :: as) M (fun r M => ∃ x : Int32, r = some (.inl x) ∧ X d 135 8 L (.inl x :: S) M Q))) := nr rfl
set_option maxRecDepth 100000 in
theorem v135_8 (n d : Nat) (L : List (Option mL)) (S : List mV) (M : Mm) (Q : mQ) : vc (n + 1) d 135 8 L S M Q = (pAs 1 S fun as S => stk S ≤ 8 ∧ XC d 122 as M (fun r M => ∃ x : Int32, r = some (.inl x) ∧ X d 135 11 L (.inl x :: S) M Q)) := nr rfl
set_option maxRecDepth 100000 in
theorem v135_11 (n d : Nat) (L : List (Option mL)) (S : List mV) (M : Mm) (Q : mQ) : vc (n + 1) d 135 11 L S M Q = (pI S fun y S => pI S fun x S => (y ≤ x → vc n d 135 27 L S M Q) ∧ (¬ (y ≤ x) → vc n d 135 14 L S M Q)) := nr rfl
set_option maxRecDepth 100000 in
theorem v135_14 (n d : Nat) (L : List (Option mL)) (S : List mV) (M : Mm) (Q : mQ) : vc (n + 1) d 135 14 L S M Q = (gR L 0 fun x => vc n d 135 15 L (.inr (.inr x) :: S) M Q) := nr rfl
set_option maxRecDepth 100000 in
theorem v135_15 (n d : Nat) (L : List (Option mL)) (S : List mV) (M : Mm) (Q : mQ) : vc (n + 1) d 135 15 L S M Q = (gI L 1 fun x => vc n d 135 16 L (.inl x :: S) M Q) := nr rfl
set_option maxRecDepth 100000 in
theorem v135_16 (n d : Nat) (L : List (Option mL)) (S : List mV) (M : Mm) (Q : mQ) : vc (n + 1) d 135 16 L S M Q = (gI L 2 fun x => vc n d 135 17 L (.inl x :: S) M Q) := nr rfl
set_option maxRecDepth 100000 in
theorem v135_17 (n d : Nat) (L : List (Option mL)) (S : List mV) (M : Mm) (Q : mQ) : vc (n + 1) d 135 17 L S M Q = (pI S fun y S => pI S fun x S => vc n d 135 18 L (.inl (x + y) :: S) M Q) := nr rfl
set_option maxRecDepth 100000 in
theorem v135_18 (n d : Nat) (L : List (Option mL)) (S : List mV) (M : Mm) (Q : mQ) : vc (n + 1) d 135 18 L S M Q = (pAs 1 S fun as S => pA S fun a S => shO M a 10 (stk S ≤ 8 ∧ XC d 136 (.inr (some a) :: as) M (fun r M => r = none ∧ X d 135 21 L S M Q))) := nr rfl
set_option maxRecDepth 100000 in
theorem v135_21 (n d : Nat) (L : List (Option mL)) (S : List mV) (M : Mm) (Q : mQ) : vc (n + 1) d 135 21 L S M Q = (gI L 2 fun x => sL L 2 (some (.inl (x + 1))) fun L => vc n d 135 24 L S M Q) := nr rfl
set_option maxRecDepth 100000 in
theorem v135_24 (n d : Nat) (L : List (Option mL)) (S : List mV) (M : Mm) (Q : mQ) : vc (n + 1) d 135 24 L S M Q = (X d 135 2 L S M Q) := nr rfl
set_option maxRecDepth 100000 in
theorem v135_27 (n d : Nat) (L : List (Option mL)) (S : List mV) (M : Mm) (Q : mQ) : vc (n + 1) d 135 27 L S M Q = (S = [] ∧ Q none M) := nr rfl
set_option maxRecDepth 100000 in
theorem v136_0 (n d : Nat) (L : List (Option mL)) (S : List mV) (M : Mm) (Q : mQ) : vc (n + 1) d 136 0 L S M Q = (gR L 0 fun x => vc n d 136 1 L (.inr (.inr x) :: S) M Q) := nr rfl
set_option maxRecDepth 100000 in
theorem v136_1 (n d : Nat) (L : List (Option mL)) (S : List mV) (M : Mm) (Q : mQ) : vc (n + 1) d 136 1 L S M Q = (gI L 1 fun x => vc n d 136 2 L (.inl x :: S) M Q) := nr rfl
set_option maxRecDepth 100000 in
theorem v136_2 (n d : Nat) (L : List (Option mL)) (S : List mV) (M : Mm) (Q : mQ) : vc (n + 1) d 136 2 L S M Q = (pAs 1 S fun as S => pA S fun a S => shO M a 10 (stk S ≤ 8 ∧ XC d 133 (.inr (some a) :: as) M (fun r M => ∃ x : Int32, r = some (.inl x) ∧ X d 136 5 L (.inl x :: S) M Q))) := nr rfl
set_option maxRecDepth 100000 in
theorem v136_5 (n d : Nat) (L : List (Option mL)) (S : List mV) (M : Mm) (Q : mQ) : vc (n + 1) d 136 5 L S M Q = (vc n d 136 6 L (.inl (-1) :: S) M Q) := nr rfl
set_option maxRecDepth 100000 in
theorem v136_6 (n d : Nat) (L : List (Option mL)) (S : List mV) (M : Mm) (Q : mQ) : vc (n + 1) d 136 6 L S M Q = (pI S fun y S => pI S fun x S => (x = y → vc n d 136 10 L S M Q) ∧ (¬ (x = y) → vc n d 136 9 L S M Q)) := nr rfl
set_option maxRecDepth 100000 in
theorem v136_9 (n d : Nat) (L : List (Option mL)) (S : List mV) (M : Mm) (Q : mQ) : vc (n + 1) d 136 9 L S M Q = (S = [] ∧ Q none M) := nr rfl
set_option maxRecDepth 100000 in
theorem v136_10 (n d : Nat) (L : List (Option mL)) (S : List mV) (M : Mm) (Q : mQ) : vc (n + 1) d 136 10 L S M Q = (vc n d 136 11 L (.inl 0 :: S) M Q) := nr rfl
set_option maxRecDepth 100000 in
theorem v136_11 (n d : Nat) (L : List (Option mL)) (S : List mV) (M : Mm) (Q : mQ) : vc (n + 1) d 136 11 L S M Q = (pI S fun x S => sL L 2 (some (.inl x)) fun L => X d 136 12 L S M Q) := nr rfl
set_option maxRecDepth 100000 in
theorem v136_12 (n d : Nat) (L : List (Option mL)) (S : List mV) (M : Mm) (Q : mQ) : vc (n + 1) d 136 12 L S M Q = (gI L 2 fun x => vc n d 136 13 L (.inl x :: S) M Q) := nr rfl
set_option maxRecDepth 100000 in
theorem v136_13 (n d : Nat) (L : List (Option mL)) (S : List mV) (M : Mm) (Q : mQ) : vc (n + 1) d 136 13 L S M Q = (gR L 0 fun x => vc n d 136 14 L (.inr (.inr x) :: S) M Q) := nr rfl
set_option maxRecDepth 100000 in
theorem v136_14 (n d : Nat) (L : List (Option mL)) (S : List mV) (M : Mm) (Q : mQ) : vc (n + 1) d 136 14 L S M Q = (pA S fun a S => shO M a 10 (vc n d 136 17 L (.inl (M.it a 27) :: S) M Q)) := nr rfl
set_option maxRecDepth 100000 in
theorem v136_17 (n d : Nat) (L : List (Option mL)) (S : List mV) (M : Mm) (Q : mQ) : vc (n + 1) d 136 17 L S M Q = (pI S fun y S => pI S fun x S => (y ≤ x → X d 136 36 L S M Q) ∧ (¬ (y ≤ x) → vc n d 136 20 L S M Q)) := nr rfl
set_option maxRecDepth 100000 in
theorem v136_20 (n d : Nat) (L : List (Option mL)) (S : List mV) (M : Mm) (Q : mQ) : vc (n + 1) d 136 20 L S M Q = (gR L 0 fun x => vc n d 136 21 L (.inr (.inr x) :: S) M Q) := nr rfl
set_option maxRecDepth 100000 in
theorem v136_21 (n d : Nat) (L : List (Option mL)) (S : List mV) (M : Mm) (Q : mQ) : vc (n + 1) d 136 21 L S M Q = (pA S fun a S => shO M a 10 (rrf M a 26 fun r => vc n d 136 24 L (.inr (.inr r) :: S) M Q)) := nr rfl
set_option maxRecDepth 100000 in
theorem v136_24 (n d : Nat) (L : List (Option mL)) (S : List mV) (M : Mm) (Q : mQ) : vc (n + 1) d 136 24 L S M Q = (gI L 2 fun x => vc n d 136 25 L (.inl x :: S) M Q) := nr rfl
set_option maxRecDepth 100000 in
theorem v136_25 (n d : Nat) (L : List (Option mL)) (S : List mV) (M : Mm) (Q : mQ) : vc (n + 1) d 136 25 L S M Q = (pI S fun i S => pA S fun a S => shA M a fun t k => (t = 40 ∨ t = 41) ∧ inB i k ∧ vc n d 136 26 L (.inl (M.it a i.toNatClampNeg) :: S) M Q) := nr rfl
set_option maxRecDepth 100000 in
theorem v136_26 (n d : Nat) (L : List (Option mL)) (S : List mV) (M : Mm) (Q : mQ) : vc (n + 1) d 136 26 L S M Q = (gI L 1 fun x => vc n d 136 27 L (.inl x :: S) M Q) := nr rfl
set_option maxRecDepth 100000 in
theorem v136_27 (n d : Nat) (L : List (Option mL)) (S : List mV) (M : Mm) (Q : mQ) : vc (n + 1) d 136 27 L S M Q = (pI S fun y S => pI S fun x S => (x = y → X d 136 36 L S M Q) ∧ (¬ (x = y) → vc n d 136 30 L S M Q)) := nr rfl
set_option maxRecDepth 100000 in
theorem v136_30 (n d : Nat) (L : List (Option mL)) (S : List mV) (M : Mm) (Q : mQ) : vc (n + 1) d 136 30 L S M Q = (gI L 2 fun x => sL L 2 (some (.inl (x + 1))) fun L => vc n d 136 33 L S M Q) := nr rfl
set_option maxRecDepth 100000 in
theorem v136_33 (n d : Nat) (L : List (Option mL)) (S : List mV) (M : Mm) (Q : mQ) : vc (n + 1) d 136 33 L S M Q = (X d 136 12 L S M Q) := nr rfl
set_option maxRecDepth 100000 in
theorem v136_36 (n d : Nat) (L : List (Option mL)) (S : List mV) (M : Mm) (Q : mQ) : vc (n + 1) d 136 36 L S M Q = (gI L 2 fun x => vc n d 136 37 L (.inl x :: S) M Q) := nr rfl
set_option maxRecDepth 100000 in
theorem v136_37 (n d : Nat) (L : List (Option mL)) (S : List mV) (M : Mm) (Q : mQ) : vc (n + 1) d 136 37 L S M Q = (gR L 0 fun x => vc n d 136 38 L (.inr (.inr x) :: S) M Q) := nr rfl
set_option maxRecDepth 100000 in
theorem v136_38 (n d : Nat) (L : List (Option mL)) (S : List mV) (M : Mm) (Q : mQ) : vc (n + 1) d 136 38 L S M Q = (pA S fun a S => shO M a 10 (vc n d 136 41 L (.inl (M.it a 27) :: S) M Q)) := nr rfl
set_option maxRecDepth 100000 in
theorem v136_41 (n d : Nat) (L : List (Option mL)) (S : List mV) (M : Mm) (Q : mQ) : vc (n + 1) d 136 41 L S M Q = (pI S fun y S => pI S fun x S => (¬ x = y → X d 136 78 L S M Q) ∧ (¬ (¬ x = y) → vc n d 136 44 L S M Q)) := nr rfl
set_option maxRecDepth 100000 in
theorem v136_44 (n d : Nat) (L : List (Option mL)) (S : List mV) (M : Mm) (Q : mQ) : vc (n + 1) d 136 44 L S M Q = (gR L 0 fun x => vc n d 136 45 L (.inr (.inr x) :: S) M Q) := nr rfl
set_option maxRecDepth 100000 in
theorem v136_45 (n d : Nat) (L : List (Option mL)) (S : List mV) (M : Mm) (Q : mQ) : vc (n + 1) d 136 45 L S M Q = (pC S fun v S => vc n d 136 46 L (v :: v :: S) M Q) := nr rfl
set_option maxRecDepth 100000 in
theorem v136_46 (n d : Nat) (L : List (Option mL)) (S : List mV) (M : Mm) (Q : mQ) : vc (n + 1) d 136 46 L S M Q = (pA S fun a S => shO M a 10 (vc n d 136 49 L (.inl (M.it a 28) :: S) M Q)) := nr rfl
set_option maxRecDepth 100000 in
theorem v136_49 (n d : Nat) (L : List (Option mL)) (S : List mV) (M : Mm) (Q : mQ) : vc (n + 1) d 136 49 L S M Q = (vc n d 136 50 L (.inl 1 :: S) M Q) := nr rfl
set_option maxRecDepth 100000 in
theorem v136_50 (n d : Nat) (L : List (Option mL)) (S : List mV) (M : Mm) (Q : mQ) : vc (n + 1) d 136 50 L S M Q = (pI S fun y S => pI S fun x S => vc n d 136 51 L (.inl (x + y) :: S) M Q) := nr rfl
set_option maxRecDepth 100000 in
theorem v136_51 (n d : Nat) (L : List (Option mL)) (S : List mV) (M : Mm) (Q : mQ) : vc (n + 1) d 136 51 L S M Q = (pI S fun x S => pA S fun a S => shO M a 10 (vc n d 136 54 L S (M.si a 28 x) Q)) := nr rfl
set_option maxRecDepth 100000 in
theorem v136_54 (n d : Nat) (L : List (Option mL)) (S : List mV) (M : Mm) (Q : mQ) : vc (n + 1) d 136 54 L S M Q = (gR L 0 fun x => vc n d 136 55 L (.inr (.inr x) :: S) M Q) := nr rfl
set_option maxRecDepth 100000 in
theorem v136_55 (n d : Nat) (L : List (Option mL)) (S : List mV) (M : Mm) (Q : mQ) : vc (n + 1) d 136 55 L S M Q = (pA S fun a S => shO M a 10 (vc n d 136 58 L (.inl (M.it a 27) :: S) M Q)) := nr rfl
set_option maxRecDepth 100000 in
theorem v136_58 (n d : Nat) (L : List (Option mL)) (S : List mV) (M : Mm) (Q : mQ) : vc (n + 1) d 136 58 L S M Q = (vc n d 136 60 L (.inl 6 :: S) M Q) := nr rfl
set_option maxRecDepth 100000 in
theorem v136_60 (n d : Nat) (L : List (Option mL)) (S : List mV) (M : Mm) (Q : mQ) : vc (n + 1) d 136 60 L S M Q = (pI S fun y S => pI S fun x S => (y ≤ x → vc n d 136 76 L S M Q) ∧ (¬ (y ≤ x) → vc n d 136 63 L S M Q)) := nr rfl
set_option maxRecDepth 100000 in
theorem v136_63 (n d : Nat) (L : List (Option mL)) (S : List mV) (M : Mm) (Q : mQ) : vc (n + 1) d 136 63 L S M Q = (gR L 0 fun x => vc n d 136 64 L (.inr (.inr x) :: S) M Q) := nr rfl
set_option maxRecDepth 100000 in
theorem v136_64 (n d : Nat) (L : List (Option mL)) (S : List mV) (M : Mm) (Q : mQ) : vc (n + 1) d 136 64 L S M Q = (pC S fun v S => vc n d 136 65 L (v :: v :: S) M Q) := nr rfl
set_option maxRecDepth 100000 in
theorem v136_65 (n d : Nat) (L : List (Option mL)) (S : List mV) (M : Mm) (Q : mQ) : vc (n + 1) d 136 65 L S M Q = (pA S fun a S => shO M a 10 (vc n d 136 68 L (.inl (M.it a 27) :: S) M Q)) := nr rfl
set_option maxRecDepth 100000 in
theorem v136_68 (n d : Nat) (L : List (Option mL)) (S : List mV) (M : Mm) (Q : mQ) : vc (n + 1) d 136 68 L S M Q = (vc n d 136 69 L (.inl 1 :: S) M Q) := nr rfl
set_option maxRecDepth 100000 in
theorem v136_69 (n d : Nat) (L : List (Option mL)) (S : List mV) (M : Mm) (Q : mQ) : vc (n + 1) d 136 69 L S M Q = (pI S fun y S => pI S fun x S => vc n d 136 70 L (.inl (x + y) :: S) M Q) := nr rfl
set_option maxRecDepth 100000 in
theorem v136_70 (n d : Nat) (L : List (Option mL)) (S : List mV) (M : Mm) (Q : mQ) : vc (n + 1) d 136 70 L S M Q = (pI S fun x S => pA S fun a S => shO M a 10 (vc n d 136 73 L S (M.si a 27 x) Q)) := nr rfl
set_option maxRecDepth 100000 in
theorem v136_73 (n d : Nat) (L : List (Option mL)) (S : List mV) (M : Mm) (Q : mQ) : vc (n + 1) d 136 73 L S M Q = (X d 136 78 L S M Q) := nr rfl
set_option maxRecDepth 100000 in
theorem v136_76 (n d : Nat) (L : List (Option mL)) (S : List mV) (M : Mm) (Q : mQ) : vc (n + 1) d 136 76 L S M Q = (vc n d 136 77 L (.inl 5 :: S) M Q) := nr rfl
set_option maxRecDepth 100000 in
theorem v136_77 (n d : Nat) (L : List (Option mL)) (S : List mV) (M : Mm) (Q : mQ) : vc (n + 1) d 136 77 L S M Q = (pI S fun x S => sL L 2 (some (.inl x)) fun L => X d 136 78 L S M Q) := nr rfl
set_option maxRecDepth 100000 in
theorem v136_78 (n d : Nat) (L : List (Option mL)) (S : List mV) (M : Mm) (Q : mQ) : vc (n + 1) d 136 78 L S M Q = (gI L 2 fun x => vc n d 136 79 L (.inl x :: S) M Q) := nr rfl
set_option maxRecDepth 100000 in
theorem v136_79 (n d : Nat) (L : List (Option mL)) (S : List mV) (M : Mm) (Q : mQ) : vc (n + 1) d 136 79 L S M Q = (pI S fun x S => (x ≤ 0 → vc n d 136 102 L S M Q) ∧ (¬ (x ≤ 0) → vc n d 136 82 L S M Q)) := nr rfl
set_option maxRecDepth 100000 in
theorem v136_82 (n d : Nat) (L : List (Option mL)) (S : List mV) (M : Mm) (Q : mQ) : vc (n + 1) d 136 82 L S M Q = (gR L 0 fun x => vc n d 136 83 L (.inr (.inr x) :: S) M Q) := nr rfl
set_option maxRecDepth 100000 in
theorem v136_83 (n d : Nat) (L : List (Option mL)) (S : List mV) (M : Mm) (Q : mQ) : vc (n + 1) d 136 83 L S M Q = (pA S fun a S => shO M a 10 (rrf M a 26 fun r => vc n d 136 86 L (.inr (.inr r) :: S) M Q)) := nr rfl
set_option maxRecDepth 100000 in
theorem v136_86 (n d : Nat) (L : List (Option mL)) (S : List mV) (M : Mm) (Q : mQ) : vc (n + 1) d 136 86 L S M Q = (gI L 2 fun x => vc n d 136 87 L (.inl x :: S) M Q) := nr rfl
set_option maxRecDepth 100000 in
theorem v136_87 (n d : Nat) (L : List (Option mL)) (S : List mV) (M : Mm) (Q : mQ) : vc (n + 1) d 136 87 L S M Q = (gR L 0 fun x => vc n d 136 88 L (.inr (.inr x) :: S) M Q) := nr rfl
set_option maxRecDepth 100000 in
theorem v136_88 (n d : Nat) (L : List (Option mL)) (S : List mV) (M : Mm) (Q : mQ) : vc (n + 1) d 136 88 L S M Q = (pA S fun a S => shO M a 10 (rrf M a 26 fun r => vc n d 136 91 L (.inr (.inr r) :: S) M Q)) := nr rfl
set_option maxRecDepth 100000 in
theorem v136_91 (n d : Nat) (L : List (Option mL)) (S : List mV) (M : Mm) (Q : mQ) : vc (n + 1) d 136 91 L S M Q = (gI L 2 fun x => vc n d 136 92 L (.inl x :: S) M Q) := nr rfl
set_option maxRecDepth 100000 in
theorem v136_92 (n d : Nat) (L : List (Option mL)) (S : List mV) (M : Mm) (Q : mQ) : vc (n + 1) d 136 92 L S M Q = (vc n d 136 93 L (.inl 1 :: S) M Q) := nr rfl
set_option maxRecDepth 100000 in
theorem v136_93 (n d : Nat) (L : List (Option mL)) (S : List mV) (M : Mm) (Q : mQ) : vc (n + 1) d 136 93 L S M Q = (pI S fun y S => pI S fun x S => vc n d 136 94 L (.inl (x - y) :: S) M Q) := nr rfl
set_option maxRecDepth 100000 in
theorem v136_94 (n d : Nat) (L : List (Option mL)) (S : List mV) (M : Mm) (Q : mQ) : vc (n + 1) d 136 94 L S M Q = (pI S fun i S => pA S fun a S => shA M a fun t k => (t = 40 ∨ t = 41) ∧ inB i k ∧ vc n d 136 95 L (.inl (M.it a i.toNatClampNeg) :: S) M Q) := nr rfl
set_option maxRecDepth 100000 in
theorem v136_95 (n d : Nat) (L : List (Option mL)) (S : List mV) (M : Mm) (Q : mQ) : vc (n + 1) d 136 95 L S M Q = (pI S fun x S => pI S fun i S => pA S fun a S => shA M a fun t k => t = 41 ∧ inB i k ∧ vc n d 136 96 L S (M.si a i.toNatClampNeg x) Q) := nr rfl
set_option maxRecDepth 100000 in
theorem v136_96 (n d : Nat) (L : List (Option mL)) (S : List mV) (M : Mm) (Q : mQ) : vc (n + 1) d 136 96 L S M Q = (gI L 2 fun x => sL L 2 (some (.inl (x + (-1)))) fun L => vc n d 136 99 L S M Q) := nr rfl
set_option maxRecDepth 100000 in
theorem v136_99 (n d : Nat) (L : List (Option mL)) (S : List mV) (M : Mm) (Q : mQ) : vc (n + 1) d 136 99 L S M Q = (X d 136 78 L S M Q) := nr rfl
set_option maxRecDepth 100000 in
theorem v136_102 (n d : Nat) (L : List (Option mL)) (S : List mV) (M : Mm) (Q : mQ) : vc (n + 1) d 136 102 L S M Q = (gR L 0 fun x => vc n d 136 103 L (.inr (.inr x) :: S) M Q) := nr rfl
set_option maxRecDepth 100000 in
theorem v136_103 (n d : Nat) (L : List (Option mL)) (S : List mV) (M : Mm) (Q : mQ) : vc (n + 1) d 136 103 L S M Q = (pA S fun a S => shO M a 10 (rrf M a 26 fun r => vc n d 136 106 L (.inr (.inr r) :: S) M Q)) := nr rfl
set_option maxRecDepth 100000 in
theorem v136_106 (n d : Nat) (L : List (Option mL)) (S : List mV) (M : Mm) (Q : mQ) : vc (n + 1) d 136 106 L S M Q = (vc n d 136 107 L (.inl 0 :: S) M Q) := nr rfl
set_option maxRecDepth 100000 in
theorem v136_107 (n d : Nat) (L : List (Option mL)) (S : List mV) (M : Mm) (Q : mQ) : vc (n + 1) d 136 107 L S M Q = (gI L 1 fun x => vc n d 136 108 L (.inl x :: S) M Q) := nr rfl
set_option maxRecDepth 100000 in
theorem v136_108 (n d : Nat) (L : List (Option mL)) (S : List mV) (M : Mm) (Q : mQ) : vc (n + 1) d 136 108 L S M Q = (pI S fun x S => pI S fun i S => pA S fun a S => shA M a fun t k => t = 41 ∧ inB i k ∧ vc n d 136 109 L S (M.si a i.toNatClampNeg x) Q) := nr rfl
set_option maxRecDepth 100000 in
theorem v136_109 (n d : Nat) (L : List (Option mL)) (S : List mV) (M : Mm) (Q : mQ) : vc (n + 1) d 136 109 L S M Q = (S = [] ∧ Q none M) := nr rfl
set_option maxRecDepth 100000 in
theorem v137_0 (n d : Nat) (L : List (Option mL)) (S : List mV) (M : Mm) (Q : mQ) : vc (n + 1) d 137 0 L S M Q = (gR L 0 fun x => vc n d 137 1 L (.inr (.inr x) :: S) M Q) := nr rfl
set_option maxRecDepth 100000 in
theorem v137_1 (n d : Nat) (L : List (Option mL)) (S : List mV) (M : Mm) (Q : mQ) : vc (n + 1) d 137 1 L S M Q = (vc n d 137 2 L (.inl 0 :: S) M Q) := nr rfl
set_option maxRecDepth 100000 in
theorem v137_2 (n d : Nat) (L : List (Option mL)) (S : List mV) (M : Mm) (Q : mQ) : vc (n + 1) d 137 2 L S M Q = (pI S fun x S => pA S fun a S => shO M a 10 (vc n d 137 5 L S (M.si a 0 x) Q)) := nr rfl
set_option maxRecDepth 100000 in
theorem v137_5 (n d : Nat) (L : List (Option mL)) (S : List mV) (M : Mm) (Q : mQ) : vc (n + 1) d 137 5 L S M Q = (gI L 1 fun x => vc n d 137 6 L (.inl x :: S) M Q) := nr rfl
set_option maxRecDepth 100000 in
theorem v137_6 (n d : Nat) (L : List (Option mL)) (S : List mV) (M : Mm) (Q : mQ) : vc (n + 1) d 137 6 L S M Q = (pI S fun x S => (x < 0 → vc n d 137 17 L S M Q) ∧ (¬ (x < 0) → vc n d 137 9 L S M Q)) := nr rfl
set_option maxRecDepth 100000 in
theorem v137_9 (n d : Nat) (L : List (Option mL)) (S : List mV) (M : Mm) (Q : mQ) : vc (n + 1) d 137 9 L S M Q = (gI L 1 fun x => vc n d 137 10 L (.inl x :: S) M Q) := nr rfl
set_option maxRecDepth 100000 in
theorem v137_10 (n d : Nat) (L : List (Option mL)) (S : List mV) (M : Mm) (Q : mQ) : vc (n + 1) d 137 10 L S M Q = (gR L 0 fun x => vc n d 137 11 L (.inr (.inr x) :: S) M Q) := nr rfl
set_option maxRecDepth 100000 in
theorem v137_11 (n d : Nat) (L : List (Option mL)) (S : List mV) (M : Mm) (Q : mQ) : vc (n + 1) d 137 11 L S M Q = (pA S fun a S => shO M a 10 (vc n d 137 14 L (.inl (M.it a 34) :: S) M Q)) := nr rfl
set_option maxRecDepth 100000 in
theorem v137_14 (n d : Nat) (L : List (Option mL)) (S : List mV) (M : Mm) (Q : mQ) : vc (n + 1) d 137 14 L S M Q = (pI S fun y S => pI S fun x S => (x < y → vc n d 137 21 L S M Q) ∧ (¬ (x < y) → vc n d 137 17 L S M Q)) := nr rfl
set_option maxRecDepth 100000 in
theorem v137_17 (n d : Nat) (L : List (Option mL)) (S : List mV) (M : Mm) (Q : mQ) : vc (n + 1) d 137 17 L S M Q = (vc n d 137 18 L (.inl (-1) :: S) M Q) := nr rfl
set_option maxRecDepth 100000 in
theorem v137_18 (n d : Nat) (L : List (Option mL)) (S : List mV) (M : Mm) (Q : mQ) : vc (n + 1) d 137 18 L S M Q = (vc n d 137 31 L S M Q) := nr rfl
set_option maxRecDepth 100000 in
theorem v137_21 (n d : Nat) (L : List (Option mL)) (S : List mV) (M : Mm) (Q : mQ) : vc (n + 1) d 137 21 L S M Q = (gR L 0 fun x => vc n d 137 22 L (.inr (.inr x) :: S) M Q) := nr rfl
set_option maxRecDepth 100000 in
theorem v137_22 (n d : Nat) (L : List (Option mL)) (S : List mV) (M : Mm) (Q : mQ) : vc (n + 1) d 137 22 L S M Q = (pA S fun a S => shO M a 10 (rrf M a 29 fun r => vc n d 137 25 L (.inr (.inr r) :: S) M Q)) := nr rfl
set_option maxRecDepth 100000 in
theorem v137_25 (n d : Nat) (L : List (Option mL)) (S : List mV) (M : Mm) (Q : mQ) : vc (n + 1) d 137 25 L S M Q = (gI L 1 fun x => vc n d 137 26 L (.inl x :: S) M Q) := nr rfl
set_option maxRecDepth 100000 in
theorem v137_26 (n d : Nat) (L : List (Option mL)) (S : List mV) (M : Mm) (Q : mQ) : vc (n + 1) d 137 26 L S M Q = (pI S fun i S => pA S fun a S => shA M a fun t k => (t = 42 ∨ t = 44) ∧ inB i k ∧ vc n d 137 27 L (.inl (M.it a i.toNatClampNeg) :: S) M Q) := nr rfl
set_option maxRecDepth 100000 in
theorem v137_27 (n d : Nat) (L : List (Option mL)) (S : List mV) (M : Mm) (Q : mQ) : vc (n + 1) d 137 27 L S M Q = (vc n d 137 30 L (.inl 255 :: S) M Q) := nr rfl
set_option maxRecDepth 100000 in
theorem v137_30 (n d : Nat) (L : List (Option mL)) (S : List mV) (M : Mm) (Q : mQ) : vc (n + 1) d 137 30 L S M Q = (pI S fun y S => pI S fun x S => vc n d 137 31 L (.inl (x &&& y) :: S) M Q) := nr rfl
set_option maxRecDepth 100000 in
theorem v137_31 (n d : Nat) (L : List (Option mL)) (S : List mV) (M : Mm) (Q : mQ) : vc (n + 1) d 137 31 L S M Q = (pI S fun x S => S = [] ∧ (0 = 0 ∨ x = 0 ∨ x = 1) ∧ Q (some (.inl x)) M) := nr rfl
set_option maxRecDepth 100000 in
theorem v138_0 (n d : Nat) (L : List (Option mL)) (S : List mV) (M : Mm) (Q : mQ) : vc (n + 1) d 138 0 L S M Q = (gR L 0 fun x => vc n d 138 1 L (.inr (.inr x) :: S) M Q) := nr rfl
set_option maxRecDepth 100000 in
theorem v138_1 (n d : Nat) (L : List (Option mL)) (S : List mV) (M : Mm) (Q : mQ) : vc (n + 1) d 138 1 L S M Q = (vc n d 138 2 L (.inl 0 :: S) M Q) := nr rfl
set_option maxRecDepth 100000 in
theorem v138_2 (n d : Nat) (L : List (Option mL)) (S : List mV) (M : Mm) (Q : mQ) : vc (n + 1) d 138 2 L S M Q = (pI S fun x S => pA S fun a S => shO M a 10 (vc n d 138 5 L S (M.si a 0 x) Q)) := nr rfl
set_option maxRecDepth 100000 in
theorem v138_5 (n d : Nat) (L : List (Option mL)) (S : List mV) (M : Mm) (Q : mQ) : vc (n + 1) d 138 5 L S M Q = (gR L 0 fun x => vc n d 138 6 L (.inr (.inr x) :: S) M Q) := nr rfl
set_option maxRecDepth 100000 in
theorem v138_6 (n d : Nat) (L : List (Option mL)) (S : List mV) (M : Mm) (Q : mQ) : vc (n + 1) d 138 6 L S M Q = (pA S fun a S => shO M a 10 (vc n d 138 9 L (.inl (M.it a 5) :: S) M Q)) := nr rfl
set_option maxRecDepth 100000 in
theorem v138_9 (n d : Nat) (L : List (Option mL)) (S : List mV) (M : Mm) (Q : mQ) : vc (n + 1) d 138 9 L S M Q = (pI S fun x S => (¬ x = 0 → vc n d 138 16 L S M Q) ∧ (¬ (¬ x = 0) → vc n d 138 12 L S M Q)) := nr rfl
set_option maxRecDepth 100000 in
theorem v138_12 (n d : Nat) (L : List (Option mL)) (S : List mV) (M : Mm) (Q : mQ) : vc (n + 1) d 138 12 L S M Q = (gI L 1 fun x => vc n d 138 13 L (.inl x :: S) M Q) := nr rfl
set_option maxRecDepth 100000 in
theorem v138_13 (n d : Nat) (L : List (Option mL)) (S : List mV) (M : Mm) (Q : mQ) : vc (n + 1) d 138 13 L S M Q = (pI S fun x S => (0 ≤ x → vc n d 138 18 L S M Q) ∧ (¬ (0 ≤ x) → vc n d 138 16 L S M Q)) := nr rfl
set_option maxRecDepth 100000 in
theorem v138_16 (n d : Nat) (L : List (Option mL)) (S : List mV) (M : Mm) (Q : mQ) : vc (n + 1) d 138 16 L S M Q = (vc n d 138 17 L (.inl (-1) :: S) M Q) := nr rfl
set_option maxRecDepth 100000 in
theorem v138_17 (n d : Nat) (L : List (Option mL)) (S : List mV) (M : Mm) (Q : mQ) : vc (n + 1) d 138 17 L S M Q = (pI S fun x S => S = [] ∧ (0 = 0 ∨ x = 0 ∨ x = 1) ∧ Q (some (.inl x)) M) := nr rfl
set_option maxRecDepth 100000 in
theorem v138_18 (n d : Nat) (L : List (Option mL)) (S : List mV) (M : Mm) (Q : mQ) : vc (n + 1) d 138 18 L S M Q = (gI L 1 fun x => vc n d 138 19 L (.inl x :: S) M Q) := nr rfl
set_option maxRecDepth 100000 in
theorem v138_19 (n d : Nat) (L : List (Option mL)) (S : List mV) (M : Mm) (Q : mQ) : vc (n + 1) d 138 19 L S M Q = (pI S fun x S => sL L 2 (some (.inl x)) fun L => vc n d 138 20 L S M Q) := nr rfl
set_option maxRecDepth 100000 in
theorem v138_20 (n d : Nat) (L : List (Option mL)) (S : List mV) (M : Mm) (Q : mQ) : vc (n + 1) d 138 20 L S M Q = (vc n d 138 21 L (.inl 0 :: S) M Q) := nr rfl
set_option maxRecDepth 100000 in
theorem v138_21 (n d : Nat) (L : List (Option mL)) (S : List mV) (M : Mm) (Q : mQ) : vc (n + 1) d 138 21 L S M Q = (pI S fun x S => sL L 3 (some (.inl x)) fun L => X d 138 22 L S M Q) := nr rfl
set_option maxRecDepth 100000 in
theorem v138_22 (n d : Nat) (L : List (Option mL)) (S : List mV) (M : Mm) (Q : mQ) : vc (n + 1) d 138 22 L S M Q = (gI L 3 fun x => vc n d 138 23 L (.inl x :: S) M Q) := nr rfl
set_option maxRecDepth 100000 in
theorem v138_23 (n d : Nat) (L : List (Option mL)) (S : List mV) (M : Mm) (Q : mQ) : vc (n + 1) d 138 23 L S M Q = (vc n d 138 25 L (.inl 48 :: S) M Q) := nr rfl
set_option maxRecDepth 100000 in
theorem v138_25 (n d : Nat) (L : List (Option mL)) (S : List mV) (M : Mm) (Q : mQ) : vc (n + 1) d 138 25 L S M Q = (pI S fun y S => pI S fun x S => (y ≤ x → vc n d 138 55 L S M Q) ∧ (¬ (y ≤ x) → vc n d 138 28 L S M Q)) := nr rfl
set_option maxRecDepth 100000 in
theorem v138_28 (n d : Nat) (L : List (Option mL)) (S : List mV) (M : Mm) (Q : mQ) : vc (n + 1) d 138 28 L S M Q = (gR L 0 fun x => vc n d 138 29 L (.inr (.inr x) :: S) M Q) := nr rfl
set_option maxRecDepth 100000 in
theorem v138_29 (n d : Nat) (L : List (Option mL)) (S : List mV) (M : Mm) (Q : mQ) : vc (n + 1) d 138 29 L S M Q = (gI L 3 fun x => vc n d 138 30 L (.inl x :: S) M Q) := nr rfl
set_option maxRecDepth 100000 in
theorem v138_30 (n d : Nat) (L : List (Option mL)) (S : List mV) (M : Mm) (Q : mQ) : vc (n + 1) d 138 30 L S M Q = (pAs 1 S fun as S => pA S fun a S => shO M a 10 (stk S ≤ 8 ∧ XC d 129 (.inr (some a) :: as) M (fun r M => ∃ x : Int32, r = some (.inl x) ∧ X d 138 33 L (.inl x :: S) M Q))) := nr rfl
set_option maxRecDepth 100000 in
theorem v138_33 (n d : Nat) (L : List (Option mL)) (S : List mV) (M : Mm) (Q : mQ) : vc (n + 1) d 138 33 L S M Q = (vc n d 138 34 L (.inl (-1) :: S) M Q) := nr rfl
set_option maxRecDepth 100000 in
theorem v138_34 (n d : Nat) (L : List (Option mL)) (S : List mV) (M : Mm) (Q : mQ) : vc (n + 1) d 138 34 L S M Q = (pI S fun y S => pI S fun x S => (¬ x = y → vc n d 138 40 L S M Q) ∧ (¬ (¬ x = y) → vc n d 138 37 L S M Q)) := nr rfl
set_option maxRecDepth 100000 in
theorem v138_37 (n d : Nat) (L : List (Option mL)) (S : List mV) (M : Mm) (Q : mQ) : vc (n + 1) d 138 37 L S M Q = (vc n d 138 49 L S M Q) := nr rfl
set_option maxRecDepth 100000 in
theorem v138_40 (n d : Nat) (L : List (Option mL)) (S : List mV) (M : Mm) (Q : mQ) : vc (n + 1) d 138 40 L S M Q = (gI L 2 fun x => vc n d 138 41 L (.inl x :: S) M Q) := nr rfl
set_option maxRecDepth 100000 in
theorem v138_41 (n d : Nat) (L : List (Option mL)) (S : List mV) (M : Mm) (Q : mQ) : vc (n + 1) d 138 41 L S M Q = (pI S fun x S => (¬ x = 0 → vc n d 138 46 L S M Q) ∧ (¬ (¬ x = 0) → vc n d 138 44 L S M Q)) := nr rfl
set_option maxRecDepth 100000 in
theorem v138_44 (n d : Nat) (L : List (Option mL)) (S : List mV) (M : Mm) (Q : mQ) : vc (n + 1) d 138 44 L S M Q = (gI L 3 fun x => vc n d 138 45 L (.inl x :: S) M Q) := nr rfl
set_option maxRecDepth 100000 in
theorem v138_45 (n d : Nat) (L : List (Option mL)) (S : List mV) (M : Mm) (Q : mQ) : vc (n + 1) d 138 45 L S M Q = (pI S fun x S => S = [] ∧ (0 = 0 ∨ x = 0 ∨ x = 1) ∧ Q (some (.inl x)) M) := nr rfl
set_option maxRecDepth 100000 in
theorem v138_46 (n d : Nat) (L : List (Option mL)) (S : List mV) (M : Mm) (Q : mQ) : vc (n + 1) d 138 46 L S M Q = (gI L 2 fun x => sL L 2 (some (.inl (x + (-1)))) fun L => vc n d 138 49 L S M Q) := nr rfl
set_option maxRecDepth 100000 in
theorem v138_49 (n d : Nat) (L : List (Option mL)) (S : List mV) (M : Mm) (Q : mQ) : vc (n + 1) d 138 49 L S M Q = (gI L 3 fun x => sL L 3 (some (.inl (x + 1))) fun L => vc n d 138 52 L S M Q) := nr rfl
set_option maxRecDepth 100000 in
theorem v138_52 (n d : Nat) (L : List (Option mL)) (S : List mV) (M : Mm) (Q : mQ) : vc (n + 1) d 138 52 L S M Q = (X d 138 22 L S M Q) := nr rfl
set_option maxRecDepth 100000 in
theorem v138_55 (n d : Nat) (L : List (Option mL)) (S : List mV) (M : Mm) (Q : mQ) : vc (n + 1) d 138 55 L S M Q = (vc n d 138 56 L (.inl (-1) :: S) M Q) := nr rfl
set_option maxRecDepth 100000 in
theorem v138_56 (n d : Nat) (L : List (Option mL)) (S : List mV) (M : Mm) (Q : mQ) : vc (n + 1) d 138 56 L S M Q = (pI S fun x S => S = [] ∧ (0 = 0 ∨ x = 0 ∨ x = 1) ∧ Q (some (.inl x)) M) := nr rfl
set_option maxRecDepth 100000 in
theorem v139_0 (n d : Nat) (L : List (Option mL)) (S : List mV) (M : Mm) (Q : mQ) : vc (n + 1) d 139 0 L S M Q = (gR L 0 fun x => vc n d 139 1 L (.inr (.inr x) :: S) M Q) := nr rfl
set_option maxRecDepth 100000 in
theorem v139_1 (n d : Nat) (L : List (Option mL)) (S : List mV) (M : Mm) (Q : mQ) : vc (n + 1) d 139 1 L S M Q = (vc n d 139 2 L (.inl 0 :: S) M Q) := nr rfl
set_option maxRecDepth 100000 in
theorem v139_2 (n d : Nat) (L : List (Option mL)) (S : List mV) (M : Mm) (Q : mQ) : vc (n + 1) d 139 2 L S M Q = (pI S fun x S => pA S fun a S => shO M a 10 (vc n d 139 5 L S (M.si a 0 x) Q)) := nr rfl
set_option maxRecDepth 100000 in
theorem v139_5 (n d : Nat) (L : List (Option mL)) (S : List mV) (M : Mm) (Q : mQ) : vc (n + 1) d 139 5 L S M Q = (gR L 0 fun x => vc n d 139 6 L (.inr (.inr x) :: S) M Q) := nr rfl
set_option maxRecDepth 100000 in
theorem v139_6 (n d : Nat) (L : List (Option mL)) (S : List mV) (M : Mm) (Q : mQ) : vc (n + 1) d 139 6 L S M Q = (pA S fun a S => shO M a 10 (vc n d 139 9 L (.inl (M.it a 5) :: S) M Q)) := nr rfl
set_option maxRecDepth 100000 in
theorem v139_9 (n d : Nat) (L : List (Option mL)) (S : List mV) (M : Mm) (Q : mQ) : vc (n + 1) d 139 9 L S M Q = (pI S fun x S => (x = 0 → vc n d 139 14 L S M Q) ∧ (¬ (x = 0) → vc n d 139 12 L S M Q)) := nr rfl
set_option maxRecDepth 100000 in
theorem v139_12 (n d : Nat) (L : List (Option mL)) (S : List mV) (M : Mm) (Q : mQ) : vc (n + 1) d 139 12 L S M Q = (vc n d 139 13 L (.inl (-1) :: S) M Q) := nr rfl
set_option maxRecDepth 100000 in
theorem v139_13 (n d : Nat) (L : List (Option mL)) (S : List mV) (M : Mm) (Q : mQ) : vc (n + 1) d 139 13 L S M Q = (pI S fun x S => S = [] ∧ (0 = 0 ∨ x = 0 ∨ x = 1) ∧ Q (some (.inl x)) M) := nr rfl
set_option maxRecDepth 100000 in
theorem v139_14 (n d : Nat) (L : List (Option mL)) (S : List mV) (M : Mm) (Q : mQ) : vc (n + 1) d 139 14 L S M Q = (gR L 0 fun x => vc n d 139 15 L (.inr (.inr x) :: S) M Q) := nr rfl
set_option maxRecDepth 100000 in
theorem v139_15 (n d : Nat) (L : List (Option mL)) (S : List mV) (M : Mm) (Q : mQ) : vc (n + 1) d 139 15 L S M Q = (pAs 0 S fun as S => pA S fun a S => shO M a 10 (stk S ≤ 8 ∧ XC d 140 (.inr (some a) :: as) M (fun r M => ∃ x : Int32, r = some (.inl x) ∧ X d 139 18 L (.inl x :: S) M Q))) := nr rfl
set_option maxRecDepth 100000 in
theorem v139_18 (n d : Nat) (L : List (Option mL)) (S : List mV) (M : Mm) (Q : mQ) : vc (n + 1) d 139 18 L S M Q = (pI S fun x S => (¬ x = 0 → vc n d 139 23 L S M Q) ∧ (¬ (¬ x = 0) → vc n d 139 21 L S M Q)) := nr rfl
set_option maxRecDepth 100000 in
theorem v139_21 (n d : Nat) (L : List (Option mL)) (S : List mV) (M : Mm) (Q : mQ) : vc (n + 1) d 139 21 L S M Q = (vc n d 139 22 L (.inl 0 :: S) M Q) := nr rfl
set_option maxRecDepth 100000 in
theorem v139_22 (n d : Nat) (L : List (Option mL)) (S : List mV) (M : Mm) (Q : mQ) : vc (n + 1) d 139 22 L S M Q = (pI S fun x S => S = [] ∧ (0 = 0 ∨ x = 0 ∨ x = 1) ∧ Q (some (.inl x)) M) := nr rfl
set_option maxRecDepth 100000 in
theorem v139_23 (n d : Nat) (L : List (Option mL)) (S : List mV) (M : Mm) (Q : mQ) : vc (n + 1) d 139 23 L S M Q = (gR L 0 fun x => vc n d 139 24 L (.inr (.inr x) :: S) M Q) := nr rfl
set_option maxRecDepth 100000 in
theorem v139_24 (n d : Nat) (L : List (Option mL)) (S : List mV) (M : Mm) (Q : mQ) : vc (n + 1) d 139 24 L S M Q = (pAs 0 S fun as S => pA S fun a S => shO M a 10 (stk S ≤ 8 ∧ XC d 120 (.inr (some a) :: as) M (fun r M => r = none ∧ X d 139 27 L S M Q))) := nr rfl
set_option maxRecDepth 100000 in
theorem v139_27 (n d : Nat) (L : List (Option mL)) (S : List mV) (M : Mm) (Q : mQ) : vc (n + 1) d 139 27 L S M Q = (gR L 0 fun x => vc n d 139 28 L (.inr (.inr x) :: S) M Q) := nr rfl
set_option maxRecDepth 100000 in
theorem v139_28 (n d : Nat) (L : List (Option mL)) (S : List mV) (M : Mm) (Q : mQ) : vc (n + 1) d 139 28 L S M Q = (pA S fun a S => shO M a 10 (vc n d 139 31 L (.inl (M.it a 11) :: S) M Q)) := nr rfl
set_option maxRecDepth 100000 in
theorem v139_31 (n d : Nat) (L : List (Option mL)) (S : List mV) (M : Mm) (Q : mQ) : vc (n + 1) d 139 31 L S M Q = (vc n d 139 32 L (.inl 3 :: S) M Q) := nr rfl
set_option maxRecDepth 100000 in
theorem v139_32 (n d : Nat) (L : List (Option mL)) (S : List mV) (M : Mm) (Q : mQ) : vc (n + 1) d 139 32 L S M Q = (pI S fun y S => pI S fun x S => (¬ x = y → vc n d 139 39 L S M Q) ∧ (¬ (¬ x = y) → vc n d 139 35 L S M Q)) := nr rfl
set_option maxRecDepth 100000 in
theorem v139_35 (n d : Nat) (L : List (Option mL)) (S : List mV) (M : Mm) (Q : mQ) : vc (n + 1) d 139 35 L S M Q = (vc n d 139 36 L (.inl 1 :: S) M Q) := nr rfl
set_option maxRecDepth 100000 in
theorem v139_36 (n d : Nat) (L : List (Option mL)) (S : List mV) (M : Mm) (Q : mQ) : vc (n + 1) d 139 36 L S M Q = (X d 139 40 L S M Q) := nr rfl
set_option maxRecDepth 100000 in
theorem v139_39 (n d : Nat) (L : List (Option mL)) (S : List mV) (M : Mm) (Q : mQ) : vc (n + 1) d 139 39 L S M Q = (X d 139 40 L (.inl 0 :: S) M Q) := nr rfl
set_option maxRecDepth 100000 in
theorem v139_40 (n d : Nat) (L : List (Option mL)) (S : List mV) (M : Mm) (Q : mQ) : vc (n + 1) d 139 40 L S M Q = (pI S fun x S => sL L 1 (some (.inl x)) fun L => vc n d 139 41 L S M Q) := nr rfl
set_option maxRecDepth 100000 in
theorem v139_41 (n d : Nat) (L : List (Option mL)) (S : List mV) (M : Mm) (Q : mQ) : vc (n + 1) d 139 41 L S M Q = (gR L 0 fun x => vc n d 139 42 L (.inr (.inr x) :: S) M Q) := nr rfl
set_option maxRecDepth 100000 in
theorem v139_42 (n d : Nat) (L : List (Option mL)) (S : List mV) (M : Mm) (Q : mQ) : vc (n + 1) d 139 42 L S M Q = (gI L 1 fun x => vc n d 139 43 L (.inl x :: S) M Q) := nr rfl
set_option maxRecDepth 100000 in
theorem v139_43 (n d : Nat) (L : List (Option mL)) (S : List mV) (M : Mm) (Q : mQ) : vc (n + 1) d 139 43 L S M Q = (pAs 1 S fun as S => pA S fun a S => shO M a 10 (stk S ≤ 8 ∧ XC d 141 (.inr (some a) :: as) M (fun r M => ∃ x : Int32, r = some (.inl x) ∧ X d 139 46 L (.inl x :: S) M Q))) := nr rfl
set_option maxRecDepth 100000 in
theorem v139_46 (n d : Nat) (L : List (Option mL)) (S : List mV) (M : Mm) (Q : mQ) : vc (n + 1) d 139 46 L S M Q = (pI S fun x S => sL L 2 (some (.inl x)) fun L => vc n d 139 47 L S M Q) := nr rfl
set_option maxRecDepth 100000 in
theorem v139_47 (n d : Nat) (L : List (Option mL)) (S : List mV) (M : Mm) (Q : mQ) : vc (n + 1) d 139 47 L S M Q = (gI L 2 fun x => vc n d 139 48 L (.inl x :: S) M Q) := nr rfl
set_option maxRecDepth 100000 in
theorem v139_48 (n d : Nat) (L : List (Option mL)) (S : List mV) (M : Mm) (Q : mQ) : vc (n + 1) d 139 48 L S M Q = (vc n d 139 49 L (.inl (-1) :: S) M Q) := nr rfl
set_option maxRecDepth 100000 in
theorem v139_49 (n d : Nat) (L : List (Option mL)) (S : List mV) (M : Mm) (Q : mQ) : vc (n + 1) d 139 49 L S M Q = (pI S fun y S => pI S fun x S => (¬ x = y → vc n d 139 59 L S M Q) ∧ (¬ (¬ x = y) → vc n d 139 52 L S M Q)) := nr rfl
set_option maxRecDepth 100000 in
theorem v139_52 (n d : Nat) (L : List (Option mL)) (S : List mV) (M : Mm) (Q : mQ) : vc (n + 1) d 139 52 L S M Q = (gR L 0 fun x => vc n d 139 53 L (.inr (.inr x) :: S) M Q) := nr rfl
set_option maxRecDepth 100000 in
theorem v139_53 (n d : Nat) (L : List (Option mL)) (S : List mV) (M : Mm) (Q : mQ) : vc (n + 1) d 139 53 L S M Q = (vc n d 139 55 L (.inl (-2) :: S) M Q) := nr rfl
set_option maxRecDepth 100000 in
theorem v139_55 (n d : Nat) (L : List (Option mL)) (S : List mV) (M : Mm) (Q : mQ) : vc (n + 1) d 139 55 L S M Q = (pAs 1 S fun as S => pA S fun a S => shO M a 10 (stk S ≤ 8 ∧ XC d 127 (.inr (some a) :: as) M (fun r M => ∃ x : Int32, r = some (.inl x) ∧ X d 139 58 L (.inl x :: S) M Q))) := nr rfl
set_option maxRecDepth 100000 in
theorem v139_58 (n d : Nat) (L : List (Option mL)) (S : List mV) (M : Mm) (Q : mQ) : vc (n + 1) d 139 58 L S M Q = (pI S fun x S => S = [] ∧ (0 = 0 ∨ x = 0 ∨ x = 1) ∧ Q (some (.inl x)) M) := nr rfl
set_option maxRecDepth 100000 in
theorem v139_59 (n d : Nat) (L : List (Option mL)) (S : List mV) (M : Mm) (Q : mQ) : vc (n + 1) d 139 59 L S M Q = (gR L 0 fun x => vc n d 139 60 L (.inr (.inr x) :: S) M Q) := nr rfl
set_option maxRecDepth 100000 in
theorem v139_60 (n d : Nat) (L : List (Option mL)) (S : List mV) (M : Mm) (Q : mQ) : vc (n + 1) d 139 60 L S M Q = (pA S fun a S => shO M a 10 (vc n d 139 63 L (.inl (M.it a 14) :: S) M Q)) := nr rfl
set_option maxRecDepth 100000 in
theorem v139_63 (n d : Nat) (L : List (Option mL)) (S : List mV) (M : Mm) (Q : mQ) : vc (n + 1) d 139 63 L S M Q = (vc n d 139 64 L (.inl 1 :: S) M Q) := nr rfl
set_option maxRecDepth 100000 in
theorem v139_64 (n d : Nat) (L : List (Option mL)) (S : List mV) (M : Mm) (Q : mQ) : vc (n + 1) d 139 64 L S M Q = (pI S fun y S => pI S fun x S => vc n d 139 65 L (.inl (x + y) :: S) M Q) := nr rfl
set_option maxRecDepth 100000 in
theorem v139_65 (n d : Nat) (L : List (Option mL)) (S : List mV) (M : Mm) (Q : mQ) : vc (n + 1) d 139 65 L S M Q = (vc n d 139 67 L (.inl 120 :: S) M Q) := nr rfl
set_option maxRecDepth 100000 in
theorem v139_67 (n d : Nat) (L : List (Option mL)) (S : List mV) (M : Mm) (Q : mQ) : vc (n + 1) d 139 67 L S M Q = (pI S fun y S => pI S fun x S => (x ≤ y → vc n d 139 77 L S M Q) ∧ (¬ (x ≤ y) → vc n d 139 70 L S M Q)) := nr rfl
set_option maxRecDepth 100000 in
theorem v139_70 (n d : Nat) (L : List (Option mL)) (S : List mV) (M : Mm) (Q : mQ) : vc (n + 1) d 139 70 L S M Q = (gR L 0 fun x => vc n d 139 71 L (.inr (.inr x) :: S) M Q) := nr rfl
set_option maxRecDepth 100000 in
theorem v139_71 (n d : Nat) (L : List (Option mL)) (S : List mV) (M : Mm) (Q : mQ) : vc (n + 1) d 139 71 L S M Q = (vc n d 139 73 L (.inl (-3) :: S) M Q) := nr rfl
set_option maxRecDepth 100000 in
theorem v139_73 (n d : Nat) (L : List (Option mL)) (S : List mV) (M : Mm) (Q : mQ) : vc (n + 1) d 139 73 L S M Q = (pAs 1 S fun as S => pA S fun a S => shO M a 10 (stk S ≤ 8 ∧ XC d 127 (.inr (some a) :: as) M (fun r M => ∃ x : Int32, r = some (.inl x) ∧ X d 139 76 L (.inl x :: S) M Q))) := nr rfl
set_option maxRecDepth 100000 in
theorem v139_76 (n d : Nat) (L : List (Option mL)) (S : List mV) (M : Mm) (Q : mQ) : vc (n + 1) d 139 76 L S M Q = (pI S fun x S => S = [] ∧ (0 = 0 ∨ x = 0 ∨ x = 1) ∧ Q (some (.inl x)) M) := nr rfl
set_option maxRecDepth 100000 in
theorem v139_77 (n d : Nat) (L : List (Option mL)) (S : List mV) (M : Mm) (Q : mQ) : vc (n + 1) d 139 77 L S M Q = (gR L 0 fun x => vc n d 139 78 L (.inr (.inr x) :: S) M Q) := nr rfl
set_option maxRecDepth 100000 in
theorem v139_78 (n d : Nat) (L : List (Option mL)) (S : List mV) (M : Mm) (Q : mQ) : vc (n + 1) d 139 78 L S M Q = (gI L 2 fun x => vc n d 139 79 L (.inl x :: S) M Q) := nr rfl
set_option maxRecDepth 100000 in
theorem v139_79 (n d : Nat) (L : List (Option mL)) (S : List mV) (M : Mm) (Q : mQ) : vc (n + 1) d 139 79 L S M Q = (gI L 1 fun x => vc n d 139 80 L (.inl x :: S) M Q) := nr rfl
set_option maxRecDepth 100000 in
theorem v139_80 (n d : Nat) (L : List (Option mL)) (S : List mV) (M : Mm) (Q : mQ) : vc (n + 1) d 139 80 L S M Q = (pAs 2 S fun as S => pA S fun a S => shO M a 10 (stk S ≤ 8 ∧ XC d 143 (.inr (some a) :: as) M (fun r M => r = none ∧ X d 139 83 L S M Q))) := nr rfl
set_option maxRecDepth 100000 in
theorem v139_83 (n d : Nat) (L : List (Option mL)) (S : List mV) (M : Mm) (Q : mQ) : vc (n + 1) d 139 83 L S M Q = (gR L 0 fun x => vc n d 139 84 L (.inr (.inr x) :: S) M Q) := nr rfl
set_option maxRecDepth 100000 in
theorem v139_84 (n d : Nat) (L : List (Option mL)) (S : List mV) (M : Mm) (Q : mQ) : vc (n + 1) d 139 84 L S M Q = (pAs 0 S fun as S => pA S fun a S => shO M a 10 (stk S ≤ 8 ∧ XC d 144 (.inr (some a) :: as) M (fun r M => ∃ x : Int32, r = some (.inl x) ∧ X d 139 87 L (.inl x :: S) M Q))) := nr rfl
set_option maxRecDepth 100000 in
theorem v139_87 (n d : Nat) (L : List (Option mL)) (S : List mV) (M : Mm) (Q : mQ) : vc (n + 1) d 139 87 L S M Q = (pI S fun x S => sL L 3 (some (.inl x)) fun L => vc n d 139 88 L S M Q) := nr rfl
set_option maxRecDepth 100000 in
theorem v139_88 (n d : Nat) (L : List (Option mL)) (S : List mV) (M : Mm) (Q : mQ) : vc (n + 1) d 139 88 L S M Q = (vc n d 139 89 L (.inl 1 :: S) M Q) := nr rfl
set_option maxRecDepth 100000 in
theorem v139_89 (n d : Nat) (L : List (Option mL)) (S : List mV) (M : Mm) (Q : mQ) : vc (n + 1) d 139 89 L S M Q = (pI S fun x S => S = [] ∧ (0 = 0 ∨ x = 0 ∨ x = 1) ∧ Q (some (.inl x)) M) := nr rfl
set_option maxRecDepth 100000 in
theorem v140_0 (n d : Nat) (L : List (Option mL)) (S : List mV) (M : Mm) (Q : mQ) : vc (n + 1) d 140 0 L S M Q = (vc n d 140 1 L (.inl 0 :: S) M Q) := nr rfl
set_option maxRecDepth 100000 in
theorem v140_1 (n d : Nat) (L : List (Option mL)) (S : List mV) (M : Mm) (Q : mQ) : vc (n + 1) d 140 1 L S M Q = (pI S fun x S => sL L 1 (some (.inl x)) fun L => vc n d 140 2 L S M Q) := nr rfl
set_option maxRecDepth 100000 in
theorem v140_2 (n d : Nat) (L : List (Option mL)) (S : List mV) (M : Mm) (Q : mQ) : vc (n + 1) d 140 2 L S M Q = (vc n d 140 3 L (.inl 0 :: S) M Q) := nr rfl
set_option maxRecDepth 100000 in
theorem v140_3 (n d : Nat) (L : List (Option mL)) (S : List mV) (M : Mm) (Q : mQ) : vc (n + 1) d 140 3 L S M Q = (pI S fun x S => sL L 2 (some (.inl x)) fun L => X d 140 4 L S M Q) := nr rfl
set_option maxRecDepth 100000 in
theorem v140_4 (n d : Nat) (L : List (Option mL)) (S : List mV) (M : Mm) (Q : mQ) : vc (n + 1) d 140 4 L S M Q = (gI L 2 fun x => vc n d 140 5 L (.inl x :: S) M Q) := nr rfl
set_option maxRecDepth 100000 in
theorem v140_5 (n d : Nat) (L : List (Option mL)) (S : List mV) (M : Mm) (Q : mQ) : vc (n + 1) d 140 5 L S M Q = (vc n d 140 7 L (.inl 48 :: S) M Q) := nr rfl
set_option maxRecDepth 100000 in
theorem v140_7 (n d : Nat) (L : List (Option mL)) (S : List mV) (M : Mm) (Q : mQ) : vc (n + 1) d 140 7 L S M Q = (pI S fun y S => pI S fun x S => (y ≤ x → vc n d 140 34 L S M Q) ∧ (¬ (y ≤ x) → vc n d 140 10 L S M Q)) := nr rfl
set_option maxRecDepth 100000 in
theorem v140_10 (n d : Nat) (L : List (Option mL)) (S : List mV) (M : Mm) (Q : mQ) : vc (n + 1) d 140 10 L S M Q = (gI L 1 fun x => vc n d 140 11 L (.inl x :: S) M Q) := nr rfl
set_option maxRecDepth 100000 in
theorem v140_11 (n d : Nat) (L : List (Option mL)) (S : List mV) (M : Mm) (Q : mQ) : vc (n + 1) d 140 11 L S M Q = (gR L 0 fun x => vc n d 140 12 L (.inr (.inr x) :: S) M Q) := nr rfl
set_option maxRecDepth 100000 in
theorem v140_12 (n d : Nat) (L : List (Option mL)) (S : List mV) (M : Mm) (Q : mQ) : vc (n + 1) d 140 12 L S M Q = (pA S fun a S => shO M a 10 (rrf M a 17 fun r => vc n d 140 15 L (.inr (.inr r) :: S) M Q)) := nr rfl
set_option maxRecDepth 100000 in
theorem v140_15 (n d : Nat) (L : List (Option mL)) (S : List mV) (M : Mm) (Q : mQ) : vc (n + 1) d 140 15 L S M Q = (gI L 2 fun x => vc n d 140 16 L (.inl x :: S) M Q) := nr rfl
set_option maxRecDepth 100000 in
theorem v140_16 (n d : Nat) (L : List (Option mL)) (S : List mV) (M : Mm) (Q : mQ) : vc (n + 1) d 140 16 L S M Q = (pI S fun i S => pA S fun a S => shA M a fun t k => (t = 40 ∨ t = 41) ∧ inB i k ∧ vc n d 140 17 L (.inl (M.it a i.toNatClampNeg) :: S) M Q) := nr rfl
set_option maxRecDepth 100000 in
theorem v140_17 (n d : Nat) (L : List (Option mL)) (S : List mV) (M : Mm) (Q : mQ) : vc (n + 1) d 140 17 L S M Q = (vc n d 140 18 L (.inl (-1) :: S) M Q) := nr rfl
set_option maxRecDepth 100000 in
theorem v140_18 (n d : Nat) (L : List (Option mL)) (S : List mV) (M : Mm) (Q : mQ) : vc (n + 1) d 140 18 L S M Q = (pI S fun y S => pI S fun x S => (¬ x = y → vc n d 140 25 L S M Q) ∧ (¬ (¬ x = y) → vc n d 140 21 L S M Q)) := nr rfl
set_option maxRecDepth 100000 in
theorem v140_21 (n d : Nat) (L : List (Option mL)) (S : List mV) (M : Mm) (Q : mQ) : vc (n + 1) d 140 21 L S M Q = (vc n d 140 22 L (.inl 0 :: S) M Q) := nr rfl
set_option maxRecDepth 100000 in
theorem v140_22 (n d : Nat) (L : List (Option mL)) (S : List mV) (M : Mm) (Q : mQ) : vc (n + 1) d 140 22 L S M Q = (vc n d 140 26 L S M Q) := nr rfl
set_option maxRecDepth 100000 in
theorem v140_25 (n d : Nat) (L : List (Option mL)) (S : List mV) (M : Mm) (Q : mQ) : vc (n + 1) d 140 25 L S M Q = (vc n d 140 26 L (.inl 1 :: S) M Q) := nr rfl
set_option maxRecDepth 100000 in
theorem v140_26 (n d : Nat) (L : List (Option mL)) (S : List mV) (M : Mm) (Q : mQ) : vc (n + 1) d 140 26 L S M Q = (pI S fun y S => pI S fun x S => vc n d 140 27 L (.inl (x + y) :: S) M Q) := nr rfl
set_option maxRecDepth 100000 in
theorem v140_27 (n d : Nat) (L : List (Option mL)) (S : List mV) (M : Mm) (Q : mQ) : vc (n + 1) d 140 27 L S M Q = (pI S fun x S => sL L 1 (some (.inl x)) fun L => vc n d 140 28 L S M Q) := nr rfl
set_option maxRecDepth 100000 in
theorem v140_28 (n d : Nat) (L : List (Option mL)) (S : List mV) (M : Mm) (Q : mQ) : vc (n + 1) d 140 28 L S M Q = (gI L 2 fun x => sL L 2 (some (.inl (x + 1))) fun L => vc n d 140 31 L S M Q) := nr rfl
set_option maxRecDepth 100000 in
theorem v140_31 (n d : Nat) (L : List (Option mL)) (S : List mV) (M : Mm) (Q : mQ) : vc (n + 1) d 140 31 L S M Q = (X d 140 4 L S M Q) := nr rfl
set_option maxRecDepth 100000 in
theorem v140_34 (n d : Nat) (L : List (Option mL)) (S : List mV) (M : Mm) (Q : mQ) : vc (n + 1) d 140 34 L S M Q = (gI L 1 fun x => vc n d 140 35 L (.inl x :: S) M Q) := nr rfl
set_option maxRecDepth 100000 in
theorem v140_35 (n d : Nat) (L : List (Option mL)) (S : List mV) (M : Mm) (Q : mQ) : vc (n + 1) d 140 35 L S M Q = (pI S fun x S => S = [] ∧ (0 = 0 ∨ x = 0 ∨ x = 1) ∧ Q (some (.inl x)) M) := nr rfl
set_option maxRecDepth 100000 in
theorem v141_0 (n d : Nat) (L : List (Option mL)) (S : List mV) (M : Mm) (Q : mQ) : vc (n + 1) d 141 0 L S M Q = (vc n d 141 1 L (.inl 0 :: S) M Q) := nr rfl
set_option maxRecDepth 100000 in
theorem v141_1 (n d : Nat) (L : List (Option mL)) (S : List mV) (M : Mm) (Q : mQ) : vc (n + 1) d 141 1 L S M Q = (pI S fun x S => sL L 2 (some (.inl x)) fun L => vc n d 141 2 L S M Q) := nr rfl
set_option maxRecDepth 100000 in
theorem v141_2 (n d : Nat) (L : List (Option mL)) (S : List mV) (M : Mm) (Q : mQ) : vc (n + 1) d 141 2 L S M Q = (vc n d 141 3 L (.inl 0 :: S) M Q) := nr rfl
set_option maxRecDepth 100000 in
theorem v141_3 (n d : Nat) (L : List (Option mL)) (S : List mV) (M : Mm) (Q : mQ) : vc (n + 1) d 141 3 L S M Q = (pI S fun x S => sL L 3 (some (.inl x)) fun L => X d 141 4 L S M Q) := nr rfl
set_option maxRecDepth 100000 in
theorem v141_4 (n d : Nat) (L : List (Option mL)) (S : List mV) (M : Mm) (Q : mQ) : vc (n + 1) d 141 4 L S M Q = (gI L 3 fun x => vc n d 141 5 L (.inl x :: S) M Q) := nr rfl
set_option maxRecDepth 100000 in
theorem v141_5 (n d : Nat) (L : List (Option mL)) (S : List mV) (M : Mm) (Q : mQ) : vc (n + 1) d 141 5 L S M Q = (vc n d 141 7 L (.inl 48 :: S) M Q) := nr rfl
set_option maxRecDepth 100000 in
theorem v141_7 (n d : Nat) (L : List (Option mL)) (S : List mV) (M : Mm) (Q : mQ) : vc (n + 1) d 141 7 L S M Q = (pI S fun y S => pI S fun x S => (y ≤ x → vc n d 141 145 L S M Q) ∧ (¬ (y ≤ x) → vc n d 141 10 L S M Q)) := nr rfl
set_option maxRecDepth 100000 in
theorem v141_10 (n d : Nat) (L : List (Option mL)) (S : List mV) (M : Mm) (Q : mQ) : vc (n + 1) d 141 10 L S M Q = (gR L 0 fun x => vc n d 141 11 L (.inr (.inr x) :: S) M Q) := nr rfl
set_option maxRecDepth 100000 in
theorem v141_11 (n d : Nat) (L : List (Option mL)) (S : List mV) (M : Mm) (Q : mQ) : vc (n + 1) d 141 11 L S M Q = (pA S fun a S => shO M a 10 (rrf M a 37 fun r => vc n d 141 14 L (.inr (.inr r) :: S) M Q)) := nr rfl
set_option maxRecDepth 100000 in
theorem v141_14 (n d : Nat) (L : List (Option mL)) (S : List mV) (M : Mm) (Q : mQ) : vc (n + 1) d 141 14 L S M Q = (gI L 3 fun x => vc n d 141 15 L (.inl x :: S) M Q) := nr rfl
set_option maxRecDepth 100000 in
theorem v141_15 (n d : Nat) (L : List (Option mL)) (S : List mV) (M : Mm) (Q : mQ) : vc (n + 1) d 141 15 L S M Q = (gI L 1 fun x => vc n d 141 16 L (.inl x :: S) M Q) := nr rfl
set_option maxRecDepth 100000 in
theorem v141_16 (n d : Nat) (L : List (Option mL)) (S : List mV) (M : Mm) (Q : mQ) : vc (n + 1) d 141 16 L S M Q = (pI S fun x S => (x = 0 → vc n d 141 27 L S M Q) ∧ (¬ (x = 0) → vc n d 141 19 L S M Q)) := nr rfl
set_option maxRecDepth 100000 in
theorem v141_19 (n d : Nat) (L : List (Option mL)) (S : List mV) (M : Mm) (Q : mQ) : vc (n + 1) d 141 19 L S M Q = (gR L 0 fun x => vc n d 141 20 L (.inr (.inr x) :: S) M Q) := nr rfl
set_option maxRecDepth 100000 in
theorem v141_20 (n d : Nat) (L : List (Option mL)) (S : List mV) (M : Mm) (Q : mQ) : vc (n + 1) d 141 20 L S M Q = (gI L 3 fun x => vc n d 141 21 L (.inl x :: S) M Q) := nr rfl
set_option maxRecDepth 100000 in
theorem v141_21 (n d : Nat) (L : List (Option mL)) (S : List mV) (M : Mm) (Q : mQ) : vc (n + 1) d 141 21 L S M Q = (pAs 1 S fun as S => pA S fun a S => shO M a 10 (stk S ≤ 8 ∧ XC d 129 (.inr (some a) :: as) M (fun r M => ∃ x : Int32, r = some (.inl x) ∧ X d 141 24 L (.inl x :: S) M Q))) := nr rfl
set_option maxRecDepth 100000 in
theorem v141_24 (n d : Nat) (L : List (Option mL)) (S : List mV) (M : Mm) (Q : mQ) : vc (n + 1) d 141 24 L S M Q = (X d 141 33 L S M Q) := nr rfl
set_option maxRecDepth 100000 in
theorem v141_27 (n d : Nat) (L : List (Option mL)) (S : List mV) (M : Mm) (Q : mQ) : vc (n + 1) d 141 27 L S M Q = (gR L 0 fun x => vc n d 141 28 L (.inr (.inr x) :: S) M Q) := nr rfl
set_option maxRecDepth 100000 in
theorem v141_28 (n d : Nat) (L : List (Option mL)) (S : List mV) (M : Mm) (Q : mQ) : vc (n + 1) d 141 28 L S M Q = (pA S fun a S => shO M a 10 (rrf M a 17 fun r => vc n d 141 31 L (.inr (.inr r) :: S) M Q)) := nr rfl
set_option maxRecDepth 100000 in
theorem v141_31 (n d : Nat) (L : List (Option mL)) (S : List mV) (M : Mm) (Q : mQ) : vc (n + 1) d 141 31 L S M Q = (gI L 3 fun x => vc n d 141 32 L (.inl x :: S) M Q) := nr rfl
set_option maxRecDepth 100000 in
theorem v141_32 (n d : Nat) (L : List (Option mL)) (S : List mV) (M : Mm) (Q : mQ) : vc (n + 1) d 141 32 L S M Q = (pI S fun i S => pA S fun a S => shA M a fun t k => (t = 40 ∨ t = 41) ∧ inB i k ∧ X d 141 33 L (.inl (M.it a i.toNatClampNeg) :: S) M Q) := nr rfl
set_option maxRecDepth 100000 in
theorem v141_33 (n d : Nat) (L : List (Option mL)) (S : List mV) (M : Mm) (Q : mQ) : vc (n + 1) d 141 33 L S M Q = (pI S fun x S => pI S fun i S => pA S fun a S => shA M a fun t k => t = 41 ∧ inB i k ∧ vc n d 141 34 L S (M.si a i.toNatClampNeg x) Q) := nr rfl
set_option maxRecDepth 100000 in
theorem v141_34 (n d : Nat) (L : List (Option mL)) (S : List mV) (M : Mm) (Q : mQ) : vc (n + 1) d 141 34 L S M Q = (gR L 0 fun x => vc n d 141 35 L (.inr (.inr x) :: S) M Q) := nr rfl
set_option maxRecDepth 100000 in
theorem v141_35 (n d : Nat) (L : List (Option mL)) (S : List mV) (M : Mm) (Q : mQ) : vc (n + 1) d 141 35 L S M Q = (pA S fun a S => shO M a 10 (rrf M a 37 fun r => vc n d 141 38 L (.inr (.inr r) :: S) M Q)) := nr rfl
set_option maxRecDepth 100000 in
theorem v141_38 (n d : Nat) (L : List (Option mL)) (S : List mV) (M : Mm) (Q : mQ) : vc (n + 1) d 141 38 L S M Q = (gI L 3 fun x => vc n d 141 39 L (.inl x :: S) M Q) := nr rfl
set_option maxRecDepth 100000 in
theorem v141_39 (n d : Nat) (L : List (Option mL)) (S : List mV) (M : Mm) (Q : mQ) : vc (n + 1) d 141 39 L S M Q = (pI S fun i S => pA S fun a S => shA M a fun t k => (t = 40 ∨ t = 41) ∧ inB i k ∧ vc n d 141 40 L (.inl (M.it a i.toNatClampNeg) :: S) M Q) := nr rfl
set_option maxRecDepth 100000 in
theorem v141_40 (n d : Nat) (L : List (Option mL)) (S : List mV) (M : Mm) (Q : mQ) : vc (n + 1) d 141 40 L S M Q = (vc n d 141 41 L (.inl (-1) :: S) M Q) := nr rfl
set_option maxRecDepth 100000 in
theorem v141_41 (n d : Nat) (L : List (Option mL)) (S : List mV) (M : Mm) (Q : mQ) : vc (n + 1) d 141 41 L S M Q = (pI S fun y S => pI S fun x S => (¬ x = y → vc n d 141 47 L S M Q) ∧ (¬ (¬ x = y) → vc n d 141 44 L S M Q)) := nr rfl
set_option maxRecDepth 100000 in
theorem v141_44 (n d : Nat) (L : List (Option mL)) (S : List mV) (M : Mm) (Q : mQ) : vc (n + 1) d 141 44 L S M Q = (vc n d 141 139 L S M Q) := nr rfl
set_option maxRecDepth 100000 in
theorem v141_47 (n d : Nat) (L : List (Option mL)) (S : List mV) (M : Mm) (Q : mQ) : vc (n + 1) d 141 47 L S M Q = (gR L 0 fun x => vc n d 141 48 L (.inr (.inr x) :: S) M Q) := nr rfl
set_option maxRecDepth 100000 in
theorem v141_48 (n d : Nat) (L : List (Option mL)) (S : List mV) (M : Mm) (Q : mQ) : vc (n + 1) d 141 48 L S M Q = (pA S fun a S => shO M a 10 (rrf M a 30 fun r => vc n d 141 51 L (.inr (.inr r) :: S) M Q)) := nr rfl
set_option maxRecDepth 100000 in
theorem v141_51 (n d : Nat) (L : List (Option mL)) (S : List mV) (M : Mm) (Q : mQ) : vc (n + 1) d 141 51 L S M Q = (vc n d 141 53 L (.inl 7 :: S) M Q) := nr rfl
set_option maxRecDepth 100000 in
theorem v141_53 (n d : Nat) (L : List (Option mL)) (S : List mV) (M : Mm) (Q : mQ) : vc (n + 1) d 141 53 L S M Q = (vc n d 141 54 L (.inl 3 :: S) M Q) := nr rfl
set_option maxRecDepth 100000 in
theorem v141_54 (n d : Nat) (L : List (Option mL)) (S : List mV) (M : Mm) (Q : mQ) : vc (n + 1) d 141 54 L S M Q = (gI L 2 fun x => vc n d 141 55 L (.inl x :: S) M Q) := nr rfl
set_option maxRecDepth 100000 in
theorem v141_55 (n d : Nat) (L : List (Option mL)) (S : List mV) (M : Mm) (Q : mQ) : vc (n + 1) d 141 55 L S M Q = (pI S fun y S => pI S fun x S => vc n d 141 56 L (.inl (x * y) :: S) M Q) := nr rfl
set_option maxRecDepth 100000 in
theorem v141_56 (n d : Nat) (L : List (Option mL)) (S : List mV) (M : Mm) (Q : mQ) : vc (n + 1) d 141 56 L S M Q = (pI S fun y S => pI S fun x S => vc n d 141 57 L (.inl (x + y) :: S) M Q) := nr rfl
set_option maxRecDepth 100000 in
theorem v141_57 (n d : Nat) (L : List (Option mL)) (S : List mV) (M : Mm) (Q : mQ) : vc (n + 1) d 141 57 L S M Q = (gI L 3 fun x => vc n d 141 58 L (.inl x :: S) M Q) := nr rfl
set_option maxRecDepth 100000 in
theorem v141_58 (n d : Nat) (L : List (Option mL)) (S : List mV) (M : Mm) (Q : mQ) : vc (n + 1) d 141 58 L S M Q = (pI S fun x S => vc n d 141 59 L (.inl x.toInt8.toInt32 :: S) M Q) := nr rfl
set_option maxRecDepth 100000 in
theorem v141_59 (n d : Nat) (L : List (Option mL)) (S : List mV) (M : Mm) (Q : mQ) : vc (n + 1) d 141 59 L S M Q = (pI S fun x S => pI S fun i S => pA S fun a S => shA M a fun t k => (t = 42 ∨ t = 44) ∧ inB i k ∧ vc n d 141 60 L S (M.si a i.toNatClampNeg (bnar t x)) Q) := nr rfl
set_option maxRecDepth 100000 in
theorem v141_60 (n d : Nat) (L : List (Option mL)) (S : List mV) (M : Mm) (Q : mQ) : vc (n + 1) d 141 60 L S M Q = (gR L 0 fun x => vc n d 141 61 L (.inr (.inr x) :: S) M Q) := nr rfl
set_option maxRecDepth 100000 in
theorem v141_61 (n d : Nat) (L : List (Option mL)) (S : List mV) (M : Mm) (Q : mQ) : vc (n + 1) d 141 61 L S M Q = (pA S fun a S => shO M a 10 (rrf M a 30 fun r => vc n d 141 64 L (.inr (.inr r) :: S) M Q)) := nr rfl
set_option maxRecDepth 100000 in
theorem v141_64 (n d : Nat) (L : List (Option mL)) (S : List mV) (M : Mm) (Q : mQ) : vc (n + 1) d 141 64 L S M Q = (vc n d 141 66 L (.inl 8 :: S) M Q) := nr rfl
set_option maxRecDepth 100000 in
theorem v141_66 (n d : Nat) (L : List (Option mL)) (S : List mV) (M : Mm) (Q : mQ) : vc (n + 1) d 141 66 L S M Q = (vc n d 141 67 L (.inl 3 :: S) M Q) := nr rfl
set_option maxRecDepth 100000 in
theorem v141_67 (n d : Nat) (L : List (Option mL)) (S : List mV) (M : Mm) (Q : mQ) : vc (n + 1) d 141 67 L S M Q = (gI L 2 fun x => vc n d 141 68 L (.inl x :: S) M Q) := nr rfl
set_option maxRecDepth 100000 in
theorem v141_68 (n d : Nat) (L : List (Option mL)) (S : List mV) (M : Mm) (Q : mQ) : vc (n + 1) d 141 68 L S M Q = (pI S fun y S => pI S fun x S => vc n d 141 69 L (.inl (x * y) :: S) M Q) := nr rfl
set_option maxRecDepth 100000 in
theorem v141_69 (n d : Nat) (L : List (Option mL)) (S : List mV) (M : Mm) (Q : mQ) : vc (n + 1) d 141 69 L S M Q = (pI S fun y S => pI S fun x S => vc n d 141 70 L (.inl (x + y) :: S) M Q) := nr rfl
set_option maxRecDepth 100000 in
theorem v141_70 (n d : Nat) (L : List (Option mL)) (S : List mV) (M : Mm) (Q : mQ) : vc (n + 1) d 141 70 L S M Q = (gR L 0 fun x => vc n d 141 71 L (.inr (.inr x) :: S) M Q) := nr rfl
set_option maxRecDepth 100000 in
theorem v141_71 (n d : Nat) (L : List (Option mL)) (S : List mV) (M : Mm) (Q : mQ) : vc (n + 1) d 141 71 L S M Q = (pA S fun a S => shO M a 10 (rrf M a 37 fun r => vc n d 141 74 L (.inr (.inr r) :: S) M Q)) := nr rfl
set_option maxRecDepth 100000 in
theorem v141_74 (n d : Nat) (L : List (Option mL)) (S : List mV) (M : Mm) (Q : mQ) : vc (n + 1) d 141 74 L S M Q = (gI L 3 fun x => vc n d 141 75 L (.inl x :: S) M Q) := nr rfl
set_option maxRecDepth 100000 in
theorem v141_75 (n d : Nat) (L : List (Option mL)) (S : List mV) (M : Mm) (Q : mQ) : vc (n + 1) d 141 75 L S M Q = (pI S fun i S => pA S fun a S => shA M a fun t k => (t = 40 ∨ t = 41) ∧ inB i k ∧ vc n d 141 76 L (.inl (M.it a i.toNatClampNeg) :: S) M Q) := nr rfl
set_option maxRecDepth 100000 in
theorem v141_76 (n d : Nat) (L : List (Option mL)) (S : List mV) (M : Mm) (Q : mQ) : vc (n + 1) d 141 76 L S M Q = (vc n d 141 79 L (.inl 255 :: S) M Q) := nr rfl
set_option maxRecDepth 100000 in
theorem v141_79 (n d : Nat) (L : List (Option mL)) (S : List mV) (M : Mm) (Q : mQ) : vc (n + 1) d 141 79 L S M Q = (pI S fun y S => pI S fun x S => (¬ x = y → vc n d 141 88 L S M Q) ∧ (¬ (¬ x = y) → vc n d 141 82 L S M Q)) := nr rfl
set_option maxRecDepth 100000 in
theorem v141_82 (n d : Nat) (L : List (Option mL)) (S : List mV) (M : Mm) (Q : mQ) : vc (n + 1) d 141 82 L S M Q = (vc n d 141 85 L (.inl 255 :: S) M Q) := nr rfl
set_option maxRecDepth 100000 in
theorem v141_85 (n d : Nat) (L : List (Option mL)) (S : List mV) (M : Mm) (Q : mQ) : vc (n + 1) d 141 85 L S M Q = (X d 141 97 L S M Q) := nr rfl
set_option maxRecDepth 100000 in
theorem v141_88 (n d : Nat) (L : List (Option mL)) (S : List mV) (M : Mm) (Q : mQ) : vc (n + 1) d 141 88 L S M Q = (gR L 0 fun x => vc n d 141 89 L (.inr (.inr x) :: S) M Q) := nr rfl
set_option maxRecDepth 100000 in
theorem v141_89 (n d : Nat) (L : List (Option mL)) (S : List mV) (M : Mm) (Q : mQ) : vc (n + 1) d 141 89 L S M Q = (pA S fun a S => shO M a 10 (rrf M a 37 fun r => vc n d 141 92 L (.inr (.inr r) :: S) M Q)) := nr rfl
set_option maxRecDepth 100000 in
theorem v141_92 (n d : Nat) (L : List (Option mL)) (S : List mV) (M : Mm) (Q : mQ) : vc (n + 1) d 141 92 L S M Q = (gI L 3 fun x => vc n d 141 93 L (.inl x :: S) M Q) := nr rfl
set_option maxRecDepth 100000 in
theorem v141_93 (n d : Nat) (L : List (Option mL)) (S : List mV) (M : Mm) (Q : mQ) : vc (n + 1) d 141 93 L S M Q = (pI S fun i S => pA S fun a S => shA M a fun t k => (t = 40 ∨ t = 41) ∧ inB i k ∧ vc n d 141 94 L (.inl (M.it a i.toNatClampNeg) :: S) M Q) := nr rfl
set_option maxRecDepth 100000 in
theorem v141_94 (n d : Nat) (L : List (Option mL)) (S : List mV) (M : Mm) (Q : mQ) : vc (n + 1) d 141 94 L S M Q = (vc n d 141 96 L (.inl 16 :: S) M Q) := nr rfl
set_option maxRecDepth 100000 in
theorem v141_96 (n d : Nat) (L : List (Option mL)) (S : List mV) (M : Mm) (Q : mQ) : vc (n + 1) d 141 96 L S M Q = (pI S fun y S => pI S fun x S => ¬ y = 0 ∧ X d 141 97 L (.inl (x / y) :: S) M Q) := nr rfl
set_option maxRecDepth 100000 in
theorem v141_97 (n d : Nat) (L : List (Option mL)) (S : List mV) (M : Mm) (Q : mQ) : vc (n + 1) d 141 97 L S M Q = (pI S fun x S => vc n d 141 98 L (.inl x.toInt8.toInt32 :: S) M Q) := nr rfl
set_option maxRecDepth 100000 in
theorem v141_98 (n d : Nat) (L : List (Option mL)) (S : List mV) (M : Mm) (Q : mQ) : vc (n + 1) d 141 98 L S M Q = (pI S fun x S => pI S fun i S => pA S fun a S => shA M a fun t k => (t = 42 ∨ t = 44) ∧ inB i k ∧ vc n d 141 99 L S (M.si a i.toNatClampNeg (bnar t x)) Q) := nr rfl
set_option maxRecDepth 100000 in
theorem v141_99 (n d : Nat) (L : List (Option mL)) (S : List mV) (M : Mm) (Q : mQ) : vc (n + 1) d 141 99 L S M Q = (gR L 0 fun x => vc n d 141 100 L (.inr (.inr x) :: S) M Q) := nr rfl
set_option maxRecDepth 100000 in
theorem v141_100 (n d : Nat) (L : List (Option mL)) (S : List mV) (M : Mm) (Q : mQ) : vc (n + 1) d 141 100 L S M Q = (pA S fun a S => shO M a 10 (rrf M a 30 fun r => vc n d 141 103 L (.inr (.inr r) :: S) M Q)) := nr rfl
set_option maxRecDepth 100000 in
theorem v141_103 (n d : Nat) (L : List (Option mL)) (S : List mV) (M : Mm) (Q : mQ) : vc (n + 1) d 141 103 L S M Q = (vc n d 141 105 L (.inl 9 :: S) M Q) := nr rfl
set_option maxRecDepth 100000 in
theorem v141_105 (n d : Nat) (L : List (Option mL)) (S : List mV) (M : Mm) (Q : mQ) : vc (n + 1) d 141 105 L S M Q = (vc n d 141 106 L (.inl 3 :: S) M Q) := nr rfl
set_option maxRecDepth 100000 in
theorem v141_106 (n d : Nat) (L : List (Option mL)) (S : List mV) (M : Mm) (Q : mQ) : vc (n + 1) d 141 106 L S M Q = (gI L 2 fun x => vc n d 141 107 L (.inl x :: S) M Q) := nr rfl
set_option maxRecDepth 100000 in
theorem v141_107 (n d : Nat) (L : List (Option mL)) (S : List mV) (M : Mm) (Q : mQ) : vc (n + 1) d 141 107 L S M Q = (pI S fun y S => pI S fun x S => vc n d 141 108 L (.inl (x * y) :: S) M Q) := nr rfl
set_option maxRecDepth 100000 in
theorem v141_108 (n d : Nat) (L : List (Option mL)) (S : List mV) (M : Mm) (Q : mQ) : vc (n + 1) d 141 108 L S M Q = (pI S fun y S => pI S fun x S => vc n d 141 109 L (.inl (x + y) :: S) M Q) := nr rfl
set_option maxRecDepth 100000 in
theorem v141_109 (n d : Nat) (L : List (Option mL)) (S : List mV) (M : Mm) (Q : mQ) : vc (n + 1) d 141 109 L S M Q = (gR L 0 fun x => vc n d 141 110 L (.inr (.inr x) :: S) M Q) := nr rfl
set_option maxRecDepth 100000 in
theorem v141_110 (n d : Nat) (L : List (Option mL)) (S : List mV) (M : Mm) (Q : mQ) : vc (n + 1) d 141 110 L S M Q = (pA S fun a S => shO M a 10 (rrf M a 37 fun r => vc n d 141 113 L (.inr (.inr r) :: S) M Q)) := nr rfl
set_option maxRecDepth 100000 in
theorem v141_113 (n d : Nat) (L : List (Option mL)) (S : List mV) (M : Mm) (Q : mQ) : vc (n + 1) d 141 113 L S M Q = (gI L 3 fun x => vc n d 141 114 L (.inl x :: S) M Q) := nr rfl
set_option maxRecDepth 100000 in
theorem v141_114 (n d : Nat) (L : List (Option mL)) (S : List mV) (M : Mm) (Q : mQ) : vc (n + 1) d 141 114 L S M Q = (pI S fun i S => pA S fun a S => shA M a fun t k => (t = 40 ∨ t = 41) ∧ inB i k ∧ vc n d 141 115 L (.inl (M.it a i.toNatClampNeg) :: S) M Q) := nr rfl
set_option maxRecDepth 100000 in
theorem v141_115 (n d : Nat) (L : List (Option mL)) (S : List mV) (M : Mm) (Q : mQ) : vc (n + 1) d 141 115 L S M Q = (vc n d 141 118 L (.inl 255 :: S) M Q) := nr rfl
set_option maxRecDepth 100000 in
theorem v141_118 (n d : Nat) (L : List (Option mL)) (S : List mV) (M : Mm) (Q : mQ) : vc (n + 1) d 141 118 L S M Q = (pI S fun y S => pI S fun x S => (¬ x = y → vc n d 141 125 L S M Q) ∧ (¬ (¬ x = y) → vc n d 141 121 L S M Q)) := nr rfl
set_option maxRecDepth 100000 in
theorem v141_121 (n d : Nat) (L : List (Option mL)) (S : List mV) (M : Mm) (Q : mQ) : vc (n + 1) d 141 121 L S M Q = (vc n d 141 122 L (.inl 0 :: S) M Q) := nr rfl
set_option maxRecDepth 100000 in
theorem v141_122 (n d : Nat) (L : List (Option mL)) (S : List mV) (M : Mm) (Q : mQ) : vc (n + 1) d 141 122 L S M Q = (vc n d 141 134 L S M Q) := nr rfl
set_option maxRecDepth 100000 in
theorem v141_125 (n d : Nat) (L : List (Option mL)) (S : List mV) (M : Mm) (Q : mQ) : vc (n + 1) d 141 125 L S M Q = (gR L 0 fun x => vc n d 141 126 L (.inr (.inr x) :: S) M Q) := nr rfl
set_option maxRecDepth 100000 in
theorem v141_126 (n d : Nat) (L : List (Option mL)) (S : List mV) (M : Mm) (Q : mQ) : vc (n + 1) d 141 126 L S M Q = (pA S fun a S => shO M a 10 (rrf M a 37 fun r => vc n d 141 129 L (.inr (.inr r) :: S) M Q)) := nr rfl
set_option maxRecDepth 100000 in
theorem v141_129 (n d : Nat) (L : List (Option mL)) (S : List mV) (M : Mm) (Q : mQ) : vc (n + 1) d 141 129 L S M Q = (gI L 3 fun x => vc n d 141 130 L (.inl x :: S) M Q) := nr rfl
set_option maxRecDepth 100000 in
theorem v141_130 (n d : Nat) (L : List (Option mL)) (S : List mV) (M : Mm) (Q : mQ) : vc (n + 1) d 141 130 L S M Q = (pI S fun i S => pA S fun a S => shA M a fun t k => (t = 40 ∨ t = 41) ∧ inB i k ∧ vc n d 141 131 L (.inl (M.it a i.toNatClampNeg) :: S) M Q) := nr rfl
set_option maxRecDepth 100000 in
theorem v141_131 (n d : Nat) (L : List (Option mL)) (S : List mV) (M : Mm) (Q : mQ) : vc (n + 1) d 141 131 L S M Q = (vc n d 141 133 L (.inl 16 :: S) M Q) := nr rfl
set_option maxRecDepth 100000 in
theorem v141_133 (n d : Nat) (L : List (Option mL)) (S : List mV) (M : Mm) (Q : mQ) : vc (n + 1) d 141 133 L S M Q = (pI S fun y S => pI S fun x S => ¬ y = 0 ∧ vc n d 141 134 L (.inl (x - x / y * y) :: S) M Q) := nr rfl
set_option maxRecDepth 100000 in
theorem v141_134 (n d : Nat) (L : List (Option mL)) (S : List mV) (M : Mm) (Q : mQ) : vc (n + 1) d 141 134 L S M Q = (pI S fun x S => vc n d 141 135 L (.inl x.toInt8.toInt32 :: S) M Q) := nr rfl
set_option maxRecDepth 100000 in
theorem v141_135 (n d : Nat) (L : List (Option mL)) (S : List mV) (M : Mm) (Q : mQ) : vc (n + 1) d 141 135 L S M Q = (pI S fun x S => pI S fun i S => pA S fun a S => shA M a fun t k => (t = 42 ∨ t = 44) ∧ inB i k ∧ vc n d 141 136 L S (M.si a i.toNatClampNeg (bnar t x)) Q) := nr rfl
set_option maxRecDepth 100000 in
theorem v141_136 (n d : Nat) (L : List (Option mL)) (S : List mV) (M : Mm) (Q : mQ) : vc (n + 1) d 141 136 L S M Q = (gI L 2 fun x => sL L 2 (some (.inl (x + 1))) fun L => vc n d 141 139 L S M Q) := nr rfl
set_option maxRecDepth 100000 in
theorem v141_139 (n d : Nat) (L : List (Option mL)) (S : List mV) (M : Mm) (Q : mQ) : vc (n + 1) d 141 139 L S M Q = (gI L 3 fun x => sL L 3 (some (.inl (x + 1))) fun L => vc n d 141 142 L S M Q) := nr rfl
set_option maxRecDepth 100000 in
theorem v141_142 (n d : Nat) (L : List (Option mL)) (S : List mV) (M : Mm) (Q : mQ) : vc (n + 1) d 141 142 L S M Q = (X d 141 4 L S M Q) := nr rfl
set_option maxRecDepth 100000 in
theorem v141_145 (n d : Nat) (L : List (Option mL)) (S : List mV) (M : Mm) (Q : mQ) : vc (n + 1) d 141 145 L S M Q = (gR L 0 fun x => vc n d 141 146 L (.inr (.inr x) :: S) M Q) := nr rfl
set_option maxRecDepth 100000 in
theorem v141_146 (n d : Nat) (L : List (Option mL)) (S : List mV) (M : Mm) (Q : mQ) : vc (n + 1) d 141 146 L S M Q = (pA S fun a S => shO M a 10 (rrf M a 30 fun r => vc n d 141 149 L (.inr (.inr r) :: S) M Q)) := nr rfl
set_option maxRecDepth 100000 in
theorem v141_149 (n d : Nat) (L : List (Option mL)) (S : List mV) (M : Mm) (Q : mQ) : vc (n + 1) d 141 149 L S M Q = (vc n d 141 151 L (.inl 6 :: S) M Q) := nr rfl
set_option maxRecDepth 100000 in
theorem v141_151 (n d : Nat) (L : List (Option mL)) (S : List mV) (M : Mm) (Q : mQ) : vc (n + 1) d 141 151 L S M Q = (gI L 2 fun x => vc n d 141 152 L (.inl x :: S) M Q) := nr rfl
set_option maxRecDepth 100000 in
theorem v141_152 (n d : Nat) (L : List (Option mL)) (S : List mV) (M : Mm) (Q : mQ) : vc (n + 1) d 141 152 L S M Q = (pI S fun x S => vc n d 141 153 L (.inl x.toInt8.toInt32 :: S) M Q) := nr rfl
set_option maxRecDepth 100000 in
theorem v141_153 (n d : Nat) (L : List (Option mL)) (S : List mV) (M : Mm) (Q : mQ) : vc (n + 1) d 141 153 L S M Q = (pI S fun x S => pI S fun i S => pA S fun a S => shA M a fun t k => (t = 42 ∨ t = 44) ∧ inB i k ∧ vc n d 141 154 L S (M.si a i.toNatClampNeg (bnar t x)) Q) := nr rfl
set_option maxRecDepth 100000 in
theorem v141_154 (n d : Nat) (L : List (Option mL)) (S : List mV) (M : Mm) (Q : mQ) : vc (n + 1) d 141 154 L S M Q = (gR L 0 fun x => vc n d 141 155 L (.inr (.inr x) :: S) M Q) := nr rfl
set_option maxRecDepth 100000 in
theorem v141_155 (n d : Nat) (L : List (Option mL)) (S : List mV) (M : Mm) (Q : mQ) : vc (n + 1) d 141 155 L S M Q = (gR L 0 fun x => vc n d 141 156 L (.inr (.inr x) :: S) M Q) := nr rfl
set_option maxRecDepth 100000 in
theorem v141_156 (n d : Nat) (L : List (Option mL)) (S : List mV) (M : Mm) (Q : mQ) : vc (n + 1) d 141 156 L S M Q = (pA S fun a S => shO M a 10 (vc n d 141 159 L (.inl (M.it a 14) :: S) M Q)) := nr rfl
set_option maxRecDepth 100000 in
theorem v141_159 (n d : Nat) (L : List (Option mL)) (S : List mV) (M : Mm) (Q : mQ) : vc (n + 1) d 141 159 L S M Q = (pI S fun x S => pA S fun a S => shO M a 10 (vc n d 141 162 L S (M.si a 38 x) Q)) := nr rfl
set_option maxRecDepth 100000 in
theorem v141_162 (n d : Nat) (L : List (Option mL)) (S : List mV) (M : Mm) (Q : mQ) : vc (n + 1) d 141 162 L S M Q = (gR L 0 fun x => vc n d 141 163 L (.inr (.inr x) :: S) M Q) := nr rfl
set_option maxRecDepth 100000 in
theorem v141_163 (n d : Nat) (L : List (Option mL)) (S : List mV) (M : Mm) (Q : mQ) : vc (n + 1) d 141 163 L S M Q = (vc n d 141 164 L (.inl 2 :: S) M Q) := nr rfl
set_option maxRecDepth 100000 in
theorem v141_164 (n d : Nat) (L : List (Option mL)) (S : List mV) (M : Mm) (Q : mQ) : vc (n + 1) d 141 164 L S M Q = (vc n d 141 165 L (.inl 0 :: S) M Q) := nr rfl
set_option maxRecDepth 100000 in
theorem v141_165 (n d : Nat) (L : List (Option mL)) (S : List mV) (M : Mm) (Q : mQ) : vc (n + 1) d 141 165 L S M Q = (vc n d 141 166 L (.inl 1 :: S) M Q) := nr rfl
set_option maxRecDepth 100000 in
theorem v141_166 (n d : Nat) (L : List (Option mL)) (S : List mV) (M : Mm) (Q : mQ) : vc (n + 1) d 141 166 L S M Q = (vc n d 141 167 L (.inl 3 :: S) M Q) := nr rfl
set_option maxRecDepth 100000 in
theorem v141_167 (n d : Nat) (L : List (Option mL)) (S : List mV) (M : Mm) (Q : mQ) : vc (n + 1) d 141 167 L S M Q = (gI L 2 fun x => vc n d 141 168 L (.inl x :: S) M Q) := nr rfl
set_option maxRecDepth 100000 in
theorem v141_168 (n d : Nat) (L : List (Option mL)) (S : List mV) (M : Mm) (Q : mQ) : vc (n + 1) d 141 168 L S M Q = (pI S fun y S => pI S fun x S => vc n d 141 169 L (.inl (x * y) :: S) M Q) := nr rfl
set_option maxRecDepth 100000 in
theorem v141_169 (n d : Nat) (L : List (Option mL)) (S : List mV) (M : Mm) (Q : mQ) : vc (n + 1) d 141 169 L S M Q = (pI S fun y S => pI S fun x S => vc n d 141 170 L (.inl (x + y) :: S) M Q) := nr rfl
set_option maxRecDepth 100000 in
theorem v141_170 (n d : Nat) (L : List (Option mL)) (S : List mV) (M : Mm) (Q : mQ) : vc (n + 1) d 141 170 L S M Q = (vc n d 141 171 L (.inl 1 :: S) M Q) := nr rfl
set_option maxRecDepth 100000 in
theorem v141_171 (n d : Nat) (L : List (Option mL)) (S : List mV) (M : Mm) (Q : mQ) : vc (n + 1) d 141 171 L S M Q = (pAs 4 S fun as S => pA S fun a S => shO M a 10 (stk S ≤ 8 ∧ XC d 121 (.inr (some a) :: as) M (fun r M => ∃ x : Int32, r = some (.inl x) ∧ X d 141 174 L (.inl x :: S) M Q))) := nr rfl
set_option maxRecDepth 100000 in
theorem v141_174 (n d : Nat) (L : List (Option mL)) (S : List mV) (M : Mm) (Q : mQ) : vc (n + 1) d 141 174 L S M Q = (pI S fun x S => sL L 3 (some (.inl x)) fun L => vc n d 141 175 L S M Q) := nr rfl
set_option maxRecDepth 100000 in
theorem v141_175 (n d : Nat) (L : List (Option mL)) (S : List mV) (M : Mm) (Q : mQ) : vc (n + 1) d 141 175 L S M Q = (gR L 0 fun x => vc n d 141 176 L (.inr (.inr x) :: S) M Q) := nr rfl
set_option maxRecDepth 100000 in
theorem v141_176 (n d : Nat) (L : List (Option mL)) (S : List mV) (M : Mm) (Q : mQ) : vc (n + 1) d 141 176 L S M Q = (gR L 0 fun x => vc n d 141 177 L (.inr (.inr x) :: S) M Q) := nr rfl
set_option maxRecDepth 100000 in
theorem v141_177 (n d : Nat) (L : List (Option mL)) (S : List mV) (M : Mm) (Q : mQ) : vc (n + 1) d 141 177 L S M Q = (pA S fun a S => shO M a 10 (vc n d 141 180 L (.inl (M.it a 14) :: S) M Q)) := nr rfl
set_option maxRecDepth 100000 in
theorem v141_180 (n d : Nat) (L : List (Option mL)) (S : List mV) (M : Mm) (Q : mQ) : vc (n + 1) d 141 180 L S M Q = (pI S fun x S => pA S fun a S => shO M a 10 (vc n d 141 183 L S (M.si a 39 x) Q)) := nr rfl
set_option maxRecDepth 100000 in
theorem v141_183 (n d : Nat) (L : List (Option mL)) (S : List mV) (M : Mm) (Q : mQ) : vc (n + 1) d 141 183 L S M Q = (gI L 3 fun x => vc n d 141 184 L (.inl x :: S) M Q) := nr rfl
set_option maxRecDepth 100000 in
theorem v141_184 (n d : Nat) (L : List (Option mL)) (S : List mV) (M : Mm) (Q : mQ) : vc (n + 1) d 141 184 L S M Q = (vc n d 141 185 L (.inl (-1) :: S) M Q) := nr rfl
set_option maxRecDepth 100000 in
theorem v141_185 (n d : Nat) (L : List (Option mL)) (S : List mV) (M : Mm) (Q : mQ) : vc (n + 1) d 141 185 L S M Q = (pI S fun y S => pI S fun x S => (¬ x = y → vc n d 141 190 L S M Q) ∧ (¬ (¬ x = y) → vc n d 141 188 L S M Q)) := nr rfl
set_option maxRecDepth 100000 in
theorem v141_188 (n d : Nat) (L : List (Option mL)) (S : List mV) (M : Mm) (Q : mQ) : vc (n + 1) d 141 188 L S M Q = (vc n d 141 189 L (.inl (-1) :: S) M Q) := nr rfl
set_option maxRecDepth 100000 in
theorem v141_189 (n d : Nat) (L : List (Option mL)) (S : List mV) (M : Mm) (Q : mQ) : vc (n + 1) d 141 189 L S M Q = (pI S fun x S => S = [] ∧ (0 = 0 ∨ x = 0 ∨ x = 1) ∧ Q (some (.inl x)) M) := nr rfl
set_option maxRecDepth 100000 in
theorem v141_190 (n d : Nat) (L : List (Option mL)) (S : List mV) (M : Mm) (Q : mQ) : vc (n + 1) d 141 190 L S M Q = (gR L 0 fun x => vc n d 141 191 L (.inr (.inr x) :: S) M Q) := nr rfl
set_option maxRecDepth 100000 in
theorem v141_191 (n d : Nat) (L : List (Option mL)) (S : List mV) (M : Mm) (Q : mQ) : vc (n + 1) d 141 191 L S M Q = (pA S fun a S => shO M a 10 (vc n d 141 194 L (.inl (M.it a 38) :: S) M Q)) := nr rfl
set_option maxRecDepth 100000 in
theorem v141_194 (n d : Nat) (L : List (Option mL)) (S : List mV) (M : Mm) (Q : mQ) : vc (n + 1) d 141 194 L S M Q = (pI S fun x S => sL L 4 (some (.inl x)) fun L => X d 141 196 L S M Q) := nr rfl
set_option maxRecDepth 100000 in
theorem v141_196 (n d : Nat) (L : List (Option mL)) (S : List mV) (M : Mm) (Q : mQ) : vc (n + 1) d 141 196 L S M Q = (gI L 4 fun x => vc n d 141 198 L (.inl x :: S) M Q) := nr rfl
set_option maxRecDepth 100000 in
theorem v141_198 (n d : Nat) (L : List (Option mL)) (S : List mV) (M : Mm) (Q : mQ) : vc (n + 1) d 141 198 L S M Q = (gR L 0 fun x => vc n d 141 199 L (.inr (.inr x) :: S) M Q) := nr rfl
set_option maxRecDepth 100000 in
theorem v141_199 (n d : Nat) (L : List (Option mL)) (S : List mV) (M : Mm) (Q : mQ) : vc (n + 1) d 141 199 L S M Q = (pA S fun a S => shO M a 10 (vc n d 141 202 L (.inl (M.it a 39) :: S) M Q)) := nr rfl
set_option maxRecDepth 100000 in
theorem v141_202 (n d : Nat) (L : List (Option mL)) (S : List mV) (M : Mm) (Q : mQ) : vc (n + 1) d 141 202 L S M Q = (pI S fun y S => pI S fun x S => (y ≤ x → vc n d 141 264 L S M Q) ∧ (¬ (y ≤ x) → vc n d 141 205 L S M Q)) := nr rfl
set_option maxRecDepth 100000 in
theorem v141_205 (n d : Nat) (L : List (Option mL)) (S : List mV) (M : Mm) (Q : mQ) : vc (n + 1) d 141 205 L S M Q = (vc n d 141 206 L (.inl 0 :: S) M Q) := nr rfl
set_option maxRecDepth 100000 in
theorem v141_206 (n d : Nat) (L : List (Option mL)) (S : List mV) (M : Mm) (Q : mQ) : vc (n + 1) d 141 206 L S M Q = (pI S fun x S => sL L 5 (some (.inl x)) fun L => X d 141 208 L S M Q) := nr rfl
set_option maxRecDepth 100000 in
theorem v141_208 (n d : Nat) (L : List (Option mL)) (S : List mV) (M : Mm) (Q : mQ) : vc (n + 1) d 141 208 L S M Q = (gI L 5 fun x => vc n d 141 210 L (.inl x :: S) M Q) := nr rfl
set_option maxRecDepth 100000 in
theorem v141_210 (n d : Nat) (L : List (Option mL)) (S : List mV) (M : Mm) (Q : mQ) : vc (n + 1) d 141 210 L S M Q = (vc n d 141 212 L (.inl 48 :: S) M Q) := nr rfl
set_option maxRecDepth 100000 in
theorem v141_212 (n d : Nat) (L : List (Option mL)) (S : List mV) (M : Mm) (Q : mQ) : vc (n + 1) d 141 212 L S M Q = (pI S fun y S => pI S fun x S => (y ≤ x → vc n d 141 258 L S M Q) ∧ (¬ (y ≤ x) → vc n d 141 215 L S M Q)) := nr rfl
set_option maxRecDepth 100000 in
theorem v141_215 (n d : Nat) (L : List (Option mL)) (S : List mV) (M : Mm) (Q : mQ) : vc (n + 1) d 141 215 L S M Q = (gR L 0 fun x => vc n d 141 216 L (.inr (.inr x) :: S) M Q) := nr rfl
set_option maxRecDepth 100000 in
theorem v141_216 (n d : Nat) (L : List (Option mL)) (S : List mV) (M : Mm) (Q : mQ) : vc (n + 1) d 141 216 L S M Q = (pA S fun a S => shO M a 10 (rrf M a 37 fun r => vc n d 141 219 L (.inr (.inr r) :: S) M Q)) := nr rfl
set_option maxRecDepth 100000 in
theorem v141_219 (n d : Nat) (L : List (Option mL)) (S : List mV) (M : Mm) (Q : mQ) : vc (n + 1) d 141 219 L S M Q = (gI L 5 fun x => vc n d 141 221 L (.inl x :: S) M Q) := nr rfl
set_option maxRecDepth 100000 in
theorem v141_221 (n d : Nat) (L : List (Option mL)) (S : List mV) (M : Mm) (Q : mQ) : vc (n + 1) d 141 221 L S M Q = (pI S fun i S => pA S fun a S => shA M a fun t k => (t = 40 ∨ t = 41) ∧ inB i k ∧ vc n d 141 222 L (.inl (M.it a i.toNatClampNeg) :: S) M Q) := nr rfl
set_option maxRecDepth 100000 in
theorem v141_222 (n d : Nat) (L : List (Option mL)) (S : List mV) (M : Mm) (Q : mQ) : vc (n + 1) d 141 222 L S M Q = (vc n d 141 223 L (.inl (-1) :: S) M Q) := nr rfl
set_option maxRecDepth 100000 in
theorem v141_223 (n d : Nat) (L : List (Option mL)) (S : List mV) (M : Mm) (Q : mQ) : vc (n + 1) d 141 223 L S M Q = (pI S fun y S => pI S fun x S => (x = y → X d 141 252 L S M Q) ∧ (¬ (x = y) → vc n d 141 226 L S M Q)) := nr rfl
set_option maxRecDepth 100000 in
theorem v141_226 (n d : Nat) (L : List (Option mL)) (S : List mV) (M : Mm) (Q : mQ) : vc (n + 1) d 141 226 L S M Q = (gR L 0 fun x => vc n d 141 227 L (.inr (.inr x) :: S) M Q) := nr rfl
set_option maxRecDepth 100000 in
theorem v141_227 (n d : Nat) (L : List (Option mL)) (S : List mV) (M : Mm) (Q : mQ) : vc (n + 1) d 141 227 L S M Q = (pA S fun a S => shO M a 10 (rrf M a 37 fun r => vc n d 141 230 L (.inr (.inr r) :: S) M Q)) := nr rfl
set_option maxRecDepth 100000 in
theorem v141_230 (n d : Nat) (L : List (Option mL)) (S : List mV) (M : Mm) (Q : mQ) : vc (n + 1) d 141 230 L S M Q = (gI L 5 fun x => vc n d 141 232 L (.inl x :: S) M Q) := nr rfl
set_option maxRecDepth 100000 in
theorem v141_232 (n d : Nat) (L : List (Option mL)) (S : List mV) (M : Mm) (Q : mQ) : vc (n + 1) d 141 232 L S M Q = (pI S fun i S => pA S fun a S => shA M a fun t k => (t = 40 ∨ t = 41) ∧ inB i k ∧ vc n d 141 233 L (.inl (M.it a i.toNatClampNeg) :: S) M Q) := nr rfl
set_option maxRecDepth 100000 in
theorem v141_233 (n d : Nat) (L : List (Option mL)) (S : List mV) (M : Mm) (Q : mQ) : vc (n + 1) d 141 233 L S M Q = (vc n d 141 236 L (.inl 255 :: S) M Q) := nr rfl
set_option maxRecDepth 100000 in
theorem v141_236 (n d : Nat) (L : List (Option mL)) (S : List mV) (M : Mm) (Q : mQ) : vc (n + 1) d 141 236 L S M Q = (pI S fun y S => pI S fun x S => (x = y → X d 141 252 L S M Q) ∧ (¬ (x = y) → vc n d 141 239 L S M Q)) := nr rfl
set_option maxRecDepth 100000 in
theorem v141_239 (n d : Nat) (L : List (Option mL)) (S : List mV) (M : Mm) (Q : mQ) : vc (n + 1) d 141 239 L S M Q = (gR L 0 fun x => vc n d 141 240 L (.inr (.inr x) :: S) M Q) := nr rfl
set_option maxRecDepth 100000 in
theorem v141_240 (n d : Nat) (L : List (Option mL)) (S : List mV) (M : Mm) (Q : mQ) : vc (n + 1) d 141 240 L S M Q = (gI L 4 fun x => vc n d 141 242 L (.inl x :: S) M Q) := nr rfl
set_option maxRecDepth 100000 in
theorem v141_242 (n d : Nat) (L : List (Option mL)) (S : List mV) (M : Mm) (Q : mQ) : vc (n + 1) d 141 242 L S M Q = (gR L 0 fun x => vc n d 141 243 L (.inr (.inr x) :: S) M Q) := nr rfl
set_option maxRecDepth 100000 in
theorem v141_243 (n d : Nat) (L : List (Option mL)) (S : List mV) (M : Mm) (Q : mQ) : vc (n + 1) d 141 243 L S M Q = (pA S fun a S => shO M a 10 (rrf M a 37 fun r => vc n d 141 246 L (.inr (.inr r) :: S) M Q)) := nr rfl
set_option maxRecDepth 100000 in
theorem v141_246 (n d : Nat) (L : List (Option mL)) (S : List mV) (M : Mm) (Q : mQ) : vc (n + 1) d 141 246 L S M Q = (gI L 5 fun x => vc n d 141 248 L (.inl x :: S) M Q) := nr rfl
set_option maxRecDepth 100000 in
theorem v141_248 (n d : Nat) (L : List (Option mL)) (S : List mV) (M : Mm) (Q : mQ) : vc (n + 1) d 141 248 L S M Q = (pI S fun i S => pA S fun a S => shA M a fun t k => (t = 40 ∨ t = 41) ∧ inB i k ∧ vc n d 141 249 L (.inl (M.it a i.toNatClampNeg) :: S) M Q) := nr rfl
set_option maxRecDepth 100000 in
theorem v141_249 (n d : Nat) (L : List (Option mL)) (S : List mV) (M : Mm) (Q : mQ) : vc (n + 1) d 141 249 L S M Q = (pAs 2 S fun as S => pA S fun a S => shO M a 10 (stk S ≤ 8 ∧ XC d 142 (.inr (some a) :: as) M (fun r M => r = none ∧ X d 141 252 L S M Q))) := nr rfl
set_option maxRecDepth 100000 in
theorem v141_252 (n d : Nat) (L : List (Option mL)) (S : List mV) (M : Mm) (Q : mQ) : vc (n + 1) d 141 252 L S M Q = (gI L 5 fun x => sL L 5 (some (.inl (x + 1))) fun L => vc n d 141 255 L S M Q) := nr rfl
set_option maxRecDepth 100000 in
theorem v141_255 (n d : Nat) (L : List (Option mL)) (S : List mV) (M : Mm) (Q : mQ) : vc (n + 1) d 141 255 L S M Q = (X d 141 208 L S M Q) := nr rfl
set_option maxRecDepth 100000 in
theorem v141_258 (n d : Nat) (L : List (Option mL)) (S : List mV) (M : Mm) (Q : mQ) : vc (n + 1) d 141 258 L S M Q = (gI L 4 fun x => sL L 4 (some (.inl (x + 1))) fun L => vc n d 141 261 L S M Q) := nr rfl
set_option maxRecDepth 100000 in
theorem v141_261 (n d : Nat) (L : List (Option mL)) (S : List mV) (M : Mm) (Q : mQ) : vc (n + 1) d 141 261 L S M Q = (X d 141 196 L S M Q) := nr rfl
set_option maxRecDepth 100000 in
theorem v141_264 (n d : Nat) (L : List (Option mL)) (S : List mV) (M : Mm) (Q : mQ) : vc (n + 1) d 141 264 L S M Q = (gI L 3 fun x => vc n d 141 265 L (.inl x :: S) M Q) := nr rfl
set_option maxRecDepth 100000 in
theorem v141_265 (n d : Nat) (L : List (Option mL)) (S : List mV) (M : Mm) (Q : mQ) : vc (n + 1) d 141 265 L S M Q = (pI S fun x S => S = [] ∧ (0 = 0 ∨ x = 0 ∨ x = 1) ∧ Q (some (.inl x)) M) := nr rfl
set_option maxRecDepth 100000 in
theorem v142_0 (n d : Nat) (L : List (Option mL)) (S : List mV) (M : Mm) (Q : mQ) : vc (n + 1) d 142 0 L S M Q = (gR L 0 fun x => vc n d 142 1 L (.inr (.inr x) :: S) M Q) := nr rfl
set_option maxRecDepth 100000 in
theorem v142_1 (n d : Nat) (L : List (Option mL)) (S : List mV) (M : Mm) (Q : mQ) : vc (n + 1) d 142 1 L S M Q = (gI L 2 fun x => vc n d 142 2 L (.inl x :: S) M Q) := nr rfl
set_option maxRecDepth 100000 in
theorem v142_2 (n d : Nat) (L : List (Option mL)) (S : List mV) (M : Mm) (Q : mQ) : vc (n + 1) d 142 2 L S M Q = (pAs 1 S fun as S => pA S fun a S => shO M a 10 (stk S ≤ 8 ∧ XC d 131 (.inr (some a) :: as) M (fun r M => ∃ x : Int32, r = some (.inl x) ∧ X d 142 5 L (.inl x :: S) M Q))) := nr rfl
set_option maxRecDepth 100000 in
theorem v142_5 (n d : Nat) (L : List (Option mL)) (S : List mV) (M : Mm) (Q : mQ) : vc (n + 1) d 142 5 L S M Q = (pAs 1 S fun as S => stk S ≤ 8 ∧ XC d 122 as M (fun r M => ∃ x : Int32, r = some (.inl x) ∧ X d 142 8 L (.inl x :: S) M Q)) := nr rfl
set_option maxRecDepth 100000 in
theorem v142_8 (n d : Nat) (L : List (Option mL)) (S : List mV) (M : Mm) (Q : mQ) : vc (n + 1) d 142 8 L S M Q = (pI S fun x S => sL L 3 (some (.inl x)) fun L => vc n d 142 9 L S M Q) := nr rfl
set_option maxRecDepth 100000 in
theorem v142_9 (n d : Nat) (L : List (Option mL)) (S : List mV) (M : Mm) (Q : mQ) : vc (n + 1) d 142 9 L S M Q = (vc n d 142 10 L (.inl 0 :: S) M Q) := nr rfl
set_option maxRecDepth 100000 in
theorem v142_10 (n d : Nat) (L : List (Option mL)) (S : List mV) (M : Mm) (Q : mQ) : vc (n + 1) d 142 10 L S M Q = (pI S fun x S => sL L 4 (some (.inl x)) fun L => X d 142 12 L S M Q) := nr rfl
set_option maxRecDepth 100000 in
theorem v142_12 (n d : Nat) (L : List (Option mL)) (S : List mV) (M : Mm) (Q : mQ) : vc (n + 1) d 142 12 L S M Q = (gI L 4 fun x => vc n d 142 14 L (.inl x :: S) M Q) := nr rfl
set_option maxRecDepth 100000 in
theorem v142_14 (n d : Nat) (L : List (Option mL)) (S : List mV) (M : Mm) (Q : mQ) : vc (n + 1) d 142 14 L S M Q = (gR L 0 fun x => vc n d 142 15 L (.inr (.inr x) :: S) M Q) := nr rfl
set_option maxRecDepth 100000 in
theorem v142_15 (n d : Nat) (L : List (Option mL)) (S : List mV) (M : Mm) (Q : mQ) : vc (n + 1) d 142 15 L S M Q = (pA S fun a S => shO M a 10 (vc n d 142 18 L (.inl (M.it a 38) :: S) M Q)) := nr rfl
set_option maxRecDepth 100000 in
theorem v142_18 (n d : Nat) (L : List (Option mL)) (S : List mV) (M : Mm) (Q : mQ) : vc (n + 1) d 142 18 L S M Q = (pI S fun y S => pI S fun x S => (y ≤ x → vc n d 142 63 L S M Q) ∧ (¬ (y ≤ x) → vc n d 142 21 L S M Q)) := nr rfl
set_option maxRecDepth 100000 in
theorem v142_21 (n d : Nat) (L : List (Option mL)) (S : List mV) (M : Mm) (Q : mQ) : vc (n + 1) d 142 21 L S M Q = (gR L 0 fun x => vc n d 142 22 L (.inr (.inr x) :: S) M Q) := nr rfl
set_option maxRecDepth 100000 in
theorem v142_22 (n d : Nat) (L : List (Option mL)) (S : List mV) (M : Mm) (Q : mQ) : vc (n + 1) d 142 22 L S M Q = (pA S fun a S => shO M a 10 (rrf M a 20 fun r => vc n d 142 25 L (.inr (.inr r) :: S) M Q)) := nr rfl
set_option maxRecDepth 100000 in
theorem v142_25 (n d : Nat) (L : List (Option mL)) (S : List mV) (M : Mm) (Q : mQ) : vc (n + 1) d 142 25 L S M Q = (gI L 4 fun x => vc n d 142 27 L (.inl x :: S) M Q) := nr rfl
set_option maxRecDepth 100000 in
theorem v142_27 (n d : Nat) (L : List (Option mL)) (S : List mV) (M : Mm) (Q : mQ) : vc (n + 1) d 142 27 L S M Q = (pI S fun i S => pA S fun a S => shA M a fun t k => (t = 40 ∨ t = 41) ∧ inB i k ∧ vc n d 142 28 L (.inl (M.it a i.toNatClampNeg) :: S) M Q) := nr rfl
set_option maxRecDepth 100000 in
theorem v142_28 (n d : Nat) (L : List (Option mL)) (S : List mV) (M : Mm) (Q : mQ) : vc (n + 1) d 142 28 L S M Q = (gI L 2 fun x => vc n d 142 29 L (.inl x :: S) M Q) := nr rfl
set_option maxRecDepth 100000 in
theorem v142_29 (n d : Nat) (L : List (Option mL)) (S : List mV) (M : Mm) (Q : mQ) : vc (n + 1) d 142 29 L S M Q = (pI S fun y S => pI S fun x S => (x < y → X d 142 57 L S M Q) ∧ (¬ (x < y) → vc n d 142 32 L S M Q)) := nr rfl
set_option maxRecDepth 100000 in
theorem v142_32 (n d : Nat) (L : List (Option mL)) (S : List mV) (M : Mm) (Q : mQ) : vc (n + 1) d 142 32 L S M Q = (gR L 0 fun x => vc n d 142 33 L (.inr (.inr x) :: S) M Q) := nr rfl
set_option maxRecDepth 100000 in
theorem v142_33 (n d : Nat) (L : List (Option mL)) (S : List mV) (M : Mm) (Q : mQ) : vc (n + 1) d 142 33 L S M Q = (pA S fun a S => shO M a 10 (rrf M a 20 fun r => vc n d 142 36 L (.inr (.inr r) :: S) M Q)) := nr rfl
set_option maxRecDepth 100000 in
theorem v142_36 (n d : Nat) (L : List (Option mL)) (S : List mV) (M : Mm) (Q : mQ) : vc (n + 1) d 142 36 L S M Q = (gI L 4 fun x => vc n d 142 38 L (.inl x :: S) M Q) := nr rfl
set_option maxRecDepth 100000 in
theorem v142_38 (n d : Nat) (L : List (Option mL)) (S : List mV) (M : Mm) (Q : mQ) : vc (n + 1) d 142 38 L S M Q = (pI S fun i S => pA S fun a S => shA M a fun t k => (t = 40 ∨ t = 41) ∧ inB i k ∧ vc n d 142 39 L (.inl (M.it a i.toNatClampNeg) :: S) M Q) := nr rfl
set_option maxRecDepth 100000 in
theorem v142_39 (n d : Nat) (L : List (Option mL)) (S : List mV) (M : Mm) (Q : mQ) : vc (n + 1) d 142 39 L S M Q = (gI L 2 fun x => vc n d 142 40 L (.inl x :: S) M Q) := nr rfl
set_option maxRecDepth 100000 in
theorem v142_40 (n d : Nat) (L : List (Option mL)) (S : List mV) (M : Mm) (Q : mQ) : vc (n + 1) d 142 40 L S M Q = (gI L 3 fun x => vc n d 142 41 L (.inl x :: S) M Q) := nr rfl
set_option maxRecDepth 100000 in
theorem v142_41 (n d : Nat) (L : List (Option mL)) (S : List mV) (M : Mm) (Q : mQ) : vc (n + 1) d 142 41 L S M Q = (pI S fun y S => pI S fun x S => vc n d 142 42 L (.inl (x + y) :: S) M Q) := nr rfl
set_option maxRecDepth 100000 in
theorem v142_42 (n d : Nat) (L : List (Option mL)) (S : List mV) (M : Mm) (Q : mQ) : vc (n + 1) d 142 42 L S M Q = (pI S fun y S => pI S fun x S => (y ≤ x → X d 142 57 L S M Q) ∧ (¬ (y ≤ x) → vc n d 142 45 L S M Q)) := nr rfl
set_option maxRecDepth 100000 in
theorem v142_45 (n d : Nat) (L : List (Option mL)) (S : List mV) (M : Mm) (Q : mQ) : vc (n + 1) d 142 45 L S M Q = (gR L 0 fun x => vc n d 142 46 L (.inr (.inr x) :: S) M Q) := nr rfl
set_option maxRecDepth 100000 in
theorem v142_46 (n d : Nat) (L : List (Option mL)) (S : List mV) (M : Mm) (Q : mQ) : vc (n + 1) d 142 46 L S M Q = (gI L 1 fun x => vc n d 142 47 L (.inl x :: S) M Q) := nr rfl
set_option maxRecDepth 100000 in
theorem v142_47 (n d : Nat) (L : List (Option mL)) (S : List mV) (M : Mm) (Q : mQ) : vc (n + 1) d 142 47 L S M Q = (gR L 0 fun x => vc n d 142 48 L (.inr (.inr x) :: S) M Q) := nr rfl
set_option maxRecDepth 100000 in
theorem v142_48 (n d : Nat) (L : List (Option mL)) (S : List mV) (M : Mm) (Q : mQ) : vc (n + 1) d 142 48 L S M Q = (pA S fun a S => shO M a 10 (rrf M a 19 fun r => vc n d 142 51 L (.inr (.inr r) :: S) M Q)) := nr rfl
set_option maxRecDepth 100000 in
theorem v142_51 (n d : Nat) (L : List (Option mL)) (S : List mV) (M : Mm) (Q : mQ) : vc (n + 1) d 142 51 L S M Q = (gI L 4 fun x => vc n d 142 53 L (.inl x :: S) M Q) := nr rfl
set_option maxRecDepth 100000 in
theorem v142_53 (n d : Nat) (L : List (Option mL)) (S : List mV) (M : Mm) (Q : mQ) : vc (n + 1) d 142 53 L S M Q = (pI S fun i S => pA S fun a S => shA M a fun t k => (t = 40 ∨ t = 41) ∧ inB i k ∧ vc n d 142 54 L (.inl (M.it a i.toNatClampNeg) :: S) M Q) := nr rfl
set_option maxRecDepth 100000 in
theorem v142_54 (n d : Nat) (L : List (Option mL)) (S : List mV) (M : Mm) (Q : mQ) : vc (n + 1) d 142 54 L S M Q = (pAs 2 S fun as S => pA S fun a S => shO M a 10 (stk S ≤ 8 ∧ XC d 126 (.inr (some a) :: as) M (fun r M => r = none ∧ X d 142 57 L S M Q))) := nr rfl
set_option maxRecDepth 100000 in
theorem v142_57 (n d : Nat) (L : List (Option mL)) (S : List mV) (M : Mm) (Q : mQ) : vc (n + 1) d 142 57 L S M Q = (gI L 4 fun x => sL L 4 (some (.inl (x + 1))) fun L => vc n d 142 60 L S M Q) := nr rfl
set_option maxRecDepth 100000 in
theorem v142_60 (n d : Nat) (L : List (Option mL)) (S : List mV) (M : Mm) (Q : mQ) : vc (n + 1) d 142 60 L S M Q = (X d 142 12 L S M Q) := nr rfl
set_option maxRecDepth 100000 in
theorem v142_63 (n d : Nat) (L : List (Option mL)) (S : List mV) (M : Mm) (Q : mQ) : vc (n + 1) d 142 63 L S M Q = (S = [] ∧ Q none M) := nr rfl
set_option maxRecDepth 100000 in
theorem v143_0 (n d : Nat) (L : List (Option mL)) (S : List mV) (M : Mm) (Q : mQ) : vc (n + 1) d 143 0 L S M Q = (gI L 2 fun x => vc n d 143 1 L (.inl x :: S) M Q) := nr rfl
set_option maxRecDepth 100000 in
theorem v143_1 (n d : Nat) (L : List (Option mL)) (S : List mV) (M : Mm) (Q : mQ) : vc (n + 1) d 143 1 L S M Q = (pI S fun x S => (x = 0 → vc n d 143 8 L S M Q) ∧ (¬ (x = 0) → vc n d 143 4 L S M Q)) := nr rfl
set_option maxRecDepth 100000 in
theorem v143_4 (n d : Nat) (L : List (Option mL)) (S : List mV) (M : Mm) (Q : mQ) : vc (n + 1) d 143 4 L S M Q = (vc n d 143 5 L (.inl 0 :: S) M Q) := nr rfl
set_option maxRecDepth 100000 in
theorem v143_5 (n d : Nat) (L : List (Option mL)) (S : List mV) (M : Mm) (Q : mQ) : vc (n + 1) d 143 5 L S M Q = (vc n d 143 12 L S M Q) := nr rfl
set_option maxRecDepth 100000 in
theorem v143_8 (n d : Nat) (L : List (Option mL)) (S : List mV) (M : Mm) (Q : mQ) : vc (n + 1) d 143 8 L S M Q = (gR L 0 fun x => vc n d 143 9 L (.inr (.inr x) :: S) M Q) := nr rfl
set_option maxRecDepth 100000 in
theorem v143_9 (n d : Nat) (L : List (Option mL)) (S : List mV) (M : Mm) (Q : mQ) : vc (n + 1) d 143 9 L S M Q = (pA S fun a S => shO M a 10 (vc n d 143 12 L (.inl (M.it a 11) :: S) M Q)) := nr rfl
set_option maxRecDepth 100000 in
theorem v143_12 (n d : Nat) (L : List (Option mL)) (S : List mV) (M : Mm) (Q : mQ) : vc (n + 1) d 143 12 L S M Q = (pI S fun x S => sL L 3 (some (.inl x)) fun L => vc n d 143 13 L S M Q) := nr rfl
set_option maxRecDepth 100000 in
theorem v143_13 (n d : Nat) (L : List (Option mL)) (S : List mV) (M : Mm) (Q : mQ) : vc (n + 1) d 143 13 L S M Q = (gI L 3 fun x => vc n d 143 14 L (.inl x :: S) M Q) := nr rfl
set_option maxRecDepth 100000 in
theorem v143_14 (n d : Nat) (L : List (Option mL)) (S : List mV) (M : Mm) (Q : mQ) : vc (n + 1) d 143 14 L S M Q = (pI S fun x S => sL L 4 (some (.inl x)) fun L => X d 143 16 L S M Q) := nr rfl
set_option maxRecDepth 100000 in
theorem v143_16 (n d : Nat) (L : List (Option mL)) (S : List mV) (M : Mm) (Q : mQ) : vc (n + 1) d 143 16 L S M Q = (gI L 4 fun x => vc n d 143 18 L (.inl x :: S) M Q) := nr rfl
set_option maxRecDepth 100000 in
theorem v143_18 (n d : Nat) (L : List (Option mL)) (S : List mV) (M : Mm) (Q : mQ) : vc (n + 1) d 143 18 L S M Q = (pI S fun x S => (x ≤ 0 → vc n d 143 87 L S M Q) ∧ (¬ (x ≤ 0) → vc n d 143 21 L S M Q)) := nr rfl
set_option maxRecDepth 100000 in
theorem v143_21 (n d : Nat) (L : List (Option mL)) (S : List mV) (M : Mm) (Q : mQ) : vc (n + 1) d 143 21 L S M Q = (gR L 0 fun x => vc n d 143 22 L (.inr (.inr x) :: S) M Q) := nr rfl
set_option maxRecDepth 100000 in
theorem v143_22 (n d : Nat) (L : List (Option mL)) (S : List mV) (M : Mm) (Q : mQ) : vc (n + 1) d 143 22 L S M Q = (pA S fun a S => shO M a 10 (rrf M a 16 fun r => vc n d 143 25 L (.inr (.inr r) :: S) M Q)) := nr rfl
set_option maxRecDepth 100000 in
theorem v143_25 (n d : Nat) (L : List (Option mL)) (S : List mV) (M : Mm) (Q : mQ) : vc (n + 1) d 143 25 L S M Q = (gI L 4 fun x => vc n d 143 27 L (.inl x :: S) M Q) := nr rfl
set_option maxRecDepth 100000 in
theorem v143_27 (n d : Nat) (L : List (Option mL)) (S : List mV) (M : Mm) (Q : mQ) : vc (n + 1) d 143 27 L S M Q = (gR L 0 fun x => vc n d 143 28 L (.inr (.inr x) :: S) M Q) := nr rfl
set_option maxRecDepth 100000 in
theorem v143_28 (n d : Nat) (L : List (Option mL)) (S : List mV) (M : Mm) (Q : mQ) : vc (n + 1) d 143 28 L S M Q = (pA S fun a S => shO M a 10 (rrf M a 16 fun r => vc n d 143 31 L (.inr (.inr r) :: S) M Q)) := nr rfl
set_option maxRecDepth 100000 in
theorem v143_31 (n d : Nat) (L : List (Option mL)) (S : List mV) (M : Mm) (Q : mQ) : vc (n + 1) d 143 31 L S M Q = (gI L 4 fun x => vc n d 143 33 L (.inl x :: S) M Q) := nr rfl
set_option maxRecDepth 100000 in
theorem v143_33 (n d : Nat) (L : List (Option mL)) (S : List mV) (M : Mm) (Q : mQ) : vc (n + 1) d 143 33 L S M Q = (vc n d 143 34 L (.inl 1 :: S) M Q) := nr rfl
set_option maxRecDepth 100000 in
theorem v143_34 (n d : Nat) (L : List (Option mL)) (S : List mV) (M : Mm) (Q : mQ) : vc (n + 1) d 143 34 L S M Q = (pI S fun y S => pI S fun x S => vc n d 143 35 L (.inl (x - y) :: S) M Q) := nr rfl
set_option maxRecDepth 100000 in
theorem v143_35 (n d : Nat) (L : List (Option mL)) (S : List mV) (M : Mm) (Q : mQ) : vc (n + 1) d 143 35 L S M Q = (pI S fun i S => pA S fun a S => shA M a fun t k => (t = 40 ∨ t = 41) ∧ inB i k ∧ vc n d 143 36 L (.inl (M.it a i.toNatClampNeg) :: S) M Q) := nr rfl
set_option maxRecDepth 100000 in
theorem v143_36 (n d : Nat) (L : List (Option mL)) (S : List mV) (M : Mm) (Q : mQ) : vc (n + 1) d 143 36 L S M Q = (pI S fun x S => pI S fun i S => pA S fun a S => shA M a fun t k => t = 41 ∧ inB i k ∧ vc n d 143 37 L S (M.si a i.toNatClampNeg x) Q) := nr rfl
set_option maxRecDepth 100000 in
theorem v143_37 (n d : Nat) (L : List (Option mL)) (S : List mV) (M : Mm) (Q : mQ) : vc (n + 1) d 143 37 L S M Q = (vc n d 143 38 L (.inl 0 :: S) M Q) := nr rfl
set_option maxRecDepth 100000 in
theorem v143_38 (n d : Nat) (L : List (Option mL)) (S : List mV) (M : Mm) (Q : mQ) : vc (n + 1) d 143 38 L S M Q = (pI S fun x S => sL L 5 (some (.inl x)) fun L => X d 143 40 L S M Q) := nr rfl
set_option maxRecDepth 100000 in
theorem v143_40 (n d : Nat) (L : List (Option mL)) (S : List mV) (M : Mm) (Q : mQ) : vc (n + 1) d 143 40 L S M Q = (gI L 5 fun x => vc n d 143 42 L (.inl x :: S) M Q) := nr rfl
set_option maxRecDepth 100000 in
theorem v143_42 (n d : Nat) (L : List (Option mL)) (S : List mV) (M : Mm) (Q : mQ) : vc (n + 1) d 143 42 L S M Q = (vc n d 143 44 L (.inl 48 :: S) M Q) := nr rfl
set_option maxRecDepth 100000 in
theorem v143_44 (n d : Nat) (L : List (Option mL)) (S : List mV) (M : Mm) (Q : mQ) : vc (n + 1) d 143 44 L S M Q = (pI S fun y S => pI S fun x S => (y ≤ x → vc n d 143 81 L S M Q) ∧ (¬ (y ≤ x) → vc n d 143 47 L S M Q)) := nr rfl
set_option maxRecDepth 100000 in
theorem v143_47 (n d : Nat) (L : List (Option mL)) (S : List mV) (M : Mm) (Q : mQ) : vc (n + 1) d 143 47 L S M Q = (gR L 0 fun x => vc n d 143 48 L (.inr (.inr x) :: S) M Q) := nr rfl
set_option maxRecDepth 100000 in
theorem v143_48 (n d : Nat) (L : List (Option mL)) (S : List mV) (M : Mm) (Q : mQ) : vc (n + 1) d 143 48 L S M Q = (pA S fun a S => shO M a 10 (rrf M a 18 fun r => vc n d 143 51 L (.inr (.inr r) :: S) M Q)) := nr rfl
set_option maxRecDepth 100000 in
theorem v143_51 (n d : Nat) (L : List (Option mL)) (S : List mV) (M : Mm) (Q : mQ) : vc (n + 1) d 143 51 L S M Q = (vc n d 143 53 L (.inl 48 :: S) M Q) := nr rfl
set_option maxRecDepth 100000 in
theorem v143_53 (n d : Nat) (L : List (Option mL)) (S : List mV) (M : Mm) (Q : mQ) : vc (n + 1) d 143 53 L S M Q = (gI L 4 fun x => vc n d 143 55 L (.inl x :: S) M Q) := nr rfl
set_option maxRecDepth 100000 in
theorem v143_55 (n d : Nat) (L : List (Option mL)) (S : List mV) (M : Mm) (Q : mQ) : vc (n + 1) d 143 55 L S M Q = (pI S fun y S => pI S fun x S => vc n d 143 56 L (.inl (x * y) :: S) M Q) := nr rfl
set_option maxRecDepth 100000 in
theorem v143_56 (n d : Nat) (L : List (Option mL)) (S : List mV) (M : Mm) (Q : mQ) : vc (n + 1) d 143 56 L S M Q = (gI L 5 fun x => vc n d 143 58 L (.inl x :: S) M Q) := nr rfl
set_option maxRecDepth 100000 in
theorem v143_58 (n d : Nat) (L : List (Option mL)) (S : List mV) (M : Mm) (Q : mQ) : vc (n + 1) d 143 58 L S M Q = (pI S fun y S => pI S fun x S => vc n d 143 59 L (.inl (x + y) :: S) M Q) := nr rfl
set_option maxRecDepth 100000 in
theorem v143_59 (n d : Nat) (L : List (Option mL)) (S : List mV) (M : Mm) (Q : mQ) : vc (n + 1) d 143 59 L S M Q = (gR L 0 fun x => vc n d 143 60 L (.inr (.inr x) :: S) M Q) := nr rfl
set_option maxRecDepth 100000 in
theorem v143_60 (n d : Nat) (L : List (Option mL)) (S : List mV) (M : Mm) (Q : mQ) : vc (n + 1) d 143 60 L S M Q = (pA S fun a S => shO M a 10 (rrf M a 18 fun r => vc n d 143 63 L (.inr (.inr r) :: S) M Q)) := nr rfl
set_option maxRecDepth 100000 in
theorem v143_63 (n d : Nat) (L : List (Option mL)) (S : List mV) (M : Mm) (Q : mQ) : vc (n + 1) d 143 63 L S M Q = (vc n d 143 65 L (.inl 48 :: S) M Q) := nr rfl
set_option maxRecDepth 100000 in
theorem v143_65 (n d : Nat) (L : List (Option mL)) (S : List mV) (M : Mm) (Q : mQ) : vc (n + 1) d 143 65 L S M Q = (gI L 4 fun x => vc n d 143 67 L (.inl x :: S) M Q) := nr rfl
set_option maxRecDepth 100000 in
theorem v143_67 (n d : Nat) (L : List (Option mL)) (S : List mV) (M : Mm) (Q : mQ) : vc (n + 1) d 143 67 L S M Q = (vc n d 143 68 L (.inl 1 :: S) M Q) := nr rfl
set_option maxRecDepth 100000 in
theorem v143_68 (n d : Nat) (L : List (Option mL)) (S : List mV) (M : Mm) (Q : mQ) : vc (n + 1) d 143 68 L S M Q = (pI S fun y S => pI S fun x S => vc n d 143 69 L (.inl (x - y) :: S) M Q) := nr rfl
set_option maxRecDepth 100000 in
theorem v143_69 (n d : Nat) (L : List (Option mL)) (S : List mV) (M : Mm) (Q : mQ) : vc (n + 1) d 143 69 L S M Q = (pI S fun y S => pI S fun x S => vc n d 143 70 L (.inl (x * y) :: S) M Q) := nr rfl
set_option maxRecDepth 100000 in
theorem v143_70 (n d : Nat) (L : List (Option mL)) (S : List mV) (M : Mm) (Q : mQ) : vc (n + 1) d 143 70 L S M Q = (gI L 5 fun x => vc n d 143 72 L (.inl x :: S) M Q) := nr rfl
set_option maxRecDepth 100000 in
theorem v143_72 (n d : Nat) (L : List (Option mL)) (S : List mV) (M : Mm) (Q : mQ) : vc (n + 1) d 143 72 L S M Q = (pI S fun y S => pI S fun x S => vc n d 143 73 L (.inl (x + y) :: S) M Q) := nr rfl
set_option maxRecDepth 100000 in
theorem v143_73 (n d : Nat) (L : List (Option mL)) (S : List mV) (M : Mm) (Q : mQ) : vc (n + 1) d 143 73 L S M Q = (pI S fun i S => pA S fun a S => shA M a fun t k => (t = 40 ∨ t = 41) ∧ inB i k ∧ vc n d 143 74 L (.inl (M.it a i.toNatClampNeg) :: S) M Q) := nr rfl
set_option maxRecDepth 100000 in
theorem v143_74 (n d : Nat) (L : List (Option mL)) (S : List mV) (M : Mm) (Q : mQ) : vc (n + 1) d 143 74 L S M Q = (pI S fun x S => pI S fun i S => pA S fun a S => shA M a fun t k => t = 41 ∧ inB i k ∧ vc n d 143 75 L S (M.si a i.toNatClampNeg x) Q) := nr rfl
set_option maxRecDepth 100000 in
theorem v143_75 (n d : Nat) (L : List (Option mL)) (S : List mV) (M : Mm) (Q : mQ) : vc (n + 1) d 143 75 L S M Q = (gI L 5 fun x => sL L 5 (some (.inl (x + 1))) fun L => vc n d 143 78 L S M Q) := nr rfl
set_option maxRecDepth 100000 in
theorem v143_78 (n d : Nat) (L : List (Option mL)) (S : List mV) (M : Mm) (Q : mQ) : vc (n + 1) d 143 78 L S M Q = (X d 143 40 L S M Q) := nr rfl
set_option maxRecDepth 100000 in
theorem v143_81 (n d : Nat) (L : List (Option mL)) (S : List mV) (M : Mm) (Q : mQ) : vc (n + 1) d 143 81 L S M Q = (gI L 4 fun x => sL L 4 (some (.inl (x + (-1)))) fun L => vc n d 143 84 L S M Q) := nr rfl
set_option maxRecDepth 100000 in
theorem v143_84 (n d : Nat) (L : List (Option mL)) (S : List mV) (M : Mm) (Q : mQ) : vc (n + 1) d 143 84 L S M Q = (X d 143 16 L S M Q) := nr rfl
set_option maxRecDepth 100000 in
theorem v143_87 (n d : Nat) (L : List (Option mL)) (S : List mV) (M : Mm) (Q : mQ) : vc (n + 1) d 143 87 L S M Q = (gR L 0 fun x => vc n d 143 88 L (.inr (.inr x) :: S) M Q) := nr rfl
set_option maxRecDepth 100000 in
theorem v143_88 (n d : Nat) (L : List (Option mL)) (S : List mV) (M : Mm) (Q : mQ) : vc (n + 1) d 143 88 L S M Q = (pA S fun a S => shO M a 10 (rrf M a 16 fun r => vc n d 143 91 L (.inr (.inr r) :: S) M Q)) := nr rfl
set_option maxRecDepth 100000 in
theorem v143_91 (n d : Nat) (L : List (Option mL)) (S : List mV) (M : Mm) (Q : mQ) : vc (n + 1) d 143 91 L S M Q = (vc n d 143 92 L (.inl 0 :: S) M Q) := nr rfl
set_option maxRecDepth 100000 in
theorem v143_92 (n d : Nat) (L : List (Option mL)) (S : List mV) (M : Mm) (Q : mQ) : vc (n + 1) d 143 92 L S M Q = (gI L 1 fun x => vc n d 143 93 L (.inl x :: S) M Q) := nr rfl
set_option maxRecDepth 100000 in
theorem v143_93 (n d : Nat) (L : List (Option mL)) (S : List mV) (M : Mm) (Q : mQ) : vc (n + 1) d 143 93 L S M Q = (pI S fun x S => pI S fun i S => pA S fun a S => shA M a fun t k => t = 41 ∧ inB i k ∧ vc n d 143 94 L S (M.si a i.toNatClampNeg x) Q) := nr rfl
set_option maxRecDepth 100000 in
theorem v143_94 (n d : Nat) (L : List (Option mL)) (S : List mV) (M : Mm) (Q : mQ) : vc (n + 1) d 143 94 L S M Q = (vc n d 143 95 L (.inl 0 :: S) M Q) := nr rfl
set_option maxRecDepth 100000 in
theorem v143_95 (n d : Nat) (L : List (Option mL)) (S : List mV) (M : Mm) (Q : mQ) : vc (n + 1) d 143 95 L S M Q = (pI S fun x S => sL L 4 (some (.inl x)) fun L => X d 143 97 L S M Q) := nr rfl
set_option maxRecDepth 100000 in
theorem v143_97 (n d : Nat) (L : List (Option mL)) (S : List mV) (M : Mm) (Q : mQ) : vc (n + 1) d 143 97 L S M Q = (gI L 4 fun x => vc n d 143 99 L (.inl x :: S) M Q) := nr rfl
set_option maxRecDepth 100000 in
theorem v143_99 (n d : Nat) (L : List (Option mL)) (S : List mV) (M : Mm) (Q : mQ) : vc (n + 1) d 143 99 L S M Q = (vc n d 143 101 L (.inl 48 :: S) M Q) := nr rfl
set_option maxRecDepth 100000 in
theorem v143_101 (n d : Nat) (L : List (Option mL)) (S : List mV) (M : Mm) (Q : mQ) : vc (n + 1) d 143 101 L S M Q = (pI S fun y S => pI S fun x S => (y ≤ x → vc n d 143 132 L S M Q) ∧ (¬ (y ≤ x) → vc n d 143 104 L S M Q)) := nr rfl
set_option maxRecDepth 100000 in
theorem v143_104 (n d : Nat) (L : List (Option mL)) (S : List mV) (M : Mm) (Q : mQ) : vc (n + 1) d 143 104 L S M Q = (gR L 0 fun x => vc n d 143 105 L (.inr (.inr x) :: S) M Q) := nr rfl
set_option maxRecDepth 100000 in
theorem v143_105 (n d : Nat) (L : List (Option mL)) (S : List mV) (M : Mm) (Q : mQ) : vc (n + 1) d 143 105 L S M Q = (pA S fun a S => shO M a 10 (rrf M a 18 fun r => vc n d 143 108 L (.inr (.inr r) :: S) M Q)) := nr rfl
set_option maxRecDepth 100000 in
theorem v143_108 (n d : Nat) (L : List (Option mL)) (S : List mV) (M : Mm) (Q : mQ) : vc (n + 1) d 143 108 L S M Q = (gI L 4 fun x => vc n d 143 110 L (.inl x :: S) M Q) := nr rfl
set_option maxRecDepth 100000 in
theorem v143_110 (n d : Nat) (L : List (Option mL)) (S : List mV) (M : Mm) (Q : mQ) : vc (n + 1) d 143 110 L S M Q = (gR L 0 fun x => vc n d 143 111 L (.inr (.inr x) :: S) M Q) := nr rfl
set_option maxRecDepth 100000 in
theorem v143_111 (n d : Nat) (L : List (Option mL)) (S : List mV) (M : Mm) (Q : mQ) : vc (n + 1) d 143 111 L S M Q = (pA S fun a S => shO M a 10 (rrf M a 37 fun r => vc n d 143 114 L (.inr (.inr r) :: S) M Q)) := nr rfl
set_option maxRecDepth 100000 in
theorem v143_114 (n d : Nat) (L : List (Option mL)) (S : List mV) (M : Mm) (Q : mQ) : vc (n + 1) d 143 114 L S M Q = (gI L 4 fun x => vc n d 143 116 L (.inl x :: S) M Q) := nr rfl
set_option maxRecDepth 100000 in
theorem v143_116 (n d : Nat) (L : List (Option mL)) (S : List mV) (M : Mm) (Q : mQ) : vc (n + 1) d 143 116 L S M Q = (pI S fun i S => pA S fun a S => shA M a fun t k => (t = 40 ∨ t = 41) ∧ inB i k ∧ vc n d 143 117 L (.inl (M.it a i.toNatClampNeg) :: S) M Q) := nr rfl
set_option maxRecDepth 100000 in
theorem v143_117 (n d : Nat) (L : List (Option mL)) (S : List mV) (M : Mm) (Q : mQ) : vc (n + 1) d 143 117 L S M Q = (pI S fun x S => pI S fun i S => pA S fun a S => shA M a fun t k => t = 41 ∧ inB i k ∧ vc n d 143 118 L S (M.si a i.toNatClampNeg x) Q) := nr rfl
set_option maxRecDepth 100000 in
theorem v143_118 (n d : Nat) (L : List (Option mL)) (S : List mV) (M : Mm) (Q : mQ) : vc (n + 1) d 143 118 L S M Q = (gR L 0 fun x => vc n d 143 119 L (.inr (.inr x) :: S) M Q) := nr rfl
set_option maxRecDepth 100000 in
theorem v143_119 (n d : Nat) (L : List (Option mL)) (S : List mV) (M : Mm) (Q : mQ) : vc (n + 1) d 143 119 L S M Q = (pA S fun a S => shO M a 10 (rrf M a 17 fun r => vc n d 143 122 L (.inr (.inr r) :: S) M Q)) := nr rfl
set_option maxRecDepth 100000 in
theorem v143_122 (n d : Nat) (L : List (Option mL)) (S : List mV) (M : Mm) (Q : mQ) : vc (n + 1) d 143 122 L S M Q = (gI L 4 fun x => vc n d 143 124 L (.inl x :: S) M Q) := nr rfl
set_option maxRecDepth 100000 in
theorem v143_124 (n d : Nat) (L : List (Option mL)) (S : List mV) (M : Mm) (Q : mQ) : vc (n + 1) d 143 124 L S M Q = (vc n d 143 125 L (.inl (-1) :: S) M Q) := nr rfl
set_option maxRecDepth 100000 in
theorem v143_125 (n d : Nat) (L : List (Option mL)) (S : List mV) (M : Mm) (Q : mQ) : vc (n + 1) d 143 125 L S M Q = (pI S fun x S => pI S fun i S => pA S fun a S => shA M a fun t k => t = 41 ∧ inB i k ∧ vc n d 143 126 L S (M.si a i.toNatClampNeg x) Q) := nr rfl
set_option maxRecDepth 100000 in
theorem v143_126 (n d : Nat) (L : List (Option mL)) (S : List mV) (M : Mm) (Q : mQ) : vc (n + 1) d 143 126 L S M Q = (gI L 4 fun x => sL L 4 (some (.inl (x + 1))) fun L => vc n d 143 129 L S M Q) := nr rfl
set_option maxRecDepth 100000 in
theorem v143_129 (n d : Nat) (L : List (Option mL)) (S : List mV) (M : Mm) (Q : mQ) : vc (n + 1) d 143 129 L S M Q = (X d 143 97 L S M Q) := nr rfl
set_option maxRecDepth 100000 in
theorem v143_132 (n d : Nat) (L : List (Option mL)) (S : List mV) (M : Mm) (Q : mQ) : vc (n + 1) d 143 132 L S M Q = (gR L 0 fun x => vc n d 143 133 L (.inr (.inr x) :: S) M Q) := nr rfl
set_option maxRecDepth 100000 in
theorem v143_133 (n d : Nat) (L : List (Option mL)) (S : List mV) (M : Mm) (Q : mQ) : vc (n + 1) d 143 133 L S M Q = (gI L 3 fun x => vc n d 143 134 L (.inl x :: S) M Q) := nr rfl
set_option maxRecDepth 100000 in
theorem v143_134 (n d : Nat) (L : List (Option mL)) (S : List mV) (M : Mm) (Q : mQ) : vc (n + 1) d 143 134 L S M Q = (vc n d 143 135 L (.inl 1 :: S) M Q) := nr rfl
set_option maxRecDepth 100000 in
theorem v143_135 (n d : Nat) (L : List (Option mL)) (S : List mV) (M : Mm) (Q : mQ) : vc (n + 1) d 143 135 L S M Q = (pI S fun y S => pI S fun x S => vc n d 143 136 L (.inl (x + y) :: S) M Q) := nr rfl
set_option maxRecDepth 100000 in
theorem v143_136 (n d : Nat) (L : List (Option mL)) (S : List mV) (M : Mm) (Q : mQ) : vc (n + 1) d 143 136 L S M Q = (pI S fun x S => pA S fun a S => shO M a 10 (vc n d 143 139 L S (M.si a 11 x) Q)) := nr rfl
set_option maxRecDepth 100000 in
theorem v143_139 (n d : Nat) (L : List (Option mL)) (S : List mV) (M : Mm) (Q : mQ) : vc (n + 1) d 143 139 L S M Q = (S = [] ∧ Q none M) := nr rfl
set_option maxRecDepth 100000 in
theorem v144_0 (n d : Nat) (L : List (Option mL)) (S : List mV) (M : Mm) (Q : mQ) : vc (n + 1) d 144 0 L S M Q = (gR L 0 fun x => vc n d 144 1 L (.inr (.inr x) :: S) M Q) := nr rfl
set_option maxRecDepth 100000 in
theorem v144_1 (n d : Nat) (L : List (Option mL)) (S : List mV) (M : Mm) (Q : mQ) : vc (n + 1) d 144 1 L S M Q = (gR L 0 fun x => vc n d 144 2 L (.inr (.inr x) :: S) M Q) := nr rfl
set_option maxRecDepth 100000 in
theorem v144_2 (n d : Nat) (L : List (Option mL)) (S : List mV) (M : Mm) (Q : mQ) : vc (n + 1) d 144 2 L S M Q = (pA S fun a S => shO M a 10 (vc n d 144 5 L (.inl (M.it a 10) :: S) M Q)) := nr rfl
set_option maxRecDepth 100000 in
theorem v144_5 (n d : Nat) (L : List (Option mL)) (S : List mV) (M : Mm) (Q : mQ) : vc (n + 1) d 144 5 L S M Q = (pAs 1 S fun as S => pA S fun a S => shO M a 10 (stk S ≤ 8 ∧ XC d 124 (.inr (some a) :: as) M (fun r M => ∃ x : Int32, r = some (.inl x) ∧ X d 144 8 L (.inl x :: S) M Q))) := nr rfl
set_option maxRecDepth 100000 in
theorem v144_8 (n d : Nat) (L : List (Option mL)) (S : List mV) (M : Mm) (Q : mQ) : vc (n + 1) d 144 8 L S M Q = (pI S fun x S => sL L 1 (some (.inl x)) fun L => vc n d 144 9 L S M Q) := nr rfl
set_option maxRecDepth 100000 in
theorem v144_9 (n d : Nat) (L : List (Option mL)) (S : List mV) (M : Mm) (Q : mQ) : vc (n + 1) d 144 9 L S M Q = (gR L 0 fun x => vc n d 144 10 L (.inr (.inr x) :: S) M Q) := nr rfl
set_option maxRecDepth 100000 in
theorem v144_10 (n d : Nat) (L : List (Option mL)) (S : List mV) (M : Mm) (Q : mQ) : vc (n + 1) d 144 10 L S M Q = (pAs 0 S fun as S => pA S fun a S => shO M a 10 (stk S ≤ 8 ∧ XC d 125 (.inr (some a) :: as) M (fun r M => ∃ x : Int32, r = some (.inl x) ∧ X d 144 13 L (.inl x :: S) M Q))) := nr rfl
set_option maxRecDepth 100000 in
theorem v144_13 (n d : Nat) (L : List (Option mL)) (S : List mV) (M : Mm) (Q : mQ) : vc (n + 1) d 144 13 L S M Q = (pI S fun x S => sL L 2 (some (.inl x)) fun L => vc n d 144 14 L S M Q) := nr rfl
set_option maxRecDepth 100000 in
theorem v144_14 (n d : Nat) (L : List (Option mL)) (S : List mV) (M : Mm) (Q : mQ) : vc (n + 1) d 144 14 L S M Q = (gR L 0 fun x => vc n d 144 15 L (.inr (.inr x) :: S) M Q) := nr rfl
set_option maxRecDepth 100000 in
theorem v144_15 (n d : Nat) (L : List (Option mL)) (S : List mV) (M : Mm) (Q : mQ) : vc (n + 1) d 144 15 L S M Q = (pC S fun v S => vc n d 144 16 L (v :: v :: S) M Q) := nr rfl
set_option maxRecDepth 100000 in
theorem v144_16 (n d : Nat) (L : List (Option mL)) (S : List mV) (M : Mm) (Q : mQ) : vc (n + 1) d 144 16 L S M Q = (pA S fun a S => shO M a 10 (vc n d 144 19 L (.inl (M.it a 10) :: S) M Q)) := nr rfl
set_option maxRecDepth 100000 in
theorem v144_19 (n d : Nat) (L : List (Option mL)) (S : List mV) (M : Mm) (Q : mQ) : vc (n + 1) d 144 19 L S M Q = (vc n d 144 20 L (.inl 1 :: S) M Q) := nr rfl
set_option maxRecDepth 100000 in
theorem v144_20 (n d : Nat) (L : List (Option mL)) (S : List mV) (M : Mm) (Q : mQ) : vc (n + 1) d 144 20 L S M Q = (pI S fun y S => pI S fun x S => vc n d 144 21 L (.inl (x + y) :: S) M Q) := nr rfl
set_option maxRecDepth 100000 in
theorem v144_21 (n d : Nat) (L : List (Option mL)) (S : List mV) (M : Mm) (Q : mQ) : vc (n + 1) d 144 21 L S M Q = (pI S fun x S => pA S fun a S => shO M a 10 (vc n d 144 24 L S (M.si a 10 x) Q)) := nr rfl
set_option maxRecDepth 100000 in
theorem v144_24 (n d : Nat) (L : List (Option mL)) (S : List mV) (M : Mm) (Q : mQ) : vc (n + 1) d 144 24 L S M Q = (gR L 0 fun x => vc n d 144 25 L (.inr (.inr x) :: S) M Q) := nr rfl
set_option maxRecDepth 100000 in
theorem v144_25 (n d : Nat) (L : List (Option mL)) (S : List mV) (M : Mm) (Q : mQ) : vc (n + 1) d 144 25 L S M Q = (pA S fun a S => shO M a 10 (rrf M a 20 fun r => vc n d 144 28 L (.inr (.inr r) :: S) M Q)) := nr rfl
set_option maxRecDepth 100000 in
theorem v144_28 (n d : Nat) (L : List (Option mL)) (S : List mV) (M : Mm) (Q : mQ) : vc (n + 1) d 144 28 L S M Q = (gI L 2 fun x => vc n d 144 29 L (.inl x :: S) M Q) := nr rfl
set_option maxRecDepth 100000 in
theorem v144_29 (n d : Nat) (L : List (Option mL)) (S : List mV) (M : Mm) (Q : mQ) : vc (n + 1) d 144 29 L S M Q = (vc n d 144 32 L (.inl 128 :: S) M Q) := nr rfl
set_option maxRecDepth 100000 in
theorem v144_32 (n d : Nat) (L : List (Option mL)) (S : List mV) (M : Mm) (Q : mQ) : vc (n + 1) d 144 32 L S M Q = (gR L 0 fun x => vc n d 144 33 L (.inr (.inr x) :: S) M Q) := nr rfl
set_option maxRecDepth 100000 in
theorem v144_33 (n d : Nat) (L : List (Option mL)) (S : List mV) (M : Mm) (Q : mQ) : vc (n + 1) d 144 33 L S M Q = (pA S fun a S => shO M a 10 (vc n d 144 36 L (.inl (M.it a 10) :: S) M Q)) := nr rfl
set_option maxRecDepth 100000 in
theorem v144_36 (n d : Nat) (L : List (Option mL)) (S : List mV) (M : Mm) (Q : mQ) : vc (n + 1) d 144 36 L S M Q = (vc n d 144 37 L (.inl 2 :: S) M Q) := nr rfl
set_option maxRecDepth 100000 in
theorem v144_37 (n d : Nat) (L : List (Option mL)) (S : List mV) (M : Mm) (Q : mQ) : vc (n + 1) d 144 37 L S M Q = (pI S fun y S => pI S fun x S => ¬ y = 0 ∧ vc n d 144 38 L (.inl (x - x / y * y) :: S) M Q) := nr rfl
set_option maxRecDepth 100000 in
theorem v144_38 (n d : Nat) (L : List (Option mL)) (S : List mV) (M : Mm) (Q : mQ) : vc (n + 1) d 144 38 L S M Q = (pI S fun y S => pI S fun x S => vc n d 144 39 L (.inl (x + y) :: S) M Q) := nr rfl
set_option maxRecDepth 100000 in
theorem v144_39 (n d : Nat) (L : List (Option mL)) (S : List mV) (M : Mm) (Q : mQ) : vc (n + 1) d 144 39 L S M Q = (pI S fun x S => pI S fun i S => pA S fun a S => shA M a fun t k => t = 41 ∧ inB i k ∧ vc n d 144 40 L S (M.si a i.toNatClampNeg x) Q) := nr rfl
set_option maxRecDepth 100000 in
theorem v144_40 (n d : Nat) (L : List (Option mL)) (S : List mV) (M : Mm) (Q : mQ) : vc (n + 1) d 144 40 L S M Q = (vc n d 144 42 L (.inl 18 :: S) M Q) := nr rfl
set_option maxRecDepth 100000 in
theorem v144_42 (n d : Nat) (L : List (Option mL)) (S : List mV) (M : Mm) (Q : mQ) : vc (n + 1) d 144 42 L S M Q = (gI L 2 fun x => vc n d 144 43 L (.inl x :: S) M Q) := nr rfl
set_option maxRecDepth 100000 in
theorem v144_43 (n d : Nat) (L : List (Option mL)) (S : List mV) (M : Mm) (Q : mQ) : vc (n + 1) d 144 43 L S M Q = (pI S fun y S => pI S fun x S => vc n d 144 44 L (.inl (x * y) :: S) M Q) := nr rfl
set_option maxRecDepth 100000 in
theorem v144_44 (n d : Nat) (L : List (Option mL)) (S : List mV) (M : Mm) (Q : mQ) : vc (n + 1) d 144 44 L S M Q = (pI S fun x S => sL L 3 (some (.inl x)) fun L => vc n d 144 45 L S M Q) := nr rfl
set_option maxRecDepth 100000 in
theorem v144_45 (n d : Nat) (L : List (Option mL)) (S : List mV) (M : Mm) (Q : mQ) : vc (n + 1) d 144 45 L S M Q = (gR L 0 fun x => vc n d 144 46 L (.inr (.inr x) :: S) M Q) := nr rfl
set_option maxRecDepth 100000 in
theorem v144_46 (n d : Nat) (L : List (Option mL)) (S : List mV) (M : Mm) (Q : mQ) : vc (n + 1) d 144 46 L S M Q = (pA S fun a S => shO M a 10 (rrf M a 24 fun r => vc n d 144 49 L (.inr (.inr r) :: S) M Q)) := nr rfl
set_option maxRecDepth 100000 in
theorem v144_49 (n d : Nat) (L : List (Option mL)) (S : List mV) (M : Mm) (Q : mQ) : vc (n + 1) d 144 49 L S M Q = (gI L 3 fun x => vc n d 144 50 L (.inl x :: S) M Q) := nr rfl
set_option maxRecDepth 100000 in
theorem v144_50 (n d : Nat) (L : List (Option mL)) (S : List mV) (M : Mm) (Q : mQ) : vc (n + 1) d 144 50 L S M Q = (gR L 0 fun x => vc n d 144 51 L (.inr (.inr x) :: S) M Q) := nr rfl
set_option maxRecDepth 100000 in
theorem v144_51 (n d : Nat) (L : List (Option mL)) (S : List mV) (M : Mm) (Q : mQ) : vc (n + 1) d 144 51 L S M Q = (pA S fun a S => shO M a 10 (vc n d 144 54 L (.inl (M.it a 10) :: S) M Q)) := nr rfl
set_option maxRecDepth 100000 in
theorem v144_54 (n d : Nat) (L : List (Option mL)) (S : List mV) (M : Mm) (Q : mQ) : vc (n + 1) d 144 54 L S M Q = (pI S fun x S => pI S fun i S => pA S fun a S => shA M a fun t k => t = 41 ∧ inB i k ∧ vc n d 144 55 L S (M.si a i.toNatClampNeg x) Q) := nr rfl
set_option maxRecDepth 100000 in
theorem v144_55 (n d : Nat) (L : List (Option mL)) (S : List mV) (M : Mm) (Q : mQ) : vc (n + 1) d 144 55 L S M Q = (gR L 0 fun x => vc n d 144 56 L (.inr (.inr x) :: S) M Q) := nr rfl
set_option maxRecDepth 100000 in
theorem v144_56 (n d : Nat) (L : List (Option mL)) (S : List mV) (M : Mm) (Q : mQ) : vc (n + 1) d 144 56 L S M Q = (pA S fun a S => shO M a 10 (rrf M a 24 fun r => vc n d 144 59 L (.inr (.inr r) :: S) M Q)) := nr rfl
set_option maxRecDepth 100000 in
theorem v144_59 (n d : Nat) (L : List (Option mL)) (S : List mV) (M : Mm) (Q : mQ) : vc (n + 1) d 144 59 L S M Q = (gI L 3 fun x => vc n d 144 60 L (.inl x :: S) M Q) := nr rfl
set_option maxRecDepth 100000 in
theorem v144_60 (n d : Nat) (L : List (Option mL)) (S : List mV) (M : Mm) (Q : mQ) : vc (n + 1) d 144 60 L S M Q = (vc n d 144 61 L (.inl 1 :: S) M Q) := nr rfl
set_option maxRecDepth 100000 in
theorem v144_61 (n d : Nat) (L : List (Option mL)) (S : List mV) (M : Mm) (Q : mQ) : vc (n + 1) d 144 61 L S M Q = (pI S fun y S => pI S fun x S => vc n d 144 62 L (.inl (x + y) :: S) M Q) := nr rfl
set_option maxRecDepth 100000 in
theorem v144_62 (n d : Nat) (L : List (Option mL)) (S : List mV) (M : Mm) (Q : mQ) : vc (n + 1) d 144 62 L S M Q = (gR L 0 fun x => vc n d 144 63 L (.inr (.inr x) :: S) M Q) := nr rfl
set_option maxRecDepth 100000 in
theorem v144_63 (n d : Nat) (L : List (Option mL)) (S : List mV) (M : Mm) (Q : mQ) : vc (n + 1) d 144 63 L S M Q = (pA S fun a S => shO M a 10 (vc n d 144 66 L (.inl (M.it a 13) :: S) M Q)) := nr rfl
set_option maxRecDepth 100000 in
theorem v144_66 (n d : Nat) (L : List (Option mL)) (S : List mV) (M : Mm) (Q : mQ) : vc (n + 1) d 144 66 L S M Q = (pI S fun x S => pI S fun i S => pA S fun a S => shA M a fun t k => t = 41 ∧ inB i k ∧ vc n d 144 67 L S (M.si a i.toNatClampNeg x) Q) := nr rfl
set_option maxRecDepth 100000 in
theorem v144_67 (n d : Nat) (L : List (Option mL)) (S : List mV) (M : Mm) (Q : mQ) : vc (n + 1) d 144 67 L S M Q = (gR L 0 fun x => vc n d 144 68 L (.inr (.inr x) :: S) M Q) := nr rfl
set_option maxRecDepth 100000 in
theorem v144_68 (n d : Nat) (L : List (Option mL)) (S : List mV) (M : Mm) (Q : mQ) : vc (n + 1) d 144 68 L S M Q = (pA S fun a S => shO M a 10 (rrf M a 24 fun r => vc n d 144 71 L (.inr (.inr r) :: S) M Q)) := nr rfl
set_option maxRecDepth 100000 in
theorem v144_71 (n d : Nat) (L : List (Option mL)) (S : List mV) (M : Mm) (Q : mQ) : vc (n + 1) d 144 71 L S M Q = (gI L 3 fun x => vc n d 144 72 L (.inl x :: S) M Q) := nr rfl
set_option maxRecDepth 100000 in
theorem v144_72 (n d : Nat) (L : List (Option mL)) (S : List mV) (M : Mm) (Q : mQ) : vc (n + 1) d 144 72 L S M Q = (vc n d 144 73 L (.inl 2 :: S) M Q) := nr rfl
set_option maxRecDepth 100000 in
theorem v144_73 (n d : Nat) (L : List (Option mL)) (S : List mV) (M : Mm) (Q : mQ) : vc (n + 1) d 144 73 L S M Q = (pI S fun y S => pI S fun x S => vc n d 144 74 L (.inl (x + y) :: S) M Q) := nr rfl
set_option maxRecDepth 100000 in
theorem v144_74 (n d : Nat) (L : List (Option mL)) (S : List mV) (M : Mm) (Q : mQ) : vc (n + 1) d 144 74 L S M Q = (gR L 0 fun x => vc n d 144 75 L (.inr (.inr x) :: S) M Q) := nr rfl
set_option maxRecDepth 100000 in
theorem v144_75 (n d : Nat) (L : List (Option mL)) (S : List mV) (M : Mm) (Q : mQ) : vc (n + 1) d 144 75 L S M Q = (pA S fun a S => shO M a 10 (vc n d 144 78 L (.inl (M.it a 12) :: S) M Q)) := nr rfl
set_option maxRecDepth 100000 in
theorem v144_78 (n d : Nat) (L : List (Option mL)) (S : List mV) (M : Mm) (Q : mQ) : vc (n + 1) d 144 78 L S M Q = (pI S fun x S => pI S fun i S => pA S fun a S => shA M a fun t k => t = 41 ∧ inB i k ∧ vc n d 144 79 L S (M.si a i.toNatClampNeg x) Q) := nr rfl
set_option maxRecDepth 100000 in
theorem v144_79 (n d : Nat) (L : List (Option mL)) (S : List mV) (M : Mm) (Q : mQ) : vc (n + 1) d 144 79 L S M Q = (gR L 0 fun x => vc n d 144 80 L (.inr (.inr x) :: S) M Q) := nr rfl
set_option maxRecDepth 100000 in
theorem v144_80 (n d : Nat) (L : List (Option mL)) (S : List mV) (M : Mm) (Q : mQ) : vc (n + 1) d 144 80 L S M Q = (pA S fun a S => shO M a 10 (rrf M a 24 fun r => vc n d 144 83 L (.inr (.inr r) :: S) M Q)) := nr rfl
set_option maxRecDepth 100000 in
theorem v144_83 (n d : Nat) (L : List (Option mL)) (S : List mV) (M : Mm) (Q : mQ) : vc (n + 1) d 144 83 L S M Q = (gI L 3 fun x => vc n d 144 84 L (.inl x :: S) M Q) := nr rfl
set_option maxRecDepth 100000 in
theorem v144_84 (n d : Nat) (L : List (Option mL)) (S : List mV) (M : Mm) (Q : mQ) : vc (n + 1) d 144 84 L S M Q = (vc n d 144 85 L (.inl 3 :: S) M Q) := nr rfl
set_option maxRecDepth 100000 in
theorem v144_85 (n d : Nat) (L : List (Option mL)) (S : List mV) (M : Mm) (Q : mQ) : vc (n + 1) d 144 85 L S M Q = (pI S fun y S => pI S fun x S => vc n d 144 86 L (.inl (x + y) :: S) M Q) := nr rfl
set_option maxRecDepth 100000 in
theorem v144_86 (n d : Nat) (L : List (Option mL)) (S : List mV) (M : Mm) (Q : mQ) : vc (n + 1) d 144 86 L S M Q = (gR L 0 fun x => vc n d 144 87 L (.inr (.inr x) :: S) M Q) := nr rfl
set_option maxRecDepth 100000 in
theorem v144_87 (n d : Nat) (L : List (Option mL)) (S : List mV) (M : Mm) (Q : mQ) : vc (n + 1) d 144 87 L S M Q = (pA S fun a S => shO M a 10 (vc n d 144 90 L (.inl (M.it a 11) :: S) M Q)) := nr rfl
set_option maxRecDepth 100000 in
theorem v144_90 (n d : Nat) (L : List (Option mL)) (S : List mV) (M : Mm) (Q : mQ) : vc (n + 1) d 144 90 L S M Q = (pI S fun x S => pI S fun i S => pA S fun a S => shA M a fun t k => t = 41 ∧ inB i k ∧ vc n d 144 91 L S (M.si a i.toNatClampNeg x) Q) := nr rfl
set_option maxRecDepth 100000 in
theorem v144_91 (n d : Nat) (L : List (Option mL)) (S : List mV) (M : Mm) (Q : mQ) : vc (n + 1) d 144 91 L S M Q = (vc n d 144 92 L (.inl 0 :: S) M Q) := nr rfl
set_option maxRecDepth 100000 in
theorem v144_92 (n d : Nat) (L : List (Option mL)) (S : List mV) (M : Mm) (Q : mQ) : vc (n + 1) d 144 92 L S M Q = (pI S fun x S => sL L 4 (some (.inl x)) fun L => X d 144 94 L S M Q) := nr rfl
set_option maxRecDepth 100000 in
theorem v144_94 (n d : Nat) (L : List (Option mL)) (S : List mV) (M : Mm) (Q : mQ) : vc (n + 1) d 144 94 L S M Q = (gI L 4 fun x => vc n d 144 96 L (.inl x :: S) M Q) := nr rfl
set_option maxRecDepth 100000 in
theorem v144_96 (n d : Nat) (L : List (Option mL)) (S : List mV) (M : Mm) (Q : mQ) : vc (n + 1) d 144 96 L S M Q = (vc n d 144 98 L (.inl 8 :: S) M Q) := nr rfl
set_option maxRecDepth 100000 in
theorem v144_98 (n d : Nat) (L : List (Option mL)) (S : List mV) (M : Mm) (Q : mQ) : vc (n + 1) d 144 98 L S M Q = (pI S fun y S => pI S fun x S => (y ≤ x → vc n d 144 125 L S M Q) ∧ (¬ (y ≤ x) → vc n d 144 101 L S M Q)) := nr rfl
set_option maxRecDepth 100000 in
theorem v144_101 (n d : Nat) (L : List (Option mL)) (S : List mV) (M : Mm) (Q : mQ) : vc (n + 1) d 144 101 L S M Q = (gR L 0 fun x => vc n d 144 102 L (.inr (.inr x) :: S) M Q) := nr rfl
set_option maxRecDepth 100000 in
theorem v144_102 (n d : Nat) (L : List (Option mL)) (S : List mV) (M : Mm) (Q : mQ) : vc (n + 1) d 144 102 L S M Q = (pA S fun a S => shO M a 10 (rrf M a 24 fun r => vc n d 144 105 L (.inr (.inr r) :: S) M Q)) := nr rfl
set_option maxRecDepth 100000 in
theorem v144_105 (n d : Nat) (L : List (Option mL)) (S : List mV) (M : Mm) (Q : mQ) : vc (n + 1) d 144 105 L S M Q = (gI L 3 fun x => vc n d 144 106 L (.inl x :: S) M Q) := nr rfl
set_option maxRecDepth 100000 in
theorem v144_106 (n d : Nat) (L : List (Option mL)) (S : List mV) (M : Mm) (Q : mQ) : vc (n + 1) d 144 106 L S M Q = (vc n d 144 107 L (.inl 4 :: S) M Q) := nr rfl
set_option maxRecDepth 100000 in
theorem v144_107 (n d : Nat) (L : List (Option mL)) (S : List mV) (M : Mm) (Q : mQ) : vc (n + 1) d 144 107 L S M Q = (pI S fun y S => pI S fun x S => vc n d 144 108 L (.inl (x + y) :: S) M Q) := nr rfl
set_option maxRecDepth 100000 in
theorem v144_108 (n d : Nat) (L : List (Option mL)) (S : List mV) (M : Mm) (Q : mQ) : vc (n + 1) d 144 108 L S M Q = (gI L 4 fun x => vc n d 144 110 L (.inl x :: S) M Q) := nr rfl
set_option maxRecDepth 100000 in
theorem v144_110 (n d : Nat) (L : List (Option mL)) (S : List mV) (M : Mm) (Q : mQ) : vc (n + 1) d 144 110 L S M Q = (pI S fun y S => pI S fun x S => vc n d 144 111 L (.inl (x + y) :: S) M Q) := nr rfl
set_option maxRecDepth 100000 in
theorem v144_111 (n d : Nat) (L : List (Option mL)) (S : List mV) (M : Mm) (Q : mQ) : vc (n + 1) d 144 111 L S M Q = (gR L 0 fun x => vc n d 144 112 L (.inr (.inr x) :: S) M Q) := nr rfl
set_option maxRecDepth 100000 in
theorem v144_112 (n d : Nat) (L : List (Option mL)) (S : List mV) (M : Mm) (Q : mQ) : vc (n + 1) d 144 112 L S M Q = (pA S fun a S => shO M a 10 (rrf M a 6 fun r => vc n d 144 115 L (.inr (.inr r) :: S) M Q)) := nr rfl
set_option maxRecDepth 100000 in
theorem v144_115 (n d : Nat) (L : List (Option mL)) (S : List mV) (M : Mm) (Q : mQ) : vc (n + 1) d 144 115 L S M Q = (gI L 4 fun x => vc n d 144 117 L (.inl x :: S) M Q) := nr rfl
set_option maxRecDepth 100000 in
theorem v144_117 (n d : Nat) (L : List (Option mL)) (S : List mV) (M : Mm) (Q : mQ) : vc (n + 1) d 144 117 L S M Q = (pI S fun i S => pA S fun a S => shA M a fun t k => (t = 40 ∨ t = 41) ∧ inB i k ∧ vc n d 144 118 L (.inl (M.it a i.toNatClampNeg) :: S) M Q) := nr rfl
set_option maxRecDepth 100000 in
theorem v144_118 (n d : Nat) (L : List (Option mL)) (S : List mV) (M : Mm) (Q : mQ) : vc (n + 1) d 144 118 L S M Q = (pI S fun x S => pI S fun i S => pA S fun a S => shA M a fun t k => t = 41 ∧ inB i k ∧ vc n d 144 119 L S (M.si a i.toNatClampNeg x) Q) := nr rfl
set_option maxRecDepth 100000 in
theorem v144_119 (n d : Nat) (L : List (Option mL)) (S : List mV) (M : Mm) (Q : mQ) : vc (n + 1) d 144 119 L S M Q = (gI L 4 fun x => sL L 4 (some (.inl (x + 1))) fun L => vc n d 144 122 L S M Q) := nr rfl
set_option maxRecDepth 100000 in
theorem v144_122 (n d : Nat) (L : List (Option mL)) (S : List mV) (M : Mm) (Q : mQ) : vc (n + 1) d 144 122 L S M Q = (X d 144 94 L S M Q) := nr rfl
set_option maxRecDepth 100000 in
theorem v144_125 (n d : Nat) (L : List (Option mL)) (S : List mV) (M : Mm) (Q : mQ) : vc (n + 1) d 144 125 L S M Q = (vc n d 144 126 L (.inl 0 :: S) M Q) := nr rfl
set_option maxRecDepth 100000 in
theorem v144_126 (n d : Nat) (L : List (Option mL)) (S : List mV) (M : Mm) (Q : mQ) : vc (n + 1) d 144 126 L S M Q = (pI S fun x S => sL L 4 (some (.inl x)) fun L => X d 144 128 L S M Q) := nr rfl
set_option maxRecDepth 100000 in
theorem v144_128 (n d : Nat) (L : List (Option mL)) (S : List mV) (M : Mm) (Q : mQ) : vc (n + 1) d 144 128 L S M Q = (gI L 4 fun x => vc n d 144 130 L (.inl x :: S) M Q) := nr rfl
set_option maxRecDepth 100000 in
theorem v144_130 (n d : Nat) (L : List (Option mL)) (S : List mV) (M : Mm) (Q : mQ) : vc (n + 1) d 144 130 L S M Q = (vc n d 144 131 L (.inl 3 :: S) M Q) := nr rfl
set_option maxRecDepth 100000 in
theorem v144_131 (n d : Nat) (L : List (Option mL)) (S : List mV) (M : Mm) (Q : mQ) : vc (n + 1) d 144 131 L S M Q = (pI S fun y S => pI S fun x S => (y ≤ x → vc n d 144 214 L S M Q) ∧ (¬ (y ≤ x) → vc n d 144 134 L S M Q)) := nr rfl
set_option maxRecDepth 100000 in
theorem v144_134 (n d : Nat) (L : List (Option mL)) (S : List mV) (M : Mm) (Q : mQ) : vc (n + 1) d 144 134 L S M Q = (gR L 0 fun x => vc n d 144 135 L (.inr (.inr x) :: S) M Q) := nr rfl
set_option maxRecDepth 100000 in
theorem v144_135 (n d : Nat) (L : List (Option mL)) (S : List mV) (M : Mm) (Q : mQ) : vc (n + 1) d 144 135 L S M Q = (pA S fun a S => shO M a 10 (rrf M a 24 fun r => vc n d 144 138 L (.inr (.inr r) :: S) M Q)) := nr rfl
set_option maxRecDepth 100000 in
theorem v144_138 (n d : Nat) (L : List (Option mL)) (S : List mV) (M : Mm) (Q : mQ) : vc (n + 1) d 144 138 L S M Q = (gI L 3 fun x => vc n d 144 139 L (.inl x :: S) M Q) := nr rfl
set_option maxRecDepth 100000 in
theorem v144_139 (n d : Nat) (L : List (Option mL)) (S : List mV) (M : Mm) (Q : mQ) : vc (n + 1) d 144 139 L S M Q = (vc n d 144 141 L (.inl 12 :: S) M Q) := nr rfl
set_option maxRecDepth 100000 in
theorem v144_141 (n d : Nat) (L : List (Option mL)) (S : List mV) (M : Mm) (Q : mQ) : vc (n + 1) d 144 141 L S M Q = (pI S fun y S => pI S fun x S => vc n d 144 142 L (.inl (x + y) :: S) M Q) := nr rfl
set_option maxRecDepth 100000 in
theorem v144_142 (n d : Nat) (L : List (Option mL)) (S : List mV) (M : Mm) (Q : mQ) : vc (n + 1) d 144 142 L S M Q = (vc n d 144 143 L (.inl 2 :: S) M Q) := nr rfl
set_option maxRecDepth 100000 in
theorem v144_143 (n d : Nat) (L : List (Option mL)) (S : List mV) (M : Mm) (Q : mQ) : vc (n + 1) d 144 143 L S M Q = (gI L 4 fun x => vc n d 144 145 L (.inl x :: S) M Q) := nr rfl
set_option maxRecDepth 100000 in
theorem v144_145 (n d : Nat) (L : List (Option mL)) (S : List mV) (M : Mm) (Q : mQ) : vc (n + 1) d 144 145 L S M Q = (pI S fun y S => pI S fun x S => vc n d 144 146 L (.inl (x * y) :: S) M Q) := nr rfl
set_option maxRecDepth 100000 in
theorem v144_146 (n d : Nat) (L : List (Option mL)) (S : List mV) (M : Mm) (Q : mQ) : vc (n + 1) d 144 146 L S M Q = (pI S fun y S => pI S fun x S => vc n d 144 147 L (.inl (x + y) :: S) M Q) := nr rfl
set_option maxRecDepth 100000 in
theorem v144_147 (n d : Nat) (L : List (Option mL)) (S : List mV) (M : Mm) (Q : mQ) : vc (n + 1) d 144 147 L S M Q = (gI L 4 fun x => vc n d 144 149 L (.inl x :: S) M Q) := nr rfl
set_option maxRecDepth 100000 in
theorem v144_149 (n d : Nat) (L : List (Option mL)) (S : List mV) (M : Mm) (Q : mQ) : vc (n + 1) d 144 149 L S M Q = (gR L 0 fun x => vc n d 144 150 L (.inr (.inr x) :: S) M Q) := nr rfl
set_option maxRecDepth 100000 in
theorem v144_150 (n d : Nat) (L : List (Option mL)) (S : List mV) (M : Mm) (Q : mQ) : vc (n + 1) d 144 150 L S M Q = (pA S fun a S => shO M a 10 (vc n d 144 153 L (.inl (M.it a 11) :: S) M Q)) := nr rfl
set_option maxRecDepth 100000 in
theorem v144_153 (n d : Nat) (L : List (Option mL)) (S : List mV) (M : Mm) (Q : mQ) : vc (n + 1) d 144 153 L S M Q = (pI S fun y S => pI S fun x S => (y ≤ x → vc n d 144 169 L S M Q) ∧ (¬ (y ≤ x) → vc n d 144 156 L S M Q)) := nr rfl
set_option maxRecDepth 100000 in
theorem v144_156 (n d : Nat) (L : List (Option mL)) (S : List mV) (M : Mm) (Q : mQ) : vc (n + 1) d 144 156 L S M Q = (gR L 0 fun x => vc n d 144 157 L (.inr (.inr x) :: S) M Q) := nr rfl
set_option maxRecDepth 100000 in
theorem v144_157 (n d : Nat) (L : List (Option mL)) (S : List mV) (M : Mm) (Q : mQ) : vc (n + 1) d 144 157 L S M Q = (pA S fun a S => shO M a 10 (rrf M a 16 fun r => vc n d 144 160 L (.inr (.inr r) :: S) M Q)) := nr rfl
set_option maxRecDepth 100000 in
theorem v144_160 (n d : Nat) (L : List (Option mL)) (S : List mV) (M : Mm) (Q : mQ) : vc (n + 1) d 144 160 L S M Q = (gI L 4 fun x => vc n d 144 162 L (.inl x :: S) M Q) := nr rfl
set_option maxRecDepth 100000 in
theorem v144_162 (n d : Nat) (L : List (Option mL)) (S : List mV) (M : Mm) (Q : mQ) : vc (n + 1) d 144 162 L S M Q = (pI S fun i S => pA S fun a S => shA M a fun t k => (t = 40 ∨ t = 41) ∧ inB i k ∧ vc n d 144 163 L (.inl (M.it a i.toNatClampNeg) :: S) M Q) := nr rfl
set_option maxRecDepth 100000 in
theorem v144_163 (n d : Nat) (L : List (Option mL)) (S : List mV) (M : Mm) (Q : mQ) : vc (n + 1) d 144 163 L S M Q = (vc n d 144 165 L (.inl 16 :: S) M Q) := nr rfl
set_option maxRecDepth 100000 in
theorem v144_165 (n d : Nat) (L : List (Option mL)) (S : List mV) (M : Mm) (Q : mQ) : vc (n + 1) d 144 165 L S M Q = (pI S fun y S => pI S fun x S => ¬ y = 0 ∧ vc n d 144 166 L (.inl (x / y) :: S) M Q) := nr rfl
set_option maxRecDepth 100000 in
theorem v144_166 (n d : Nat) (L : List (Option mL)) (S : List mV) (M : Mm) (Q : mQ) : vc (n + 1) d 144 166 L S M Q = (X d 144 170 L S M Q) := nr rfl
set_option maxRecDepth 100000 in
theorem v144_169 (n d : Nat) (L : List (Option mL)) (S : List mV) (M : Mm) (Q : mQ) : vc (n + 1) d 144 169 L S M Q = (X d 144 170 L (.inl 0 :: S) M Q) := nr rfl
set_option maxRecDepth 100000 in
theorem v144_170 (n d : Nat) (L : List (Option mL)) (S : List mV) (M : Mm) (Q : mQ) : vc (n + 1) d 144 170 L S M Q = (pI S fun x S => pI S fun i S => pA S fun a S => shA M a fun t k => t = 41 ∧ inB i k ∧ vc n d 144 171 L S (M.si a i.toNatClampNeg x) Q) := nr rfl
set_option maxRecDepth 100000 in
theorem v144_171 (n d : Nat) (L : List (Option mL)) (S : List mV) (M : Mm) (Q : mQ) : vc (n + 1) d 144 171 L S M Q = (gR L 0 fun x => vc n d 144 172 L (.inr (.inr x) :: S) M Q) := nr rfl
set_option maxRecDepth 100000 in
theorem v144_172 (n d : Nat) (L : List (Option mL)) (S : List mV) (M : Mm) (Q : mQ) : vc (n + 1) d 144 172 L S M Q = (pA S fun a S => shO M a 10 (rrf M a 24 fun r => vc n d 144 175 L (.inr (.inr r) :: S) M Q)) := nr rfl
set_option maxRecDepth 100000 in
theorem v144_175 (n d : Nat) (L : List (Option mL)) (S : List mV) (M : Mm) (Q : mQ) : vc (n + 1) d 144 175 L S M Q = (gI L 3 fun x => vc n d 144 176 L (.inl x :: S) M Q) := nr rfl
set_option maxRecDepth 100000 in
theorem v144_176 (n d : Nat) (L : List (Option mL)) (S : List mV) (M : Mm) (Q : mQ) : vc (n + 1) d 144 176 L S M Q = (vc n d 144 178 L (.inl 13 :: S) M Q) := nr rfl
set_option maxRecDepth 100000 in
theorem v144_178 (n d : Nat) (L : List (Option mL)) (S : List mV) (M : Mm) (Q : mQ) : vc (n + 1) d 144 178 L S M Q = (pI S fun y S => pI S fun x S => vc n d 144 179 L (.inl (x + y) :: S) M Q) := nr rfl
set_option maxRecDepth 100000 in
theorem v144_179 (n d : Nat) (L : List (Option mL)) (S : List mV) (M : Mm) (Q : mQ) : vc (n + 1) d 144 179 L S M Q = (vc n d 144 180 L (.inl 2 :: S) M Q) := nr rfl
set_option maxRecDepth 100000 in
theorem v144_180 (n d : Nat) (L : List (Option mL)) (S : List mV) (M : Mm) (Q : mQ) : vc (n + 1) d 144 180 L S M Q = (gI L 4 fun x => vc n d 144 182 L (.inl x :: S) M Q) := nr rfl
set_option maxRecDepth 100000 in
theorem v144_182 (n d : Nat) (L : List (Option mL)) (S : List mV) (M : Mm) (Q : mQ) : vc (n + 1) d 144 182 L S M Q = (pI S fun y S => pI S fun x S => vc n d 144 183 L (.inl (x * y) :: S) M Q) := nr rfl
set_option maxRecDepth 100000 in
theorem v144_183 (n d : Nat) (L : List (Option mL)) (S : List mV) (M : Mm) (Q : mQ) : vc (n + 1) d 144 183 L S M Q = (pI S fun y S => pI S fun x S => vc n d 144 184 L (.inl (x + y) :: S) M Q) := nr rfl
set_option maxRecDepth 100000 in
theorem v144_184 (n d : Nat) (L : List (Option mL)) (S : List mV) (M : Mm) (Q : mQ) : vc (n + 1) d 144 184 L S M Q = (gI L 4 fun x => vc n d 144 186 L (.inl x :: S) M Q) := nr rfl
set_option maxRecDepth 100000 in
theorem v144_186 (n d : Nat) (L : List (Option mL)) (S : List mV) (M : Mm) (Q : mQ) : vc (n + 1) d 144 186 L S M Q = (gR L 0 fun x => vc n d 144 187 L (.inr (.inr x) :: S) M Q) := nr rfl
set_option maxRecDepth 100000 in
theorem v144_187 (n d : Nat) (L : List (Option mL)) (S : List mV) (M : Mm) (Q : mQ) : vc (n + 1) d 144 187 L S M Q = (pA S fun a S => shO M a 10 (vc n d 144 190 L (.inl (M.it a 11) :: S) M Q)) := nr rfl
set_option maxRecDepth 100000 in
theorem v144_190 (n d : Nat) (L : List (Option mL)) (S : List mV) (M : Mm) (Q : mQ) : vc (n + 1) d 144 190 L S M Q = (pI S fun y S => pI S fun x S => (y ≤ x → vc n d 144 206 L S M Q) ∧ (¬ (y ≤ x) → vc n d 144 193 L S M Q)) := nr rfl
set_option maxRecDepth 100000 in
theorem v144_193 (n d : Nat) (L : List (Option mL)) (S : List mV) (M : Mm) (Q : mQ) : vc (n + 1) d 144 193 L S M Q = (gR L 0 fun x => vc n d 144 194 L (.inr (.inr x) :: S) M Q) := nr rfl
set_option maxRecDepth 100000 in
theorem v144_194 (n d : Nat) (L : List (Option mL)) (S : List mV) (M : Mm) (Q : mQ) : vc (n + 1) d 144 194 L S M Q = (pA S fun a S => shO M a 10 (rrf M a 16 fun r => vc n d 144 197 L (.inr (.inr r) :: S) M Q)) := nr rfl
set_option maxRecDepth 100000 in
theorem v144_197 (n d : Nat) (L : List (Option mL)) (S : List mV) (M : Mm) (Q : mQ) : vc (n + 1) d 144 197 L S M Q = (gI L 4 fun x => vc n d 144 199 L (.inl x :: S) M Q) := nr rfl
set_option maxRecDepth 100000 in
theorem v144_199 (n d : Nat) (L : List (Option mL)) (S : List mV) (M : Mm) (Q : mQ) : vc (n + 1) d 144 199 L S M Q = (pI S fun i S => pA S fun a S => shA M a fun t k => (t = 40 ∨ t = 41) ∧ inB i k ∧ vc n d 144 200 L (.inl (M.it a i.toNatClampNeg) :: S) M Q) := nr rfl
set_option maxRecDepth 100000 in
theorem v144_200 (n d : Nat) (L : List (Option mL)) (S : List mV) (M : Mm) (Q : mQ) : vc (n + 1) d 144 200 L S M Q = (vc n d 144 202 L (.inl 16 :: S) M Q) := nr rfl
set_option maxRecDepth 100000 in
theorem v144_202 (n d : Nat) (L : List (Option mL)) (S : List mV) (M : Mm) (Q : mQ) : vc (n + 1) d 144 202 L S M Q = (pI S fun y S => pI S fun x S => ¬ y = 0 ∧ vc n d 144 203 L (.inl (x - x / y * y) :: S) M Q) := nr rfl
set_option maxRecDepth 100000 in
theorem v144_203 (n d : Nat) (L : List (Option mL)) (S : List mV) (M : Mm) (Q : mQ) : vc (n + 1) d 144 203 L S M Q = (vc n d 144 207 L S M Q) := nr rfl
set_option maxRecDepth 100000 in
theorem v144_206 (n d : Nat) (L : List (Option mL)) (S : List mV) (M : Mm) (Q : mQ) : vc (n + 1) d 144 206 L S M Q = (vc n d 144 207 L (.inl 0 :: S) M Q) := nr rfl
set_option maxRecDepth 100000 in
theorem v144_207 (n d : Nat) (L : List (Option mL)) (S : List mV) (M : Mm) (Q : mQ) : vc (n + 1) d 144 207 L S M Q = (pI S fun x S => pI S fun i S => pA S fun a S => shA M a fun t k => t = 41 ∧ inB i k ∧ vc n d 144 208 L S (M.si a i.toNatClampNeg x) Q) := nr rfl
set_option maxRecDepth 100000 in
theorem v144_208 (n d : Nat) (L : List (Option mL)) (S : List mV) (M : Mm) (Q : mQ) : vc (n + 1) d 144 208 L S M Q = (gI L 4 fun x => sL L 4 (some (.inl (x + 1))) fun L => vc n d 144 211 L S M Q) := nr rfl
set_option maxRecDepth 100000 in
theorem v144_211 (n d : Nat) (L : List (Option mL)) (S : List mV) (M : Mm) (Q : mQ) : vc (n + 1) d 144 211 L S M Q = (X d 144 128 L S M Q) := nr rfl
set_option maxRecDepth 100000 in
theorem v144_214 (n d : Nat) (L : List (Option mL)) (S : List mV) (M : Mm) (Q : mQ) : vc (n + 1) d 144 214 L S M Q = (gI L 1 fun x => vc n d 144 215 L (.inl x :: S) M Q) := nr rfl
set_option maxRecDepth 100000 in
theorem v144_215 (n d : Nat) (L : List (Option mL)) (S : List mV) (M : Mm) (Q : mQ) : vc (n + 1) d 144 215 L S M Q = (vc n d 144 216 L (.inl (-1) :: S) M Q) := nr rfl
set_option maxRecDepth 100000 in
theorem v144_216 (n d : Nat) (L : List (Option mL)) (S : List mV) (M : Mm) (Q : mQ) : vc (n + 1) d 144 216 L S M Q = (pI S fun y S => pI S fun x S => (x = y → X d 144 225 L S M Q) ∧ (¬ (x = y) → vc n d 144 219 L S M Q)) := nr rfl
set_option maxRecDepth 100000 in
theorem v144_219 (n d : Nat) (L : List (Option mL)) (S : List mV) (M : Mm) (Q : mQ) : vc (n + 1) d 144 219 L S M Q = (gR L 0 fun x => vc n d 144 220 L (.inr (.inr x) :: S) M Q) := nr rfl
set_option maxRecDepth 100000 in
theorem v144_220 (n d : Nat) (L : List (Option mL)) (S : List mV) (M : Mm) (Q : mQ) : vc (n + 1) d 144 220 L S M Q = (gI L 2 fun x => vc n d 144 221 L (.inl x :: S) M Q) := nr rfl
set_option maxRecDepth 100000 in
theorem v144_221 (n d : Nat) (L : List (Option mL)) (S : List mV) (M : Mm) (Q : mQ) : vc (n + 1) d 144 221 L S M Q = (gI L 1 fun x => vc n d 144 222 L (.inl x :: S) M Q) := nr rfl
set_option maxRecDepth 100000 in
theorem v144_222 (n d : Nat) (L : List (Option mL)) (S : List mV) (M : Mm) (Q : mQ) : vc (n + 1) d 144 222 L S M Q = (pAs 2 S fun as S => pA S fun a S => shO M a 10 (stk S ≤ 8 ∧ XC d 126 (.inr (some a) :: as) M (fun r M => r = none ∧ X d 144 225 L S M Q))) := nr rfl
set_option maxRecDepth 100000 in
theorem v144_225 (n d : Nat) (L : List (Option mL)) (S : List mV) (M : Mm) (Q : mQ) : vc (n + 1) d 144 225 L S M Q = (gR L 0 fun x => vc n d 144 226 L (.inr (.inr x) :: S) M Q) := nr rfl
set_option maxRecDepth 100000 in
theorem v144_226 (n d : Nat) (L : List (Option mL)) (S : List mV) (M : Mm) (Q : mQ) : vc (n + 1) d 144 226 L S M Q = (pA S fun a S => shO M a 10 (vc n d 144 229 L (.inl (M.it a 38) :: S) M Q)) := nr rfl
set_option maxRecDepth 100000 in
theorem v144_229 (n d : Nat) (L : List (Option mL)) (S : List mV) (M : Mm) (Q : mQ) : vc (n + 1) d 144 229 L S M Q = (pI S fun x S => sL L 4 (some (.inl x)) fun L => X d 144 231 L S M Q) := nr rfl
set_option maxRecDepth 100000 in
theorem v144_231 (n d : Nat) (L : List (Option mL)) (S : List mV) (M : Mm) (Q : mQ) : vc (n + 1) d 144 231 L S M Q = (gI L 4 fun x => vc n d 144 233 L (.inl x :: S) M Q) := nr rfl
set_option maxRecDepth 100000 in
theorem v144_233 (n d : Nat) (L : List (Option mL)) (S : List mV) (M : Mm) (Q : mQ) : vc (n + 1) d 144 233 L S M Q = (gR L 0 fun x => vc n d 144 234 L (.inr (.inr x) :: S) M Q) := nr rfl
set_option maxRecDepth 100000 in
theorem v144_234 (n d : Nat) (L : List (Option mL)) (S : List mV) (M : Mm) (Q : mQ) : vc (n + 1) d 144 234 L S M Q = (pA S fun a S => shO M a 10 (vc n d 144 237 L (.inl (M.it a 39) :: S) M Q)) := nr rfl
set_option maxRecDepth 100000 in
theorem v144_237 (n d : Nat) (L : List (Option mL)) (S : List mV) (M : Mm) (Q : mQ) : vc (n + 1) d 144 237 L S M Q = (pI S fun y S => pI S fun x S => (y ≤ x → vc n d 144 258 L S M Q) ∧ (¬ (y ≤ x) → vc n d 144 240 L S M Q)) := nr rfl
set_option maxRecDepth 100000 in
theorem v144_240 (n d : Nat) (L : List (Option mL)) (S : List mV) (M : Mm) (Q : mQ) : vc (n + 1) d 144 240 L S M Q = (gR L 0 fun x => vc n d 144 241 L (.inr (.inr x) :: S) M Q) := nr rfl
set_option maxRecDepth 100000 in
theorem v144_241 (n d : Nat) (L : List (Option mL)) (S : List mV) (M : Mm) (Q : mQ) : vc (n + 1) d 144 241 L S M Q = (gI L 2 fun x => vc n d 144 242 L (.inl x :: S) M Q) := nr rfl
set_option maxRecDepth 100000 in
theorem v144_242 (n d : Nat) (L : List (Option mL)) (S : List mV) (M : Mm) (Q : mQ) : vc (n + 1) d 144 242 L S M Q = (gR L 0 fun x => vc n d 144 243 L (.inr (.inr x) :: S) M Q) := nr rfl
set_option maxRecDepth 100000 in
theorem v144_243 (n d : Nat) (L : List (Option mL)) (S : List mV) (M : Mm) (Q : mQ) : vc (n + 1) d 144 243 L S M Q = (pA S fun a S => shO M a 10 (rrf M a 19 fun r => vc n d 144 246 L (.inr (.inr r) :: S) M Q)) := nr rfl
set_option maxRecDepth 100000 in
theorem v144_246 (n d : Nat) (L : List (Option mL)) (S : List mV) (M : Mm) (Q : mQ) : vc (n + 1) d 144 246 L S M Q = (gI L 4 fun x => vc n d 144 248 L (.inl x :: S) M Q) := nr rfl
set_option maxRecDepth 100000 in
theorem v144_248 (n d : Nat) (L : List (Option mL)) (S : List mV) (M : Mm) (Q : mQ) : vc (n + 1) d 144 248 L S M Q = (pI S fun i S => pA S fun a S => shA M a fun t k => (t = 40 ∨ t = 41) ∧ inB i k ∧ vc n d 144 249 L (.inl (M.it a i.toNatClampNeg) :: S) M Q) := nr rfl
set_option maxRecDepth 100000 in
theorem v144_249 (n d : Nat) (L : List (Option mL)) (S : List mV) (M : Mm) (Q : mQ) : vc (n + 1) d 144 249 L S M Q = (pAs 2 S fun as S => pA S fun a S => shO M a 10 (stk S ≤ 8 ∧ XC d 126 (.inr (some a) :: as) M (fun r M => r = none ∧ X d 144 252 L S M Q))) := nr rfl
set_option maxRecDepth 100000 in
theorem v144_252 (n d : Nat) (L : List (Option mL)) (S : List mV) (M : Mm) (Q : mQ) : vc (n + 1) d 144 252 L S M Q = (gI L 4 fun x => sL L 4 (some (.inl (x + 1))) fun L => vc n d 144 255 L S M Q) := nr rfl
set_option maxRecDepth 100000 in
theorem v144_255 (n d : Nat) (L : List (Option mL)) (S : List mV) (M : Mm) (Q : mQ) : vc (n + 1) d 144 255 L S M Q = (X d 144 231 L S M Q) := nr rfl
set_option maxRecDepth 100000 in
theorem v144_258 (n d : Nat) (L : List (Option mL)) (S : List mV) (M : Mm) (Q : mQ) : vc (n + 1) d 144 258 L S M Q = (gI L 2 fun x => vc n d 144 259 L (.inl x :: S) M Q) := nr rfl
set_option maxRecDepth 100000 in
theorem v144_259 (n d : Nat) (L : List (Option mL)) (S : List mV) (M : Mm) (Q : mQ) : vc (n + 1) d 144 259 L S M Q = (pI S fun x S => S = [] ∧ (0 = 0 ∨ x = 0 ∨ x = 1) ∧ Q (some (.inl x)) M) := nr rfl
set_option maxRecDepth 100000 in
theorem v145_0 (n d : Nat) (L : List (Option mL)) (S : List mV) (M : Mm) (Q : mQ) : vc (n + 1) d 145 0 L S M Q = (gR L 0 fun x => vc n d 145 1 L (.inr (.inr x) :: S) M Q) := nr rfl
set_option maxRecDepth 100000 in
theorem v145_1 (n d : Nat) (L : List (Option mL)) (S : List mV) (M : Mm) (Q : mQ) : vc (n + 1) d 145 1 L S M Q = (vc n d 145 2 L (.inl 0 :: S) M Q) := nr rfl
set_option maxRecDepth 100000 in
theorem v145_2 (n d : Nat) (L : List (Option mL)) (S : List mV) (M : Mm) (Q : mQ) : vc (n + 1) d 145 2 L S M Q = (pI S fun x S => pA S fun a S => shO M a 10 (vc n d 145 5 L S (M.si a 0 x) Q)) := nr rfl
set_option maxRecDepth 100000 in
theorem v145_5 (n d : Nat) (L : List (Option mL)) (S : List mV) (M : Mm) (Q : mQ) : vc (n + 1) d 145 5 L S M Q = (gR L 0 fun x => vc n d 145 6 L (.inr (.inr x) :: S) M Q) := nr rfl
set_option maxRecDepth 100000 in
theorem v145_6 (n d : Nat) (L : List (Option mL)) (S : List mV) (M : Mm) (Q : mQ) : vc (n + 1) d 145 6 L S M Q = (pA S fun a S => shO M a 10 (vc n d 145 9 L (.inl (M.it a 5) :: S) M Q)) := nr rfl
set_option maxRecDepth 100000 in
theorem v145_9 (n d : Nat) (L : List (Option mL)) (S : List mV) (M : Mm) (Q : mQ) : vc (n + 1) d 145 9 L S M Q = (pI S fun x S => (¬ x = 0 → vc n d 145 39 L S M Q) ∧ (¬ (¬ x = 0) → vc n d 145 12 L S M Q)) := nr rfl
set_option maxRecDepth 100000 in
theorem v145_12 (n d : Nat) (L : List (Option mL)) (S : List mV) (M : Mm) (Q : mQ) : vc (n + 1) d 145 12 L S M Q = (gI L 1 fun x => vc n d 145 13 L (.inl x :: S) M Q) := nr rfl
set_option maxRecDepth 100000 in
theorem v145_13 (n d : Nat) (L : List (Option mL)) (S : List mV) (M : Mm) (Q : mQ) : vc (n + 1) d 145 13 L S M Q = (pI S fun x S => (x < 0 → vc n d 145 39 L S M Q) ∧ (¬ (x < 0) → vc n d 145 16 L S M Q)) := nr rfl
set_option maxRecDepth 100000 in
theorem v145_16 (n d : Nat) (L : List (Option mL)) (S : List mV) (M : Mm) (Q : mQ) : vc (n + 1) d 145 16 L S M Q = (gI L 1 fun x => vc n d 145 17 L (.inl x :: S) M Q) := nr rfl
set_option maxRecDepth 100000 in
theorem v145_17 (n d : Nat) (L : List (Option mL)) (S : List mV) (M : Mm) (Q : mQ) : vc (n + 1) d 145 17 L S M Q = (vc n d 145 19 L (.inl 8 :: S) M Q) := nr rfl
set_option maxRecDepth 100000 in
theorem v145_19 (n d : Nat) (L : List (Option mL)) (S : List mV) (M : Mm) (Q : mQ) : vc (n + 1) d 145 19 L S M Q = (pI S fun y S => pI S fun x S => (y ≤ x → vc n d 145 39 L S M Q) ∧ (¬ (y ≤ x) → vc n d 145 22 L S M Q)) := nr rfl
set_option maxRecDepth 100000 in
theorem v145_22 (n d : Nat) (L : List (Option mL)) (S : List mV) (M : Mm) (Q : mQ) : vc (n + 1) d 145 22 L S M Q = (gI L 1 fun x => vc n d 145 23 L (.inl x :: S) M Q) := nr rfl
set_option maxRecDepth 100000 in
theorem v145_23 (n d : Nat) (L : List (Option mL)) (S : List mV) (M : Mm) (Q : mQ) : vc (n + 1) d 145 23 L S M Q = (gR L 0 fun x => vc n d 145 24 L (.inr (.inr x) :: S) M Q) := nr rfl
set_option maxRecDepth 100000 in
theorem v145_24 (n d : Nat) (L : List (Option mL)) (S : List mV) (M : Mm) (Q : mQ) : vc (n + 1) d 145 24 L S M Q = (pA S fun a S => shO M a 10 (vc n d 145 27 L (.inl (M.it a 9) :: S) M Q)) := nr rfl
set_option maxRecDepth 100000 in
theorem v145_27 (n d : Nat) (L : List (Option mL)) (S : List mV) (M : Mm) (Q : mQ) : vc (n + 1) d 145 27 L S M Q = (pI S fun y S => pI S fun x S => (x = y → vc n d 145 39 L S M Q) ∧ (¬ (x = y) → vc n d 145 30 L S M Q)) := nr rfl
set_option maxRecDepth 100000 in
theorem v145_30 (n d : Nat) (L : List (Option mL)) (S : List mV) (M : Mm) (Q : mQ) : vc (n + 1) d 145 30 L S M Q = (gR L 0 fun x => vc n d 145 31 L (.inr (.inr x) :: S) M Q) := nr rfl
set_option maxRecDepth 100000 in
theorem v145_31 (n d : Nat) (L : List (Option mL)) (S : List mV) (M : Mm) (Q : mQ) : vc (n + 1) d 145 31 L S M Q = (pA S fun a S => shO M a 10 (rrf M a 6 fun r => vc n d 145 34 L (.inr (.inr r) :: S) M Q)) := nr rfl
set_option maxRecDepth 100000 in
theorem v145_34 (n d : Nat) (L : List (Option mL)) (S : List mV) (M : Mm) (Q : mQ) : vc (n + 1) d 145 34 L S M Q = (gI L 1 fun x => vc n d 145 35 L (.inl x :: S) M Q) := nr rfl
set_option maxRecDepth 100000 in
theorem v145_35 (n d : Nat) (L : List (Option mL)) (S : List mV) (M : Mm) (Q : mQ) : vc (n + 1) d 145 35 L S M Q = (pI S fun i S => pA S fun a S => shA M a fun t k => (t = 40 ∨ t = 41) ∧ inB i k ∧ vc n d 145 36 L (.inl (M.it a i.toNatClampNeg) :: S) M Q) := nr rfl
set_option maxRecDepth 100000 in
theorem v145_36 (n d : Nat) (L : List (Option mL)) (S : List mV) (M : Mm) (Q : mQ) : vc (n + 1) d 145 36 L S M Q = (pI S fun x S => (¬ x = 0 → vc n d 145 41 L S M Q) ∧ (¬ (¬ x = 0) → vc n d 145 39 L S M Q)) := nr rfl
set_option maxRecDepth 100000 in
theorem v145_39 (n d : Nat) (L : List (Option mL)) (S : List mV) (M : Mm) (Q : mQ) : vc (n + 1) d 145 39 L S M Q = (vc n d 145 40 L (.inl (-1) :: S) M Q) := nr rfl
set_option maxRecDepth 100000 in
theorem v145_40 (n d : Nat) (L : List (Option mL)) (S : List mV) (M : Mm) (Q : mQ) : vc (n + 1) d 145 40 L S M Q = (pI S fun x S => S = [] ∧ (0 = 0 ∨ x = 0 ∨ x = 1) ∧ Q (some (.inl x)) M) := nr rfl
set_option maxRecDepth 100000 in
theorem v145_41 (n d : Nat) (L : List (Option mL)) (S : List mV) (M : Mm) (Q : mQ) : vc (n + 1) d 145 41 L S M Q = (gR L 0 fun x => vc n d 145 42 L (.inr (.inr x) :: S) M Q) := nr rfl
set_option maxRecDepth 100000 in
theorem v145_42 (n d : Nat) (L : List (Option mL)) (S : List mV) (M : Mm) (Q : mQ) : vc (n + 1) d 145 42 L S M Q = (vc n d 145 43 L (.inl 0 :: S) M Q) := nr rfl
set_option maxRecDepth 100000 in
theorem v145_43 (n d : Nat) (L : List (Option mL)) (S : List mV) (M : Mm) (Q : mQ) : vc (n + 1) d 145 43 L S M Q = (pI S fun x S => pA S fun a S => shO M a 10 (vc n d 145 46 L S (M.si a 35 x) Q)) := nr rfl
set_option maxRecDepth 100000 in
theorem v145_46 (n d : Nat) (L : List (Option mL)) (S : List mV) (M : Mm) (Q : mQ) : vc (n + 1) d 145 46 L S M Q = (vc n d 145 47 L (.inl 0 :: S) M Q) := nr rfl
set_option maxRecDepth 100000 in
theorem v145_47 (n d : Nat) (L : List (Option mL)) (S : List mV) (M : Mm) (Q : mQ) : vc (n + 1) d 145 47 L S M Q = (pI S fun x S => sL L 2 (some (.inl x)) fun L => vc n d 145 48 L S M Q) := nr rfl
set_option maxRecDepth 100000 in
theorem v145_48 (n d : Nat) (L : List (Option mL)) (S : List mV) (M : Mm) (Q : mQ) : vc (n + 1) d 145 48 L S M Q = (vc n d 145 49 L (.inl 0 :: S) M Q) := nr rfl
set_option maxRecDepth 100000 in
theorem v145_49 (n d : Nat) (L : List (Option mL)) (S : List mV) (M : Mm) (Q : mQ) : vc (n + 1) d 145 49 L S M Q = (pI S fun x S => sL L 3 (some (.inl x)) fun L => X d 145 50 L S M Q) := nr rfl
set_option maxRecDepth 100000 in
theorem v145_50 (n d : Nat) (L : List (Option mL)) (S : List mV) (M : Mm) (Q : mQ) : vc (n + 1) d 145 50 L S M Q = (gI L 3 fun x => vc n d 145 51 L (.inl x :: S) M Q) := nr rfl
set_option maxRecDepth 100000 in
theorem v145_51 (n d : Nat) (L : List (Option mL)) (S : List mV) (M : Mm) (Q : mQ) : vc (n + 1) d 145 51 L S M Q = (vc n d 145 53 L (.inl 16 :: S) M Q) := nr rfl
set_option maxRecDepth 100000 in
theorem v145_53 (n d : Nat) (L : List (Option mL)) (S : List mV) (M : Mm) (Q : mQ) : vc (n + 1) d 145 53 L S M Q = (pI S fun y S => pI S fun x S => (y ≤ x → vc n d 145 195 L S M Q) ∧ (¬ (y ≤ x) → vc n d 145 56 L S M Q)) := nr rfl
set_option maxRecDepth 100000 in
theorem v145_56 (n d : Nat) (L : List (Option mL)) (S : List mV) (M : Mm) (Q : mQ) : vc (n + 1) d 145 56 L S M Q = (vc n d 145 58 L (.inl 16 :: S) M Q) := nr rfl
set_option maxRecDepth 100000 in
theorem v145_58 (n d : Nat) (L : List (Option mL)) (S : List mV) (M : Mm) (Q : mQ) : vc (n + 1) d 145 58 L S M Q = (gI L 1 fun x => vc n d 145 59 L (.inl x :: S) M Q) := nr rfl
set_option maxRecDepth 100000 in
theorem v145_59 (n d : Nat) (L : List (Option mL)) (S : List mV) (M : Mm) (Q : mQ) : vc (n + 1) d 145 59 L S M Q = (pI S fun y S => pI S fun x S => vc n d 145 60 L (.inl (x * y) :: S) M Q) := nr rfl
set_option maxRecDepth 100000 in
theorem v145_60 (n d : Nat) (L : List (Option mL)) (S : List mV) (M : Mm) (Q : mQ) : vc (n + 1) d 145 60 L S M Q = (gI L 3 fun x => vc n d 145 61 L (.inl x :: S) M Q) := nr rfl
set_option maxRecDepth 100000 in
theorem v145_61 (n d : Nat) (L : List (Option mL)) (S : List mV) (M : Mm) (Q : mQ) : vc (n + 1) d 145 61 L S M Q = (pI S fun y S => pI S fun x S => vc n d 145 62 L (.inl (x + y) :: S) M Q) := nr rfl
set_option maxRecDepth 100000 in
theorem v145_62 (n d : Nat) (L : List (Option mL)) (S : List mV) (M : Mm) (Q : mQ) : vc (n + 1) d 145 62 L S M Q = (pI S fun x S => sL L 4 (some (.inl x)) fun L => vc n d 145 64 L S M Q) := nr rfl
set_option maxRecDepth 100000 in
theorem v145_64 (n d : Nat) (L : List (Option mL)) (S : List mV) (M : Mm) (Q : mQ) : vc (n + 1) d 145 64 L S M Q = (gI L 2 fun x => vc n d 145 65 L (.inl x :: S) M Q) := nr rfl
set_option maxRecDepth 100000 in
theorem v145_65 (n d : Nat) (L : List (Option mL)) (S : List mV) (M : Mm) (Q : mQ) : vc (n + 1) d 145 65 L S M Q = (pI S fun x S => (¬ x = 0 → X d 145 77 L S M Q) ∧ (¬ (¬ x = 0) → vc n d 145 68 L S M Q)) := nr rfl
set_option maxRecDepth 100000 in
theorem v145_68 (n d : Nat) (L : List (Option mL)) (S : List mV) (M : Mm) (Q : mQ) : vc (n + 1) d 145 68 L S M Q = (gR L 0 fun x => vc n d 145 69 L (.inr (.inr x) :: S) M Q) := nr rfl
set_option maxRecDepth 100000 in
theorem v145_69 (n d : Nat) (L : List (Option mL)) (S : List mV) (M : Mm) (Q : mQ) : vc (n + 1) d 145 69 L S M Q = (gI L 4 fun x => vc n d 145 71 L (.inl x :: S) M Q) := nr rfl
set_option maxRecDepth 100000 in
theorem v145_71 (n d : Nat) (L : List (Option mL)) (S : List mV) (M : Mm) (Q : mQ) : vc (n + 1) d 145 71 L S M Q = (pAs 1 S fun as S => pA S fun a S => shO M a 10 (stk S ≤ 8 ∧ XC d 146 (.inr (some a) :: as) M (fun r M => ∃ x : Int32, r = some (.inl x) ∧ X d 145 74 L (.inl x :: S) M Q))) := nr rfl
set_option maxRecDepth 100000 in
theorem v145_74 (n d : Nat) (L : List (Option mL)) (S : List mV) (M : Mm) (Q : mQ) : vc (n + 1) d 145 74 L S M Q = (pI S fun x S => (x = 0 → vc n d 145 81 L S M Q) ∧ (¬ (x = 0) → X d 145 77 L S M Q)) := nr rfl
set_option maxRecDepth 100000 in
theorem v145_77 (n d : Nat) (L : List (Option mL)) (S : List mV) (M : Mm) (Q : mQ) : vc (n + 1) d 145 77 L S M Q = (vc n d 145 78 L (.inl 1 :: S) M Q) := nr rfl
set_option maxRecDepth 100000 in
theorem v145_78 (n d : Nat) (L : List (Option mL)) (S : List mV) (M : Mm) (Q : mQ) : vc (n + 1) d 145 78 L S M Q = (X d 145 82 L S M Q) := nr rfl
set_option maxRecDepth 100000 in
theorem v145_81 (n d : Nat) (L : List (Option mL)) (S : List mV) (M : Mm) (Q : mQ) : vc (n + 1) d 145 81 L S M Q = (X d 145 82 L (.inl 0 :: S) M Q) := nr rfl
set_option maxRecDepth 100000 in
theorem v145_82 (n d : Nat) (L : List (Option mL)) (S : List mV) (M : Mm) (Q : mQ) : vc (n + 1) d 145 82 L S M Q = (pI S fun x S => sL L 2 (some (.inl x)) fun L => vc n d 145 83 L S M Q) := nr rfl
set_option maxRecDepth 100000 in
theorem v145_83 (n d : Nat) (L : List (Option mL)) (S : List mV) (M : Mm) (Q : mQ) : vc (n + 1) d 145 83 L S M Q = (gR L 0 fun x => vc n d 145 84 L (.inr (.inr x) :: S) M Q) := nr rfl
set_option maxRecDepth 100000 in
theorem v145_84 (n d : Nat) (L : List (Option mL)) (S : List mV) (M : Mm) (Q : mQ) : vc (n + 1) d 145 84 L S M Q = (gI L 4 fun x => vc n d 145 86 L (.inl x :: S) M Q) := nr rfl
set_option maxRecDepth 100000 in
theorem v145_86 (n d : Nat) (L : List (Option mL)) (S : List mV) (M : Mm) (Q : mQ) : vc (n + 1) d 145 86 L S M Q = (pAs 1 S fun as S => pA S fun a S => shO M a 10 (stk S ≤ 8 ∧ XC d 147 (.inr (some a) :: as) M (fun r M => ∃ x : Int32, r = some (.inl x) ∧ X d 145 89 L (.inl x :: S) M Q))) := nr rfl
set_option maxRecDepth 100000 in
theorem v145_89 (n d : Nat) (L : List (Option mL)) (S : List mV) (M : Mm) (Q : mQ) : vc (n + 1) d 145 89 L S M Q = (pI S fun x S => sL L 5 (some (.inl x)) fun L => vc n d 145 91 L S M Q) := nr rfl
set_option maxRecDepth 100000 in
theorem v145_91 (n d : Nat) (L : List (Option mL)) (S : List mV) (M : Mm) (Q : mQ) : vc (n + 1) d 145 91 L S M Q = (gI L 5 fun x => vc n d 145 93 L (.inl x :: S) M Q) := nr rfl
set_option maxRecDepth 100000 in
theorem v145_93 (n d : Nat) (L : List (Option mL)) (S : List mV) (M : Mm) (Q : mQ) : vc (n + 1) d 145 93 L S M Q = (vc n d 145 94 L (.inl (-1) :: S) M Q) := nr rfl
set_option maxRecDepth 100000 in
theorem v145_94 (n d : Nat) (L : List (Option mL)) (S : List mV) (M : Mm) (Q : mQ) : vc (n + 1) d 145 94 L S M Q = (pI S fun y S => pI S fun x S => (¬ x = y → vc n d 145 100 L S M Q) ∧ (¬ (¬ x = y) → vc n d 145 97 L S M Q)) := nr rfl
set_option maxRecDepth 100000 in
theorem v145_97 (n d : Nat) (L : List (Option mL)) (S : List mV) (M : Mm) (Q : mQ) : vc (n + 1) d 145 97 L S M Q = (X d 145 189 L S M Q) := nr rfl
set_option maxRecDepth 100000 in
theorem v145_100 (n d : Nat) (L : List (Option mL)) (S : List mV) (M : Mm) (Q : mQ) : vc (n + 1) d 145 100 L S M Q = (gR L 0 fun x => vc n d 145 101 L (.inr (.inr x) :: S) M Q) := nr rfl
set_option maxRecDepth 100000 in
theorem v145_101 (n d : Nat) (L : List (Option mL)) (S : List mV) (M : Mm) (Q : mQ) : vc (n + 1) d 145 101 L S M Q = (pA S fun a S => shO M a 10 (rrf M a 32 fun r => vc n d 145 104 L (.inr (.inr r) :: S) M Q)) := nr rfl
set_option maxRecDepth 100000 in
theorem v145_104 (n d : Nat) (L : List (Option mL)) (S : List mV) (M : Mm) (Q : mQ) : vc (n + 1) d 145 104 L S M Q = (gR L 0 fun x => vc n d 145 105 L (.inr (.inr x) :: S) M Q) := nr rfl
set_option maxRecDepth 100000 in
theorem v145_105 (n d : Nat) (L : List (Option mL)) (S : List mV) (M : Mm) (Q : mQ) : vc (n + 1) d 145 105 L S M Q = (pA S fun a S => shO M a 10 (vc n d 145 108 L (.inl (M.it a 35) :: S) M Q)) := nr rfl
set_option maxRecDepth 100000 in
theorem v145_108 (n d : Nat) (L : List (Option mL)) (S : List mV) (M : Mm) (Q : mQ) : vc (n + 1) d 145 108 L S M Q = (gI L 5 fun x => vc n d 145 110 L (.inl x :: S) M Q) := nr rfl
set_option maxRecDepth 100000 in
theorem v145_110 (n d : Nat) (L : List (Option mL)) (S : List mV) (M : Mm) (Q : mQ) : vc (n + 1) d 145 110 L S M Q = (pI S fun x S => pI S fun i S => pA S fun a S => shA M a fun t k => t = 41 ∧ inB i k ∧ vc n d 145 111 L S (M.si a i.toNatClampNeg x) Q) := nr rfl
set_option maxRecDepth 100000 in
theorem v145_111 (n d : Nat) (L : List (Option mL)) (S : List mV) (M : Mm) (Q : mQ) : vc (n + 1) d 145 111 L S M Q = (gR L 0 fun x => vc n d 145 112 L (.inr (.inr x) :: S) M Q) := nr rfl
set_option maxRecDepth 100000 in
theorem v145_112 (n d : Nat) (L : List (Option mL)) (S : List mV) (M : Mm) (Q : mQ) : vc (n + 1) d 145 112 L S M Q = (pA S fun a S => shO M a 10 (rrf M a 33 fun r => vc n d 145 115 L (.inr (.inr r) :: S) M Q)) := nr rfl
set_option maxRecDepth 100000 in
theorem v145_115 (n d : Nat) (L : List (Option mL)) (S : List mV) (M : Mm) (Q : mQ) : vc (n + 1) d 145 115 L S M Q = (gR L 0 fun x => vc n d 145 116 L (.inr (.inr x) :: S) M Q) := nr rfl
set_option maxRecDepth 100000 in
theorem v145_116 (n d : Nat) (L : List (Option mL)) (S : List mV) (M : Mm) (Q : mQ) : vc (n + 1) d 145 116 L S M Q = (pA S fun a S => shO M a 10 (vc n d 145 119 L (.inl (M.it a 35) :: S) M Q)) := nr rfl
set_option maxRecDepth 100000 in
theorem v145_119 (n d : Nat) (L : List (Option mL)) (S : List mV) (M : Mm) (Q : mQ) : vc (n + 1) d 145 119 L S M Q = (gR L 0 fun x => vc n d 145 120 L (.inr (.inr x) :: S) M Q) := nr rfl
set_option maxRecDepth 100000 in
theorem v145_120 (n d : Nat) (L : List (Option mL)) (S : List mV) (M : Mm) (Q : mQ) : vc (n + 1) d 145 120 L S M Q = (gI L 4 fun x => vc n d 145 122 L (.inl x :: S) M Q) := nr rfl
set_option maxRecDepth 100000 in
theorem v145_122 (n d : Nat) (L : List (Option mL)) (S : List mV) (M : Mm) (Q : mQ) : vc (n + 1) d 145 122 L S M Q = (pAs 1 S fun as S => pA S fun a S => shO M a 10 (stk S ≤ 8 ∧ XC d 131 (.inr (some a) :: as) M (fun r M => ∃ x : Int32, r = some (.inl x) ∧ X d 145 125 L (.inl x :: S) M Q))) := nr rfl
set_option maxRecDepth 100000 in
theorem v145_125 (n d : Nat) (L : List (Option mL)) (S : List mV) (M : Mm) (Q : mQ) : vc (n + 1) d 145 125 L S M Q = (pI S fun x S => pI S fun i S => pA S fun a S => shA M a fun t k => t = 41 ∧ inB i k ∧ vc n d 145 126 L S (M.si a i.toNatClampNeg x) Q) := nr rfl
set_option maxRecDepth 100000 in
theorem v145_126 (n d : Nat) (L : List (Option mL)) (S : List mV) (M : Mm) (Q : mQ) : vc (n + 1) d 145 126 L S M Q = (vc n d 145 127 L (.inl 0 :: S) M Q) := nr rfl
set_option maxRecDepth 100000 in
theorem v145_127 (n d : Nat) (L : List (Option mL)) (S : List mV) (M : Mm) (Q : mQ) : vc (n + 1) d 145 127 L S M Q = (pI S fun x S => sL L 6 (some (.inl x)) fun L => X d 145 129 L S M Q) := nr rfl
set_option maxRecDepth 100000 in
theorem v145_129 (n d : Nat) (L : List (Option mL)) (S : List mV) (M : Mm) (Q : mQ) : vc (n + 1) d 145 129 L S M Q = (gI L 6 fun x => vc n d 145 131 L (.inl x :: S) M Q) := nr rfl
set_option maxRecDepth 100000 in
theorem v145_131 (n d : Nat) (L : List (Option mL)) (S : List mV) (M : Mm) (Q : mQ) : vc (n + 1) d 145 131 L S M Q = (gR L 0 fun x => vc n d 145 132 L (.inr (.inr x) :: S) M Q) := nr rfl
set_option maxRecDepth 100000 in
theorem v145_132 (n d : Nat) (L : List (Option mL)) (S : List mV) (M : Mm) (Q : mQ) : vc (n + 1) d 145 132 L S M Q = (pA S fun a S => shO M a 10 (rrf M a 33 fun r => vc n d 145 135 L (.inr (.inr r) :: S) M Q)) := nr rfl
set_option maxRecDepth 100000 in
theorem v145_135 (n d : Nat) (L : List (Option mL)) (S : List mV) (M : Mm) (Q : mQ) : vc (n + 1) d 145 135 L S M Q = (gR L 0 fun x => vc n d 145 136 L (.inr (.inr x) :: S) M Q) := nr rfl
set_option maxRecDepth 100000 in
theorem v145_136 (n d : Nat) (L : List (Option mL)) (S : List mV) (M : Mm) (Q : mQ) : vc (n + 1) d 145 136 L S M Q = (pA S fun a S => shO M a 10 (vc n d 145 139 L (.inl (M.it a 35) :: S) M Q)) := nr rfl
set_option maxRecDepth 100000 in
theorem v145_139 (n d : Nat) (L : List (Option mL)) (S : List mV) (M : Mm) (Q : mQ) : vc (n + 1) d 145 139 L S M Q = (pI S fun i S => pA S fun a S => shA M a fun t k => (t = 40 ∨ t = 41) ∧ inB i k ∧ vc n d 145 140 L (.inl (M.it a i.toNatClampNeg) :: S) M Q) := nr rfl
set_option maxRecDepth 100000 in
theorem v145_140 (n d : Nat) (L : List (Option mL)) (S : List mV) (M : Mm) (Q : mQ) : vc (n + 1) d 145 140 L S M Q = (pI S fun y S => pI S fun x S => (y ≤ x → vc n d 145 173 L S M Q) ∧ (¬ (y ≤ x) → vc n d 145 143 L S M Q)) := nr rfl
set_option maxRecDepth 100000 in
theorem v145_143 (n d : Nat) (L : List (Option mL)) (S : List mV) (M : Mm) (Q : mQ) : vc (n + 1) d 145 143 L S M Q = (gR L 0 fun x => vc n d 145 144 L (.inr (.inr x) :: S) M Q) := nr rfl
set_option maxRecDepth 100000 in
theorem v145_144 (n d : Nat) (L : List (Option mL)) (S : List mV) (M : Mm) (Q : mQ) : vc (n + 1) d 145 144 L S M Q = (pA S fun a S => shO M a 10 (rrf M a 31 fun r => vc n d 145 147 L (.inr (.inr r) :: S) M Q)) := nr rfl
set_option maxRecDepth 100000 in
theorem v145_147 (n d : Nat) (L : List (Option mL)) (S : List mV) (M : Mm) (Q : mQ) : vc (n + 1) d 145 147 L S M Q = (vc n d 145 149 L (.inl 100 :: S) M Q) := nr rfl
set_option maxRecDepth 100000 in
theorem v145_149 (n d : Nat) (L : List (Option mL)) (S : List mV) (M : Mm) (Q : mQ) : vc (n + 1) d 145 149 L S M Q = (gR L 0 fun x => vc n d 145 150 L (.inr (.inr x) :: S) M Q) := nr rfl
set_option maxRecDepth 100000 in
theorem v145_150 (n d : Nat) (L : List (Option mL)) (S : List mV) (M : Mm) (Q : mQ) : vc (n + 1) d 145 150 L S M Q = (pA S fun a S => shO M a 10 (vc n d 145 153 L (.inl (M.it a 35) :: S) M Q)) := nr rfl
set_option maxRecDepth 100000 in
theorem v145_153 (n d : Nat) (L : List (Option mL)) (S : List mV) (M : Mm) (Q : mQ) : vc (n + 1) d 145 153 L S M Q = (pI S fun y S => pI S fun x S => vc n d 145 154 L (.inl (x * y) :: S) M Q) := nr rfl
set_option maxRecDepth 100000 in
theorem v145_154 (n d : Nat) (L : List (Option mL)) (S : List mV) (M : Mm) (Q : mQ) : vc (n + 1) d 145 154 L S M Q = (gI L 6 fun x => vc n d 145 156 L (.inl x :: S) M Q) := nr rfl
set_option maxRecDepth 100000 in
theorem v145_156 (n d : Nat) (L : List (Option mL)) (S : List mV) (M : Mm) (Q : mQ) : vc (n + 1) d 145 156 L S M Q = (pI S fun y S => pI S fun x S => vc n d 145 157 L (.inl (x + y) :: S) M Q) := nr rfl
set_option maxRecDepth 100000 in
theorem v145_157 (n d : Nat) (L : List (Option mL)) (S : List mV) (M : Mm) (Q : mQ) : vc (n + 1) d 145 157 L S M Q = (gR L 0 fun x => vc n d 145 158 L (.inr (.inr x) :: S) M Q) := nr rfl
set_option maxRecDepth 100000 in
theorem v145_158 (n d : Nat) (L : List (Option mL)) (S : List mV) (M : Mm) (Q : mQ) : vc (n + 1) d 145 158 L S M Q = (gI L 4 fun x => vc n d 145 160 L (.inl x :: S) M Q) := nr rfl
set_option maxRecDepth 100000 in
theorem v145_160 (n d : Nat) (L : List (Option mL)) (S : List mV) (M : Mm) (Q : mQ) : vc (n + 1) d 145 160 L S M Q = (gI L 6 fun x => vc n d 145 162 L (.inl x :: S) M Q) := nr rfl
set_option maxRecDepth 100000 in
theorem v145_162 (n d : Nat) (L : List (Option mL)) (S : List mV) (M : Mm) (Q : mQ) : vc (n + 1) d 145 162 L S M Q = (pAs 2 S fun as S => pA S fun a S => shO M a 10 (stk S ≤ 8 ∧ XC d 134 (.inr (some a) :: as) M (fun r M => ∃ x : Int32, r = some (.inl x) ∧ X d 145 165 L (.inl x :: S) M Q))) := nr rfl
set_option maxRecDepth 100000 in
theorem v145_165 (n d : Nat) (L : List (Option mL)) (S : List mV) (M : Mm) (Q : mQ) : vc (n + 1) d 145 165 L S M Q = (pI S fun x S => vc n d 145 166 L (.inl x.toInt8.toInt32 :: S) M Q) := nr rfl
set_option maxRecDepth 100000 in
theorem v145_166 (n d : Nat) (L : List (Option mL)) (S : List mV) (M : Mm) (Q : mQ) : vc (n + 1) d 145 166 L S M Q = (pI S fun x S => pI S fun i S => pA S fun a S => shA M a fun t k => (t = 42 ∨ t = 44) ∧ inB i k ∧ vc n d 145 167 L S (M.si a i.toNatClampNeg (bnar t x)) Q) := nr rfl
set_option maxRecDepth 100000 in
theorem v145_167 (n d : Nat) (L : List (Option mL)) (S : List mV) (M : Mm) (Q : mQ) : vc (n + 1) d 145 167 L S M Q = (gI L 6 fun x => sL L 6 (some (.inl (x + 1))) fun L => vc n d 145 170 L S M Q) := nr rfl
set_option maxRecDepth 100000 in
theorem v145_170 (n d : Nat) (L : List (Option mL)) (S : List mV) (M : Mm) (Q : mQ) : vc (n + 1) d 145 170 L S M Q = (X d 145 129 L S M Q) := nr rfl
set_option maxRecDepth 100000 in
theorem v145_173 (n d : Nat) (L : List (Option mL)) (S : List mV) (M : Mm) (Q : mQ) : vc (n + 1) d 145 173 L S M Q = (gR L 0 fun x => vc n d 145 174 L (.inr (.inr x) :: S) M Q) := nr rfl
set_option maxRecDepth 100000 in
theorem v145_174 (n d : Nat) (L : List (Option mL)) (S : List mV) (M : Mm) (Q : mQ) : vc (n + 1) d 145 174 L S M Q = (pC S fun v S => vc n d 145 175 L (v :: v :: S) M Q) := nr rfl
set_option maxRecDepth 100000 in
theorem v145_175 (n d : Nat) (L : List (Option mL)) (S : List mV) (M : Mm) (Q : mQ) : vc (n + 1) d 145 175 L S M Q = (pA S fun a S => shO M a 10 (vc n d 145 178 L (.inl (M.it a 35) :: S) M Q)) := nr rfl
set_option maxRecDepth 100000 in
theorem v145_178 (n d : Nat) (L : List (Option mL)) (S : List mV) (M : Mm) (Q : mQ) : vc (n + 1) d 145 178 L S M Q = (vc n d 145 179 L (.inl 1 :: S) M Q) := nr rfl
set_option maxRecDepth 100000 in
theorem v145_179 (n d : Nat) (L : List (Option mL)) (S : List mV) (M : Mm) (Q : mQ) : vc (n + 1) d 145 179 L S M Q = (pI S fun y S => pI S fun x S => vc n d 145 180 L (.inl (x + y) :: S) M Q) := nr rfl
set_option maxRecDepth 100000 in
theorem v145_180 (n d : Nat) (L : List (Option mL)) (S : List mV) (M : Mm) (Q : mQ) : vc (n + 1) d 145 180 L S M Q = (pI S fun x S => pA S fun a S => shO M a 10 (vc n d 145 183 L S (M.si a 35 x) Q)) := nr rfl
set_option maxRecDepth 100000 in
theorem v145_183 (n d : Nat) (L : List (Option mL)) (S : List mV) (M : Mm) (Q : mQ) : vc (n + 1) d 145 183 L S M Q = (gR L 0 fun x => vc n d 145 184 L (.inr (.inr x) :: S) M Q) := nr rfl
set_option maxRecDepth 100000 in
theorem v145_184 (n d : Nat) (L : List (Option mL)) (S : List mV) (M : Mm) (Q : mQ) : vc (n + 1) d 145 184 L S M Q = (gI L 4 fun x => vc n d 145 186 L (.inl x :: S) M Q) := nr rfl
set_option maxRecDepth 100000 in
theorem v145_186 (n d : Nat) (L : List (Option mL)) (S : List mV) (M : Mm) (Q : mQ) : vc (n + 1) d 145 186 L S M Q = (pAs 1 S fun as S => pA S fun a S => shO M a 10 (stk S ≤ 8 ∧ XC d 135 (.inr (some a) :: as) M (fun r M => r = none ∧ X d 145 189 L S M Q))) := nr rfl
set_option maxRecDepth 100000 in
theorem v145_189 (n d : Nat) (L : List (Option mL)) (S : List mV) (M : Mm) (Q : mQ) : vc (n + 1) d 145 189 L S M Q = (gI L 3 fun x => sL L 3 (some (.inl (x + 1))) fun L => vc n d 145 192 L S M Q) := nr rfl
set_option maxRecDepth 100000 in
theorem v145_192 (n d : Nat) (L : List (Option mL)) (S : List mV) (M : Mm) (Q : mQ) : vc (n + 1) d 145 192 L S M Q = (X d 145 50 L S M Q) := nr rfl
set_option maxRecDepth 100000 in
theorem v145_195 (n d : Nat) (L : List (Option mL)) (S : List mV) (M : Mm) (Q : mQ) : vc (n + 1) d 145 195 L S M Q = (gR L 0 fun x => vc n d 145 196 L (.inr (.inr x) :: S) M Q) := nr rfl
set_option maxRecDepth 100000 in
theorem v145_196 (n d : Nat) (L : List (Option mL)) (S : List mV) (M : Mm) (Q : mQ) : vc (n + 1) d 145 196 L S M Q = (pAs 0 S fun as S => pA S fun a S => shO M a 10 (stk S ≤ 8 ∧ XC d 120 (.inr (some a) :: as) M (fun r M => r = none ∧ X d 145 199 L S M Q))) := nr rfl
set_option maxRecDepth 100000 in
theorem v145_199 (n d : Nat) (L : List (Option mL)) (S : List mV) (M : Mm) (Q : mQ) : vc (n + 1) d 145 199 L S M Q = (vc n d 145 200 L (.inl 0 :: S) M Q) := nr rfl
set_option maxRecDepth 100000 in
theorem v145_200 (n d : Nat) (L : List (Option mL)) (S : List mV) (M : Mm) (Q : mQ) : vc (n + 1) d 145 200 L S M Q = (pI S fun x S => sL L 3 (some (.inl x)) fun L => X d 145 201 L S M Q) := nr rfl
set_option maxRecDepth 100000 in
theorem v145_201 (n d : Nat) (L : List (Option mL)) (S : List mV) (M : Mm) (Q : mQ) : vc (n + 1) d 145 201 L S M Q = (gI L 3 fun x => vc n d 145 202 L (.inl x :: S) M Q) := nr rfl
set_option maxRecDepth 100000 in
theorem v145_202 (n d : Nat) (L : List (Option mL)) (S : List mV) (M : Mm) (Q : mQ) : vc (n + 1) d 145 202 L S M Q = (gR L 0 fun x => vc n d 145 203 L (.inr (.inr x) :: S) M Q) := nr rfl
set_option maxRecDepth 100000 in
theorem v145_203 (n d : Nat) (L : List (Option mL)) (S : List mV) (M : Mm) (Q : mQ) : vc (n + 1) d 145 203 L S M Q = (pA S fun a S => shO M a 10 (vc n d 145 206 L (.inl (M.it a 35) :: S) M Q)) := nr rfl
set_option maxRecDepth 100000 in
theorem v145_206 (n d : Nat) (L : List (Option mL)) (S : List mV) (M : Mm) (Q : mQ) : vc (n + 1) d 145 206 L S M Q = (pI S fun y S => pI S fun x S => (y ≤ x → vc n d 145 303 L S M Q) ∧ (¬ (y ≤ x) → vc n d 145 209 L S M Q)) := nr rfl
set_option maxRecDepth 100000 in
theorem v145_209 (n d : Nat) (L : List (Option mL)) (S : List mV) (M : Mm) (Q : mQ) : vc (n + 1) d 145 209 L S M Q = (vc n d 145 210 L (.inl 0 :: S) M Q) := nr rfl
set_option maxRecDepth 100000 in
theorem v145_210 (n d : Nat) (L : List (Option mL)) (S : List mV) (M : Mm) (Q : mQ) : vc (n + 1) d 145 210 L S M Q = (pI S fun x S => sL L 4 (some (.inl x)) fun L => X d 145 212 L S M Q) := nr rfl
set_option maxRecDepth 100000 in
theorem v145_212 (n d : Nat) (L : List (Option mL)) (S : List mV) (M : Mm) (Q : mQ) : vc (n + 1) d 145 212 L S M Q = (gI L 4 fun x => vc n d 145 214 L (.inl x :: S) M Q) := nr rfl
set_option maxRecDepth 100000 in
theorem v145_214 (n d : Nat) (L : List (Option mL)) (S : List mV) (M : Mm) (Q : mQ) : vc (n + 1) d 145 214 L S M Q = (gR L 0 fun x => vc n d 145 215 L (.inr (.inr x) :: S) M Q) := nr rfl
set_option maxRecDepth 100000 in
theorem v145_215 (n d : Nat) (L : List (Option mL)) (S : List mV) (M : Mm) (Q : mQ) : vc (n + 1) d 145 215 L S M Q = (pA S fun a S => shO M a 10 (rrf M a 33 fun r => vc n d 145 218 L (.inr (.inr r) :: S) M Q)) := nr rfl
set_option maxRecDepth 100000 in
theorem v145_218 (n d : Nat) (L : List (Option mL)) (S : List mV) (M : Mm) (Q : mQ) : vc (n + 1) d 145 218 L S M Q = (gI L 3 fun x => vc n d 145 219 L (.inl x :: S) M Q) := nr rfl
set_option maxRecDepth 100000 in
theorem v145_219 (n d : Nat) (L : List (Option mL)) (S : List mV) (M : Mm) (Q : mQ) : vc (n + 1) d 145 219 L S M Q = (pI S fun i S => pA S fun a S => shA M a fun t k => (t = 40 ∨ t = 41) ∧ inB i k ∧ vc n d 145 220 L (.inl (M.it a i.toNatClampNeg) :: S) M Q) := nr rfl
set_option maxRecDepth 100000 in
theorem v145_220 (n d : Nat) (L : List (Option mL)) (S : List mV) (M : Mm) (Q : mQ) : vc (n + 1) d 145 220 L S M Q = (pI S fun y S => pI S fun x S => (y ≤ x → vc n d 145 251 L S M Q) ∧ (¬ (y ≤ x) → vc n d 145 223 L S M Q)) := nr rfl
set_option maxRecDepth 100000 in
theorem v145_223 (n d : Nat) (L : List (Option mL)) (S : List mV) (M : Mm) (Q : mQ) : vc (n + 1) d 145 223 L S M Q = (gR L 0 fun x => vc n d 145 224 L (.inr (.inr x) :: S) M Q) := nr rfl
set_option maxRecDepth 100000 in
theorem v145_224 (n d : Nat) (L : List (Option mL)) (S : List mV) (M : Mm) (Q : mQ) : vc (n + 1) d 145 224 L S M Q = (pA S fun a S => shO M a 10 (rrf M a 30 fun r => vc n d 145 227 L (.inr (.inr r) :: S) M Q)) := nr rfl
set_option maxRecDepth 100000 in
theorem v145_227 (n d : Nat) (L : List (Option mL)) (S : List mV) (M : Mm) (Q : mQ) : vc (n + 1) d 145 227 L S M Q = (vc n d 145 229 L (.inl 6 :: S) M Q) := nr rfl
set_option maxRecDepth 100000 in
theorem v145_229 (n d : Nat) (L : List (Option mL)) (S : List mV) (M : Mm) (Q : mQ) : vc (n + 1) d 145 229 L S M Q = (gI L 4 fun x => vc n d 145 231 L (.inl x :: S) M Q) := nr rfl
set_option maxRecDepth 100000 in
theorem v145_231 (n d : Nat) (L : List (Option mL)) (S : List mV) (M : Mm) (Q : mQ) : vc (n + 1) d 145 231 L S M Q = (pI S fun y S => pI S fun x S => vc n d 145 232 L (.inl (x + y) :: S) M Q) := nr rfl
set_option maxRecDepth 100000 in
theorem v145_232 (n d : Nat) (L : List (Option mL)) (S : List mV) (M : Mm) (Q : mQ) : vc (n + 1) d 145 232 L S M Q = (gR L 0 fun x => vc n d 145 233 L (.inr (.inr x) :: S) M Q) := nr rfl
set_option maxRecDepth 100000 in
theorem v145_233 (n d : Nat) (L : List (Option mL)) (S : List mV) (M : Mm) (Q : mQ) : vc (n + 1) d 145 233 L S M Q = (pA S fun a S => shO M a 10 (rrf M a 31 fun r => vc n d 145 236 L (.inr (.inr r) :: S) M Q)) := nr rfl
set_option maxRecDepth 100000 in
theorem v145_236 (n d : Nat) (L : List (Option mL)) (S : List mV) (M : Mm) (Q : mQ) : vc (n + 1) d 145 236 L S M Q = (vc n d 145 238 L (.inl 100 :: S) M Q) := nr rfl
set_option maxRecDepth 100000 in
theorem v145_238 (n d : Nat) (L : List (Option mL)) (S : List mV) (M : Mm) (Q : mQ) : vc (n + 1) d 145 238 L S M Q = (gI L 3 fun x => vc n d 145 239 L (.inl x :: S) M Q) := nr rfl
set_option maxRecDepth 100000 in
theorem v145_239 (n d : Nat) (L : List (Option mL)) (S : List mV) (M : Mm) (Q : mQ) : vc (n + 1) d 145 239 L S M Q = (pI S fun y S => pI S fun x S => vc n d 145 240 L (.inl (x * y) :: S) M Q) := nr rfl
set_option maxRecDepth 100000 in
theorem v145_240 (n d : Nat) (L : List (Option mL)) (S : List mV) (M : Mm) (Q : mQ) : vc (n + 1) d 145 240 L S M Q = (gI L 4 fun x => vc n d 145 242 L (.inl x :: S) M Q) := nr rfl
set_option maxRecDepth 100000 in
theorem v145_242 (n d : Nat) (L : List (Option mL)) (S : List mV) (M : Mm) (Q : mQ) : vc (n + 1) d 145 242 L S M Q = (pI S fun y S => pI S fun x S => vc n d 145 243 L (.inl (x + y) :: S) M Q) := nr rfl
set_option maxRecDepth 100000 in
theorem v145_243 (n d : Nat) (L : List (Option mL)) (S : List mV) (M : Mm) (Q : mQ) : vc (n + 1) d 145 243 L S M Q = (pI S fun i S => pA S fun a S => shA M a fun t k => (t = 42 ∨ t = 44) ∧ inB i k ∧ vc n d 145 244 L (.inl (M.it a i.toNatClampNeg) :: S) M Q) := nr rfl
set_option maxRecDepth 100000 in
theorem v145_244 (n d : Nat) (L : List (Option mL)) (S : List mV) (M : Mm) (Q : mQ) : vc (n + 1) d 145 244 L S M Q = (pI S fun x S => pI S fun i S => pA S fun a S => shA M a fun t k => (t = 42 ∨ t = 44) ∧ inB i k ∧ vc n d 145 245 L S (M.si a i.toNatClampNeg (bnar t x)) Q) := nr rfl
set_option maxRecDepth 100000 in
theorem v145_245 (n d : Nat) (L : List (Option mL)) (S : List mV) (M : Mm) (Q : mQ) : vc (n + 1) d 145 245 L S M Q = (gI L 4 fun x => sL L 4 (some (.inl (x + 1))) fun L => vc n d 145 248 L S M Q) := nr rfl
set_option maxRecDepth 100000 in
theorem v145_248 (n d : Nat) (L : List (Option mL)) (S : List mV) (M : Mm) (Q : mQ) : vc (n + 1) d 145 248 L S M Q = (X d 145 212 L S M Q) := nr rfl
set_option maxRecDepth 100000 in
theorem v145_251 (n d : Nat) (L : List (Option mL)) (S : List mV) (M : Mm) (Q : mQ) : vc (n + 1) d 145 251 L S M Q = (gR L 0 fun x => vc n d 145 252 L (.inr (.inr x) :: S) M Q) := nr rfl
set_option maxRecDepth 100000 in
theorem v145_252 (n d : Nat) (L : List (Option mL)) (S : List mV) (M : Mm) (Q : mQ) : vc (n + 1) d 145 252 L S M Q = (vc n d 145 253 L (.inl 1 :: S) M Q) := nr rfl
set_option maxRecDepth 100000 in
theorem v145_253 (n d : Nat) (L : List (Option mL)) (S : List mV) (M : Mm) (Q : mQ) : vc (n + 1) d 145 253 L S M Q = (gR L 0 fun x => vc n d 145 254 L (.inr (.inr x) :: S) M Q) := nr rfl
set_option maxRecDepth 100000 in
theorem v145_254 (n d : Nat) (L : List (Option mL)) (S : List mV) (M : Mm) (Q : mQ) : vc (n + 1) d 145 254 L S M Q = (pA S fun a S => shO M a 10 (rrf M a 32 fun r => vc n d 145 257 L (.inr (.inr r) :: S) M Q)) := nr rfl
set_option maxRecDepth 100000 in
theorem v145_257 (n d : Nat) (L : List (Option mL)) (S : List mV) (M : Mm) (Q : mQ) : vc (n + 1) d 145 257 L S M Q = (gI L 3 fun x => vc n d 145 258 L (.inl x :: S) M Q) := nr rfl
set_option maxRecDepth 100000 in
theorem v145_258 (n d : Nat) (L : List (Option mL)) (S : List mV) (M : Mm) (Q : mQ) : vc (n + 1) d 145 258 L S M Q = (pI S fun i S => pA S fun a S => shA M a fun t k => (t = 40 ∨ t = 41) ∧ inB i k ∧ vc n d 145 259 L (.inl (M.it a i.toNatClampNeg) :: S) M Q) := nr rfl
set_option maxRecDepth 100000 in
theorem v145_259 (n d : Nat) (L : List (Option mL)) (S : List mV) (M : Mm) (Q : mQ) : vc (n + 1) d 145 259 L S M Q = (gR L 0 fun x => vc n d 145 260 L (.inr (.inr x) :: S) M Q) := nr rfl
set_option maxRecDepth 100000 in
theorem v145_260 (n d : Nat) (L : List (Option mL)) (S : List mV) (M : Mm) (Q : mQ) : vc (n + 1) d 145 260 L S M Q = (pA S fun a S => shO M a 10 (rrf M a 33 fun r => vc n d 145 263 L (.inr (.inr r) :: S) M Q)) := nr rfl
set_option maxRecDepth 100000 in
theorem v145_263 (n d : Nat) (L : List (Option mL)) (S : List mV) (M : Mm) (Q : mQ) : vc (n + 1) d 145 263 L S M Q = (gI L 3 fun x => vc n d 145 264 L (.inl x :: S) M Q) := nr rfl
set_option maxRecDepth 100000 in
theorem v145_264 (n d : Nat) (L : List (Option mL)) (S : List mV) (M : Mm) (Q : mQ) : vc (n + 1) d 145 264 L S M Q = (pI S fun i S => pA S fun a S => shA M a fun t k => (t = 40 ∨ t = 41) ∧ inB i k ∧ vc n d 145 265 L (.inl (M.it a i.toNatClampNeg) :: S) M Q) := nr rfl
set_option maxRecDepth 100000 in
theorem v145_265 (n d : Nat) (L : List (Option mL)) (S : List mV) (M : Mm) (Q : mQ) : vc (n + 1) d 145 265 L S M Q = (vc n d 145 266 L (.inl 1 :: S) M Q) := nr rfl
set_option maxRecDepth 100000 in
theorem v145_266 (n d : Nat) (L : List (Option mL)) (S : List mV) (M : Mm) (Q : mQ) : vc (n + 1) d 145 266 L S M Q = (pAs 4 S fun as S => pA S fun a S => shO M a 10 (stk S ≤ 8 ∧ XC d 121 (.inr (some a) :: as) M (fun r M => ∃ x : Int32, r = some (.inl x) ∧ X d 145 269 L (.inl x :: S) M Q))) := nr rfl
set_option maxRecDepth 100000 in
theorem v145_269 (n d : Nat) (L : List (Option mL)) (S : List mV) (M : Mm) (Q : mQ) : vc (n + 1) d 145 269 L S M Q = (pI S fun x S => sL L 4 (some (.inl x)) fun L => vc n d 145 271 L S M Q) := nr rfl
set_option maxRecDepth 100000 in
theorem v145_271 (n d : Nat) (L : List (Option mL)) (S : List mV) (M : Mm) (Q : mQ) : vc (n + 1) d 145 271 L S M Q = (gI L 4 fun x => vc n d 145 273 L (.inl x :: S) M Q) := nr rfl
set_option maxRecDepth 100000 in
theorem v145_273 (n d : Nat) (L : List (Option mL)) (S : List mV) (M : Mm) (Q : mQ) : vc (n + 1) d 145 273 L S M Q = (vc n d 145 274 L (.inl (-1) :: S) M Q) := nr rfl
set_option maxRecDepth 100000 in
theorem v145_274 (n d : Nat) (L : List (Option mL)) (S : List mV) (M : Mm) (Q : mQ) : vc (n + 1) d 145 274 L S M Q = (pI S fun y S => pI S fun x S => (¬ x = y → vc n d 145 284 L S M Q) ∧ (¬ (¬ x = y) → vc n d 145 277 L S M Q)) := nr rfl
set_option maxRecDepth 100000 in
theorem v145_277 (n d : Nat) (L : List (Option mL)) (S : List mV) (M : Mm) (Q : mQ) : vc (n + 1) d 145 277 L S M Q = (gR L 0 fun x => vc n d 145 278 L (.inr (.inr x) :: S) M Q) := nr rfl
set_option maxRecDepth 100000 in
theorem v145_278 (n d : Nat) (L : List (Option mL)) (S : List mV) (M : Mm) (Q : mQ) : vc (n + 1) d 145 278 L S M Q = (vc n d 145 280 L (.inl (-2) :: S) M Q) := nr rfl
set_option maxRecDepth 100000 in
theorem v145_280 (n d : Nat) (L : List (Option mL)) (S : List mV) (M : Mm) (Q : mQ) : vc (n + 1) d 145 280 L S M Q = (pAs 1 S fun as S => pA S fun a S => shO M a 10 (stk S ≤ 8 ∧ XC d 127 (.inr (some a) :: as) M (fun r M => ∃ x : Int32, r = some (.inl x) ∧ X d 145 283 L (.inl x :: S) M Q))) := nr rfl
set_option maxRecDepth 100000 in
theorem v145_283 (n d : Nat) (L : List (Option mL)) (S : List mV) (M : Mm) (Q : mQ) : vc (n + 1) d 145 283 L S M Q = (pI S fun x S => S = [] ∧ (0 = 0 ∨ x = 0 ∨ x = 1) ∧ Q (some (.inl x)) M) := nr rfl
set_option maxRecDepth 100000 in
theorem v145_284 (n d : Nat) (L : List (Option mL)) (S : List mV) (M : Mm) (Q : mQ) : vc (n + 1) d 145 284 L S M Q = (gR L 0 fun x => vc n d 145 285 L (.inr (.inr x) :: S) M Q) := nr rfl
set_option maxRecDepth 100000 in
theorem v145_285 (n d : Nat) (L : List (Option mL)) (S : List mV) (M : Mm) (Q : mQ) : vc (n + 1) d 145 285 L S M Q = (pA S fun a S => shO M a 10 (rrf M a 17 fun r => vc n d 145 288 L (.inr (.inr r) :: S) M Q)) := nr rfl
set_option maxRecDepth 100000 in
theorem v145_288 (n d : Nat) (L : List (Option mL)) (S : List mV) (M : Mm) (Q : mQ) : vc (n + 1) d 145 288 L S M Q = (gR L 0 fun x => vc n d 145 289 L (.inr (.inr x) :: S) M Q) := nr rfl
set_option maxRecDepth 100000 in
theorem v145_289 (n d : Nat) (L : List (Option mL)) (S : List mV) (M : Mm) (Q : mQ) : vc (n + 1) d 145 289 L S M Q = (pA S fun a S => shO M a 10 (rrf M a 32 fun r => vc n d 145 292 L (.inr (.inr r) :: S) M Q)) := nr rfl
set_option maxRecDepth 100000 in
theorem v145_292 (n d : Nat) (L : List (Option mL)) (S : List mV) (M : Mm) (Q : mQ) : vc (n + 1) d 145 292 L S M Q = (gI L 3 fun x => vc n d 145 293 L (.inl x :: S) M Q) := nr rfl
set_option maxRecDepth 100000 in
theorem v145_293 (n d : Nat) (L : List (Option mL)) (S : List mV) (M : Mm) (Q : mQ) : vc (n + 1) d 145 293 L S M Q = (pI S fun i S => pA S fun a S => shA M a fun t k => (t = 40 ∨ t = 41) ∧ inB i k ∧ vc n d 145 294 L (.inl (M.it a i.toNatClampNeg) :: S) M Q) := nr rfl
set_option maxRecDepth 100000 in
theorem v145_294 (n d : Nat) (L : List (Option mL)) (S : List mV) (M : Mm) (Q : mQ) : vc (n + 1) d 145 294 L S M Q = (gI L 4 fun x => vc n d 145 296 L (.inl x :: S) M Q) := nr rfl
set_option maxRecDepth 100000 in
theorem v145_296 (n d : Nat) (L : List (Option mL)) (S : List mV) (M : Mm) (Q : mQ) : vc (n + 1) d 145 296 L S M Q = (pI S fun x S => pI S fun i S => pA S fun a S => shA M a fun t k => t = 41 ∧ inB i k ∧ vc n d 145 297 L S (M.si a i.toNatClampNeg x) Q) := nr rfl
set_option maxRecDepth 100000 in
theorem v145_297 (n d : Nat) (L : List (Option mL)) (S : List mV) (M : Mm) (Q : mQ) : vc (n + 1) d 145 297 L S M Q = (gI L 3 fun x => sL L 3 (some (.inl (x + 1))) fun L => vc n d 145 300 L S M Q) := nr rfl
set_option maxRecDepth 100000 in
theorem v145_300 (n d : Nat) (L : List (Option mL)) (S : List mV) (M : Mm) (Q : mQ) : vc (n + 1) d 145 300 L S M Q = (X d 145 201 L S M Q) := nr rfl
set_option maxRecDepth 100000 in
theorem v145_303 (n d : Nat) (L : List (Option mL)) (S : List mV) (M : Mm) (Q : mQ) : vc (n + 1) d 145 303 L S M Q = (gR L 0 fun x => vc n d 145 304 L (.inr (.inr x) :: S) M Q) := nr rfl
set_option maxRecDepth 100000 in
theorem v145_304 (n d : Nat) (L : List (Option mL)) (S : List mV) (M : Mm) (Q : mQ) : vc (n + 1) d 145 304 L S M Q = (pAs 0 S fun as S => pA S fun a S => shO M a 10 (stk S ≤ 8 ∧ XC d 140 (.inr (some a) :: as) M (fun r M => ∃ x : Int32, r = some (.inl x) ∧ X d 145 307 L (.inl x :: S) M Q))) := nr rfl
set_option maxRecDepth 100000 in
theorem v145_307 (n d : Nat) (L : List (Option mL)) (S : List mV) (M : Mm) (Q : mQ) : vc (n + 1) d 145 307 L S M Q = (pI S fun x S => (0 < x → X d 145 314 L S M Q) ∧ (¬ (0 < x) → vc n d 145 310 L S M Q)) := nr rfl
set_option maxRecDepth 100000 in
theorem v145_310 (n d : Nat) (L : List (Option mL)) (S : List mV) (M : Mm) (Q : mQ) : vc (n + 1) d 145 310 L S M Q = (gI L 2 fun x => vc n d 145 311 L (.inl x :: S) M Q) := nr rfl
set_option maxRecDepth 100000 in
theorem v145_311 (n d : Nat) (L : List (Option mL)) (S : List mV) (M : Mm) (Q : mQ) : vc (n + 1) d 145 311 L S M Q = (pI S fun x S => (x = 0 → vc n d 145 318 L S M Q) ∧ (¬ (x = 0) → X d 145 314 L S M Q)) := nr rfl
set_option maxRecDepth 100000 in
theorem v145_314 (n d : Nat) (L : List (Option mL)) (S : List mV) (M : Mm) (Q : mQ) : vc (n + 1) d 145 314 L S M Q = (vc n d 145 315 L (.inl 1 :: S) M Q) := nr rfl
set_option maxRecDepth 100000 in
theorem v145_315 (n d : Nat) (L : List (Option mL)) (S : List mV) (M : Mm) (Q : mQ) : vc (n + 1) d 145 315 L S M Q = (X d 145 319 L S M Q) := nr rfl
set_option maxRecDepth 100000 in
theorem v145_318 (n d : Nat) (L : List (Option mL)) (S : List mV) (M : Mm) (Q : mQ) : vc (n + 1) d 145 318 L S M Q = (X d 145 319 L (.inl 0 :: S) M Q) := nr rfl
set_option maxRecDepth 100000 in
theorem v145_319 (n d : Nat) (L : List (Option mL)) (S : List mV) (M : Mm) (Q : mQ) : vc (n + 1) d 145 319 L S M Q = (pI S fun x S => sL L 3 (some (.inl x)) fun L => vc n d 145 320 L S M Q) := nr rfl
set_option maxRecDepth 100000 in
theorem v145_320 (n d : Nat) (L : List (Option mL)) (S : List mV) (M : Mm) (Q : mQ) : vc (n + 1) d 145 320 L S M Q = (gR L 0 fun x => vc n d 145 321 L (.inr (.inr x) :: S) M Q) := nr rfl
set_option maxRecDepth 100000 in
theorem v145_321 (n d : Nat) (L : List (Option mL)) (S : List mV) (M : Mm) (Q : mQ) : vc (n + 1) d 145 321 L S M Q = (gR L 0 fun x => vc n d 145 322 L (.inr (.inr x) :: S) M Q) := nr rfl
set_option maxRecDepth 100000 in
theorem v145_322 (n d : Nat) (L : List (Option mL)) (S : List mV) (M : Mm) (Q : mQ) : vc (n + 1) d 145 322 L S M Q = (pA S fun a S => shO M a 10 (vc n d 145 325 L (.inl (M.it a 14) :: S) M Q)) := nr rfl
set_option maxRecDepth 100000 in
theorem v145_325 (n d : Nat) (L : List (Option mL)) (S : List mV) (M : Mm) (Q : mQ) : vc (n + 1) d 145 325 L S M Q = (pI S fun x S => pA S fun a S => shO M a 10 (vc n d 145 328 L S (M.si a 38 x) Q)) := nr rfl
set_option maxRecDepth 100000 in
theorem v145_328 (n d : Nat) (L : List (Option mL)) (S : List mV) (M : Mm) (Q : mQ) : vc (n + 1) d 145 328 L S M Q = (gR L 0 fun x => vc n d 145 329 L (.inr (.inr x) :: S) M Q) := nr rfl
set_option maxRecDepth 100000 in
theorem v145_329 (n d : Nat) (L : List (Option mL)) (S : List mV) (M : Mm) (Q : mQ) : vc (n + 1) d 145 329 L S M Q = (gR L 0 fun x => vc n d 145 330 L (.inr (.inr x) :: S) M Q) := nr rfl
set_option maxRecDepth 100000 in
theorem v145_330 (n d : Nat) (L : List (Option mL)) (S : List mV) (M : Mm) (Q : mQ) : vc (n + 1) d 145 330 L S M Q = (pA S fun a S => shO M a 10 (vc n d 145 333 L (.inl (M.it a 14) :: S) M Q)) := nr rfl
set_option maxRecDepth 100000 in
theorem v145_333 (n d : Nat) (L : List (Option mL)) (S : List mV) (M : Mm) (Q : mQ) : vc (n + 1) d 145 333 L S M Q = (pI S fun x S => pA S fun a S => shO M a 10 (vc n d 145 336 L S (M.si a 39 x) Q)) := nr rfl
set_option maxRecDepth 100000 in
theorem v145_336 (n d : Nat) (L : List (Option mL)) (S : List mV) (M : Mm) (Q : mQ) : vc (n + 1) d 145 336 L S M Q = (gI L 3 fun x => vc n d 145 337 L (.inl x :: S) M Q) := nr rfl
set_option maxRecDepth 100000 in
theorem v145_337 (n d : Nat) (L : List (Option mL)) (S : List mV) (M : Mm) (Q : mQ) : vc (n + 1) d 145 337 L S M Q = (pI S fun x S => (x = 0 → vc n d 145 348 L S M Q) ∧ (¬ (x = 0) → vc n d 145 340 L S M Q)) := nr rfl
set_option maxRecDepth 100000 in
theorem v145_340 (n d : Nat) (L : List (Option mL)) (S : List mV) (M : Mm) (Q : mQ) : vc (n + 1) d 145 340 L S M Q = (gR L 0 fun x => vc n d 145 341 L (.inr (.inr x) :: S) M Q) := nr rfl
set_option maxRecDepth 100000 in
theorem v145_341 (n d : Nat) (L : List (Option mL)) (S : List mV) (M : Mm) (Q : mQ) : vc (n + 1) d 145 341 L S M Q = (vc n d 145 342 L (.inl 1 :: S) M Q) := nr rfl
set_option maxRecDepth 100000 in
theorem v145_342 (n d : Nat) (L : List (Option mL)) (S : List mV) (M : Mm) (Q : mQ) : vc (n + 1) d 145 342 L S M Q = (pAs 1 S fun as S => pA S fun a S => shO M a 10 (stk S ≤ 8 ∧ XC d 141 (.inr (some a) :: as) M (fun r M => ∃ x : Int32, r = some (.inl x) ∧ X d 145 345 L (.inl x :: S) M Q))) := nr rfl
set_option maxRecDepth 100000 in
theorem v145_345 (n d : Nat) (L : List (Option mL)) (S : List mV) (M : Mm) (Q : mQ) : vc (n + 1) d 145 345 L S M Q = (X d 145 349 L S M Q) := nr rfl
set_option maxRecDepth 100000 in
theorem v145_348 (n d : Nat) (L : List (Option mL)) (S : List mV) (M : Mm) (Q : mQ) : vc (n + 1) d 145 348 L S M Q = (X d 145 349 L (.inl 0 :: S) M Q) := nr rfl
set_option maxRecDepth 100000 in
theorem v145_349 (n d : Nat) (L : List (Option mL)) (S : List mV) (M : Mm) (Q : mQ) : vc (n + 1) d 145 349 L S M Q = (pI S fun x S => sL L 4 (some (.inl x)) fun L => vc n d 145 351 L S M Q) := nr rfl
set_option maxRecDepth 100000 in
theorem v145_351 (n d : Nat) (L : List (Option mL)) (S : List mV) (M : Mm) (Q : mQ) : vc (n + 1) d 145 351 L S M Q = (gI L 4 fun x => vc n d 145 353 L (.inl x :: S) M Q) := nr rfl
set_option maxRecDepth 100000 in
theorem v145_353 (n d : Nat) (L : List (Option mL)) (S : List mV) (M : Mm) (Q : mQ) : vc (n + 1) d 145 353 L S M Q = (vc n d 145 354 L (.inl (-1) :: S) M Q) := nr rfl
set_option maxRecDepth 100000 in
theorem v145_354 (n d : Nat) (L : List (Option mL)) (S : List mV) (M : Mm) (Q : mQ) : vc (n + 1) d 145 354 L S M Q = (pI S fun y S => pI S fun x S => (¬ x = y → vc n d 145 364 L S M Q) ∧ (¬ (¬ x = y) → vc n d 145 357 L S M Q)) := nr rfl
set_option maxRecDepth 100000 in
theorem v145_357 (n d : Nat) (L : List (Option mL)) (S : List mV) (M : Mm) (Q : mQ) : vc (n + 1) d 145 357 L S M Q = (gR L 0 fun x => vc n d 145 358 L (.inr (.inr x) :: S) M Q) := nr rfl
set_option maxRecDepth 100000 in
theorem v145_358 (n d : Nat) (L : List (Option mL)) (S : List mV) (M : Mm) (Q : mQ) : vc (n + 1) d 145 358 L S M Q = (vc n d 145 360 L (.inl (-2) :: S) M Q) := nr rfl
set_option maxRecDepth 100000 in
theorem v145_360 (n d : Nat) (L : List (Option mL)) (S : List mV) (M : Mm) (Q : mQ) : vc (n + 1) d 145 360 L S M Q = (pAs 1 S fun as S => pA S fun a S => shO M a 10 (stk S ≤ 8 ∧ XC d 127 (.inr (some a) :: as) M (fun r M => ∃ x : Int32, r = some (.inl x) ∧ X d 145 363 L (.inl x :: S) M Q))) := nr rfl
set_option maxRecDepth 100000 in
theorem v145_363 (n d : Nat) (L : List (Option mL)) (S : List mV) (M : Mm) (Q : mQ) : vc (n + 1) d 145 363 L S M Q = (pI S fun x S => S = [] ∧ (0 = 0 ∨ x = 0 ∨ x = 1) ∧ Q (some (.inl x)) M) := nr rfl
set_option maxRecDepth 100000 in
theorem v145_364 (n d : Nat) (L : List (Option mL)) (S : List mV) (M : Mm) (Q : mQ) : vc (n + 1) d 145 364 L S M Q = (gR L 0 fun x => vc n d 145 365 L (.inr (.inr x) :: S) M Q) := nr rfl
set_option maxRecDepth 100000 in
theorem v145_365 (n d : Nat) (L : List (Option mL)) (S : List mV) (M : Mm) (Q : mQ) : vc (n + 1) d 145 365 L S M Q = (pA S fun a S => shO M a 10 (vc n d 145 368 L (.inl (M.it a 14) :: S) M Q)) := nr rfl
set_option maxRecDepth 100000 in
theorem v145_368 (n d : Nat) (L : List (Option mL)) (S : List mV) (M : Mm) (Q : mQ) : vc (n + 1) d 145 368 L S M Q = (vc n d 145 369 L (.inl 1 :: S) M Q) := nr rfl
set_option maxRecDepth 100000 in
theorem v145_369 (n d : Nat) (L : List (Option mL)) (S : List mV) (M : Mm) (Q : mQ) : vc (n + 1) d 145 369 L S M Q = (pI S fun y S => pI S fun x S => vc n d 145 370 L (.inl (x + y) :: S) M Q) := nr rfl
set_option maxRecDepth 100000 in
theorem v145_370 (n d : Nat) (L : List (Option mL)) (S : List mV) (M : Mm) (Q : mQ) : vc (n + 1) d 145 370 L S M Q = (vc n d 145 372 L (.inl 120 :: S) M Q) := nr rfl
set_option maxRecDepth 100000 in
theorem v145_372 (n d : Nat) (L : List (Option mL)) (S : List mV) (M : Mm) (Q : mQ) : vc (n + 1) d 145 372 L S M Q = (pI S fun y S => pI S fun x S => (x ≤ y → vc n d 145 382 L S M Q) ∧ (¬ (x ≤ y) → vc n d 145 375 L S M Q)) := nr rfl
set_option maxRecDepth 100000 in
theorem v145_375 (n d : Nat) (L : List (Option mL)) (S : List mV) (M : Mm) (Q : mQ) : vc (n + 1) d 145 375 L S M Q = (gR L 0 fun x => vc n d 145 376 L (.inr (.inr x) :: S) M Q) := nr rfl
set_option maxRecDepth 100000 in
theorem v145_376 (n d : Nat) (L : List (Option mL)) (S : List mV) (M : Mm) (Q : mQ) : vc (n + 1) d 145 376 L S M Q = (vc n d 145 378 L (.inl (-3) :: S) M Q) := nr rfl
set_option maxRecDepth 100000 in
theorem v145_378 (n d : Nat) (L : List (Option mL)) (S : List mV) (M : Mm) (Q : mQ) : vc (n + 1) d 145 378 L S M Q = (pAs 1 S fun as S => pA S fun a S => shO M a 10 (stk S ≤ 8 ∧ XC d 127 (.inr (some a) :: as) M (fun r M => ∃ x : Int32, r = some (.inl x) ∧ X d 145 381 L (.inl x :: S) M Q))) := nr rfl
set_option maxRecDepth 100000 in
theorem v145_381 (n d : Nat) (L : List (Option mL)) (S : List mV) (M : Mm) (Q : mQ) : vc (n + 1) d 145 381 L S M Q = (pI S fun x S => S = [] ∧ (0 = 0 ∨ x = 0 ∨ x = 1) ∧ Q (some (.inl x)) M) := nr rfl
set_option maxRecDepth 100000 in
theorem v145_382 (n d : Nat) (L : List (Option mL)) (S : List mV) (M : Mm) (Q : mQ) : vc (n + 1) d 145 382 L S M Q = (gI L 3 fun x => vc n d 145 383 L (.inl x :: S) M Q) := nr rfl
set_option maxRecDepth 100000 in
theorem v145_383 (n d : Nat) (L : List (Option mL)) (S : List mV) (M : Mm) (Q : mQ) : vc (n + 1) d 145 383 L S M Q = (pI S fun x S => (x = 0 → X d 145 393 L S M Q) ∧ (¬ (x = 0) → vc n d 145 386 L S M Q)) := nr rfl
set_option maxRecDepth 100000 in
theorem v145_386 (n d : Nat) (L : List (Option mL)) (S : List mV) (M : Mm) (Q : mQ) : vc (n + 1) d 145 386 L S M Q = (gR L 0 fun x => vc n d 145 387 L (.inr (.inr x) :: S) M Q) := nr rfl
set_option maxRecDepth 100000 in
theorem v145_387 (n d : Nat) (L : List (Option mL)) (S : List mV) (M : Mm) (Q : mQ) : vc (n + 1) d 145 387 L S M Q = (gI L 4 fun x => vc n d 145 389 L (.inl x :: S) M Q) := nr rfl
set_option maxRecDepth 100000 in
theorem v145_389 (n d : Nat) (L : List (Option mL)) (S : List mV) (M : Mm) (Q : mQ) : vc (n + 1) d 145 389 L S M Q = (vc n d 145 390 L (.inl 1 :: S) M Q) := nr rfl
set_option maxRecDepth 100000 in
theorem v145_390 (n d : Nat) (L : List (Option mL)) (S : List mV) (M : Mm) (Q : mQ) : vc (n + 1) d 145 390 L S M Q = (pAs 2 S fun as S => pA S fun a S => shO M a 10 (stk S ≤ 8 ∧ XC d 143 (.inr (some a) :: as) M (fun r M => r = none ∧ X d 145 393 L S M Q))) := nr rfl
set_option maxRecDepth 100000 in
theorem v145_393 (n d : Nat) (L : List (Option mL)) (S : List mV) (M : Mm) (Q : mQ) : vc (n + 1) d 145 393 L S M Q = (gR L 0 fun x => vc n d 145 394 L (.inr (.inr x) :: S) M Q) := nr rfl
set_option maxRecDepth 100000 in
theorem v145_394 (n d : Nat) (L : List (Option mL)) (S : List mV) (M : Mm) (Q : mQ) : vc (n + 1) d 145 394 L S M Q = (pA S fun a S => shO M a 10 (rrf M a 6 fun r => vc n d 145 397 L (.inr (.inr r) :: S) M Q)) := nr rfl
set_option maxRecDepth 100000 in
theorem v145_397 (n d : Nat) (L : List (Option mL)) (S : List mV) (M : Mm) (Q : mQ) : vc (n + 1) d 145 397 L S M Q = (gI L 1 fun x => vc n d 145 398 L (.inl x :: S) M Q) := nr rfl
set_option maxRecDepth 100000 in
theorem v145_398 (n d : Nat) (L : List (Option mL)) (S : List mV) (M : Mm) (Q : mQ) : vc (n + 1) d 145 398 L S M Q = (vc n d 145 399 L (.inl 0 :: S) M Q) := nr rfl
set_option maxRecDepth 100000 in
theorem v145_399 (n d : Nat) (L : List (Option mL)) (S : List mV) (M : Mm) (Q : mQ) : vc (n + 1) d 145 399 L S M Q = (pI S fun x S => pI S fun i S => pA S fun a S => shA M a fun t k => t = 41 ∧ inB i k ∧ vc n d 145 400 L S (M.si a i.toNatClampNeg x) Q) := nr rfl
set_option maxRecDepth 100000 in
theorem v145_400 (n d : Nat) (L : List (Option mL)) (S : List mV) (M : Mm) (Q : mQ) : vc (n + 1) d 145 400 L S M Q = (gR L 0 fun x => vc n d 145 401 L (.inr (.inr x) :: S) M Q) := nr rfl
set_option maxRecDepth 100000 in
theorem v145_401 (n d : Nat) (L : List (Option mL)) (S : List mV) (M : Mm) (Q : mQ) : vc (n + 1) d 145 401 L S M Q = (pAs 0 S fun as S => pA S fun a S => shO M a 10 (stk S ≤ 8 ∧ XC d 144 (.inr (some a) :: as) M (fun r M => ∃ x : Int32, r = some (.inl x) ∧ X d 145 404 L (.inl x :: S) M Q))) := nr rfl
set_option maxRecDepth 100000 in
theorem v145_404 (n d : Nat) (L : List (Option mL)) (S : List mV) (M : Mm) (Q : mQ) : vc (n + 1) d 145 404 L S M Q = (pI S fun x S => sL L 5 (some (.inl x)) fun L => vc n d 145 406 L S M Q) := nr rfl
set_option maxRecDepth 100000 in
theorem v145_406 (n d : Nat) (L : List (Option mL)) (S : List mV) (M : Mm) (Q : mQ) : vc (n + 1) d 145 406 L S M Q = (gR L 0 fun x => vc n d 145 407 L (.inr (.inr x) :: S) M Q) := nr rfl
set_option maxRecDepth 100000 in
theorem v145_407 (n d : Nat) (L : List (Option mL)) (S : List mV) (M : Mm) (Q : mQ) : vc (n + 1) d 145 407 L S M Q = (pA S fun a S => shO M a 10 (rrf M a 7 fun r => vc n d 145 410 L (.inr (.inr r) :: S) M Q)) := nr rfl
set_option maxRecDepth 100000 in
theorem v145_410 (n d : Nat) (L : List (Option mL)) (S : List mV) (M : Mm) (Q : mQ) : vc (n + 1) d 145 410 L S M Q = (gI L 1 fun x => vc n d 145 411 L (.inl x :: S) M Q) := nr rfl
set_option maxRecDepth 100000 in
theorem v145_411 (n d : Nat) (L : List (Option mL)) (S : List mV) (M : Mm) (Q : mQ) : vc (n + 1) d 145 411 L S M Q = (gR L 0 fun x => vc n d 145 412 L (.inr (.inr x) :: S) M Q) := nr rfl
set_option maxRecDepth 100000 in
theorem v145_412 (n d : Nat) (L : List (Option mL)) (S : List mV) (M : Mm) (Q : mQ) : vc (n + 1) d 145 412 L S M Q = (pA S fun a S => shO M a 10 (vc n d 145 415 L (.inl (M.it a 10) :: S) M Q)) := nr rfl
set_option maxRecDepth 100000 in
theorem v145_415 (n d : Nat) (L : List (Option mL)) (S : List mV) (M : Mm) (Q : mQ) : vc (n + 1) d 145 415 L S M Q = (pI S fun x S => pI S fun i S => pA S fun a S => shA M a fun t k => t = 41 ∧ inB i k ∧ vc n d 145 416 L S (M.si a i.toNatClampNeg x) Q) := nr rfl
set_option maxRecDepth 100000 in
theorem v145_416 (n d : Nat) (L : List (Option mL)) (S : List mV) (M : Mm) (Q : mQ) : vc (n + 1) d 145 416 L S M Q = (vc n d 145 417 L (.inl 0 :: S) M Q) := nr rfl
set_option maxRecDepth 100000 in
theorem v145_417 (n d : Nat) (L : List (Option mL)) (S : List mV) (M : Mm) (Q : mQ) : vc (n + 1) d 145 417 L S M Q = (pI S fun x S => sL L 6 (some (.inl x)) fun L => X d 145 419 L S M Q) := nr rfl
set_option maxRecDepth 100000 in
theorem v145_419 (n d : Nat) (L : List (Option mL)) (S : List mV) (M : Mm) (Q : mQ) : vc (n + 1) d 145 419 L S M Q = (gI L 6 fun x => vc n d 145 421 L (.inl x :: S) M Q) := nr rfl
set_option maxRecDepth 100000 in
theorem v145_421 (n d : Nat) (L : List (Option mL)) (S : List mV) (M : Mm) (Q : mQ) : vc (n + 1) d 145 421 L S M Q = (gI L 5 fun x => vc n d 145 423 L (.inl x :: S) M Q) := nr rfl
set_option maxRecDepth 100000 in
theorem v145_423 (n d : Nat) (L : List (Option mL)) (S : List mV) (M : Mm) (Q : mQ) : vc (n + 1) d 145 423 L S M Q = (pI S fun y S => pI S fun x S => (y ≤ x → vc n d 145 472 L S M Q) ∧ (¬ (y ≤ x) → vc n d 145 426 L S M Q)) := nr rfl
set_option maxRecDepth 100000 in
theorem v145_426 (n d : Nat) (L : List (Option mL)) (S : List mV) (M : Mm) (Q : mQ) : vc (n + 1) d 145 426 L S M Q = (gR L 0 fun x => vc n d 145 427 L (.inr (.inr x) :: S) M Q) := nr rfl
set_option maxRecDepth 100000 in
theorem v145_427 (n d : Nat) (L : List (Option mL)) (S : List mV) (M : Mm) (Q : mQ) : vc (n + 1) d 145 427 L S M Q = (pA S fun a S => shO M a 10 (rrf M a 20 fun r => vc n d 145 430 L (.inr (.inr r) :: S) M Q)) := nr rfl
set_option maxRecDepth 100000 in
theorem v145_430 (n d : Nat) (L : List (Option mL)) (S : List mV) (M : Mm) (Q : mQ) : vc (n + 1) d 145 430 L S M Q = (gI L 6 fun x => vc n d 145 432 L (.inl x :: S) M Q) := nr rfl
set_option maxRecDepth 100000 in
theorem v145_432 (n d : Nat) (L : List (Option mL)) (S : List mV) (M : Mm) (Q : mQ) : vc (n + 1) d 145 432 L S M Q = (pI S fun i S => pA S fun a S => shA M a fun t k => (t = 40 ∨ t = 41) ∧ inB i k ∧ vc n d 145 433 L (.inl (M.it a i.toNatClampNeg) :: S) M Q) := nr rfl
set_option maxRecDepth 100000 in
theorem v145_433 (n d : Nat) (L : List (Option mL)) (S : List mV) (M : Mm) (Q : mQ) : vc (n + 1) d 145 433 L S M Q = (vc n d 145 436 L (.inl 128 :: S) M Q) := nr rfl
set_option maxRecDepth 100000 in
theorem v145_436 (n d : Nat) (L : List (Option mL)) (S : List mV) (M : Mm) (Q : mQ) : vc (n + 1) d 145 436 L S M Q = (pI S fun y S => pI S fun x S => (y ≤ x → X d 145 466 L S M Q) ∧ (¬ (y ≤ x) → vc n d 145 439 L S M Q)) := nr rfl
set_option maxRecDepth 100000 in
theorem v145_439 (n d : Nat) (L : List (Option mL)) (S : List mV) (M : Mm) (Q : mQ) : vc (n + 1) d 145 439 L S M Q = (gR L 0 fun x => vc n d 145 440 L (.inr (.inr x) :: S) M Q) := nr rfl
set_option maxRecDepth 100000 in
theorem v145_440 (n d : Nat) (L : List (Option mL)) (S : List mV) (M : Mm) (Q : mQ) : vc (n + 1) d 145 440 L S M Q = (pA S fun a S => shO M a 10 (rrf M a 20 fun r => vc n d 145 443 L (.inr (.inr r) :: S) M Q)) := nr rfl
set_option maxRecDepth 100000 in
theorem v145_443 (n d : Nat) (L : List (Option mL)) (S : List mV) (M : Mm) (Q : mQ) : vc (n + 1) d 145 443 L S M Q = (gI L 6 fun x => vc n d 145 445 L (.inl x :: S) M Q) := nr rfl
set_option maxRecDepth 100000 in
theorem v145_445 (n d : Nat) (L : List (Option mL)) (S : List mV) (M : Mm) (Q : mQ) : vc (n + 1) d 145 445 L S M Q = (pI S fun i S => pA S fun a S => shA M a fun t k => (t = 40 ∨ t = 41) ∧ inB i k ∧ vc n d 145 446 L (.inl (M.it a i.toNatClampNeg) :: S) M Q) := nr rfl
set_option maxRecDepth 100000 in
theorem v145_446 (n d : Nat) (L : List (Option mL)) (S : List mV) (M : Mm) (Q : mQ) : vc (n + 1) d 145 446 L S M Q = (vc n d 145 448 L (.inl 16 :: S) M Q) := nr rfl
set_option maxRecDepth 100000 in
theorem v145_448 (n d : Nat) (L : List (Option mL)) (S : List mV) (M : Mm) (Q : mQ) : vc (n + 1) d 145 448 L S M Q = (pI S fun y S => pI S fun x S => ¬ y = 0 ∧ vc n d 145 449 L (.inl (x / y) :: S) M Q) := nr rfl
set_option maxRecDepth 100000 in
theorem v145_449 (n d : Nat) (L : List (Option mL)) (S : List mV) (M : Mm) (Q : mQ) : vc (n + 1) d 145 449 L S M Q = (gI L 1 fun x => vc n d 145 450 L (.inl x :: S) M Q) := nr rfl
set_option maxRecDepth 100000 in
theorem v145_450 (n d : Nat) (L : List (Option mL)) (S : List mV) (M : Mm) (Q : mQ) : vc (n + 1) d 145 450 L S M Q = (pI S fun y S => pI S fun x S => (¬ x = y → X d 145 466 L S M Q) ∧ (¬ (¬ x = y) → vc n d 145 453 L S M Q)) := nr rfl
set_option maxRecDepth 100000 in
theorem v145_453 (n d : Nat) (L : List (Option mL)) (S : List mV) (M : Mm) (Q : mQ) : vc (n + 1) d 145 453 L S M Q = (gR L 0 fun x => vc n d 145 454 L (.inr (.inr x) :: S) M Q) := nr rfl
set_option maxRecDepth 100000 in
theorem v145_454 (n d : Nat) (L : List (Option mL)) (S : List mV) (M : Mm) (Q : mQ) : vc (n + 1) d 145 454 L S M Q = (gI L 5 fun x => vc n d 145 456 L (.inl x :: S) M Q) := nr rfl
set_option maxRecDepth 100000 in
theorem v145_456 (n d : Nat) (L : List (Option mL)) (S : List mV) (M : Mm) (Q : mQ) : vc (n + 1) d 145 456 L S M Q = (gR L 0 fun x => vc n d 145 457 L (.inr (.inr x) :: S) M Q) := nr rfl
set_option maxRecDepth 100000 in
theorem v145_457 (n d : Nat) (L : List (Option mL)) (S : List mV) (M : Mm) (Q : mQ) : vc (n + 1) d 145 457 L S M Q = (pA S fun a S => shO M a 10 (rrf M a 19 fun r => vc n d 145 460 L (.inr (.inr r) :: S) M Q)) := nr rfl
set_option maxRecDepth 100000 in
theorem v145_460 (n d : Nat) (L : List (Option mL)) (S : List mV) (M : Mm) (Q : mQ) : vc (n + 1) d 145 460 L S M Q = (gI L 6 fun x => vc n d 145 462 L (.inl x :: S) M Q) := nr rfl
set_option maxRecDepth 100000 in
theorem v145_462 (n d : Nat) (L : List (Option mL)) (S : List mV) (M : Mm) (Q : mQ) : vc (n + 1) d 145 462 L S M Q = (pI S fun i S => pA S fun a S => shA M a fun t k => (t = 40 ∨ t = 41) ∧ inB i k ∧ vc n d 145 463 L (.inl (M.it a i.toNatClampNeg) :: S) M Q) := nr rfl
set_option maxRecDepth 100000 in
theorem v145_463 (n d : Nat) (L : List (Option mL)) (S : List mV) (M : Mm) (Q : mQ) : vc (n + 1) d 145 463 L S M Q = (pAs 2 S fun as S => pA S fun a S => shO M a 10 (stk S ≤ 8 ∧ XC d 126 (.inr (some a) :: as) M (fun r M => r = none ∧ X d 145 466 L S M Q))) := nr rfl
set_option maxRecDepth 100000 in
theorem v145_466 (n d : Nat) (L : List (Option mL)) (S : List mV) (M : Mm) (Q : mQ) : vc (n + 1) d 145 466 L S M Q = (gI L 6 fun x => sL L 6 (some (.inl (x + 1))) fun L => vc n d 145 469 L S M Q) := nr rfl
set_option maxRecDepth 100000 in
theorem v145_469 (n d : Nat) (L : List (Option mL)) (S : List mV) (M : Mm) (Q : mQ) : vc (n + 1) d 145 469 L S M Q = (X d 145 419 L S M Q) := nr rfl
set_option maxRecDepth 100000 in
theorem v145_472 (n d : Nat) (L : List (Option mL)) (S : List mV) (M : Mm) (Q : mQ) : vc (n + 1) d 145 472 L S M Q = (gR L 0 fun x => vc n d 145 473 L (.inr (.inr x) :: S) M Q) := nr rfl
set_option maxRecDepth 100000 in
theorem v145_473 (n d : Nat) (L : List (Option mL)) (S : List mV) (M : Mm) (Q : mQ) : vc (n + 1) d 145 473 L S M Q = (pA S fun a S => shO M a 10 (vc n d 145 476 L (.inl (M.it a 35) :: S) M Q)) := nr rfl
set_option maxRecDepth 100000 in
theorem v145_476 (n d : Nat) (L : List (Option mL)) (S : List mV) (M : Mm) (Q : mQ) : vc (n + 1) d 145 476 L S M Q = (pI S fun x S => S = [] ∧ (0 = 0 ∨ x = 0 ∨ x = 1) ∧ Q (some (.inl x)) M) := nr rfl
