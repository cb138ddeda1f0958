/-! what each instruction leaves to show, printed by gen_rows.py -/
set_option maxRecDepth 100000 in
theorem v146_0 (n d : Nat) (L : List (Option mL)) (S : List mV) (M : Mm) (Q : mQ) : vc (n + 1) d 146 0 L S M Q = (vc n d 146 1 L (.inl 0 :: S) M Q) := nr rfl
set_option maxRecDepth 100000 in
theorem v146_1 (n d : Nat) (L : List (Option mL)) (S : List mV) (M : Mm) (Q : mQ) : vc (n + 1) d 146 1 L S M Q = (pI S fun x S => sL L 2 (some (.inl x)) fun L => X d 146 2 L S M Q) := nr rfl
set_option maxRecDepth 100000 in
theorem v146_2 (n d : Nat) (L : List (Option mL)) (S : List mV) (M : Mm) (Q : mQ) : vc (n + 1) d 146 2 L S M Q = (gI L 2 fun x => vc n d 146 3 L (.inl x :: S) M Q) := nr rfl
set_option maxRecDepth 100000 in
theorem v146_3 (n d : Nat) (L : List (Option mL)) (S : List mV) (M : Mm) (Q : mQ) : vc (n + 1) d 146 3 L S M Q = (gR L 0 fun x => vc n d 146 4 L (.inr (.inr x) :: S) M Q) := nr rfl
set_option maxRecDepth 100000 in
theorem v146_4 (n d : Nat) (L : List (Option mL)) (S : List mV) (M : Mm) (Q : mQ) : vc (n + 1) d 146 4 L S M Q = (pA S fun a S => shO M a 10 (vc n d 146 7 L (.inl (M.it a 11) :: S) M Q)) := nr rfl
set_option maxRecDepth 100000 in
theorem v146_7 (n d : Nat) (L : List (Option mL)) (S : List mV) (M : Mm) (Q : mQ) : vc (n + 1) d 146 7 L S M Q = (pI S fun y S => pI S fun x S => (y ≤ x → vc n d 146 28 L S M Q) ∧ (¬ (y ≤ x) → vc n d 146 10 L S M Q)) := nr rfl
set_option maxRecDepth 100000 in
theorem v146_10 (n d : Nat) (L : List (Option mL)) (S : List mV) (M : Mm) (Q : mQ) : vc (n + 1) d 146 10 L S M Q = (gR L 0 fun x => vc n d 146 11 L (.inr (.inr x) :: S) M Q) := nr rfl
set_option maxRecDepth 100000 in
theorem v146_11 (n d : Nat) (L : List (Option mL)) (S : List mV) (M : Mm) (Q : mQ) : vc (n + 1) d 146 11 L S M Q = (pA S fun a S => shO M a 10 (rrf M a 16 fun r => vc n d 146 14 L (.inr (.inr r) :: S) M Q)) := nr rfl
set_option maxRecDepth 100000 in
theorem v146_14 (n d : Nat) (L : List (Option mL)) (S : List mV) (M : Mm) (Q : mQ) : vc (n + 1) d 146 14 L S M Q = (gI L 2 fun x => vc n d 146 15 L (.inl x :: S) M Q) := nr rfl
set_option maxRecDepth 100000 in
theorem v146_15 (n d : Nat) (L : List (Option mL)) (S : List mV) (M : Mm) (Q : mQ) : vc (n + 1) d 146 15 L S M Q = (pI S fun i S => pA S fun a S => shA M a fun t k => (t = 40 ∨ t = 41) ∧ inB i k ∧ vc n d 146 16 L (.inl (M.it a i.toNatClampNeg) :: S) M Q) := nr rfl
set_option maxRecDepth 100000 in
theorem v146_16 (n d : Nat) (L : List (Option mL)) (S : List mV) (M : Mm) (Q : mQ) : vc (n + 1) d 146 16 L S M Q = (gI L 1 fun x => vc n d 146 17 L (.inl x :: S) M Q) := nr rfl
set_option maxRecDepth 100000 in
theorem v146_17 (n d : Nat) (L : List (Option mL)) (S : List mV) (M : Mm) (Q : mQ) : vc (n + 1) d 146 17 L S M Q = (pI S fun y S => pI S fun x S => (¬ x = y → vc n d 146 22 L S M Q) ∧ (¬ (¬ x = y) → vc n d 146 20 L S M Q)) := nr rfl
set_option maxRecDepth 100000 in
theorem v146_20 (n d : Nat) (L : List (Option mL)) (S : List mV) (M : Mm) (Q : mQ) : vc (n + 1) d 146 20 L S M Q = (vc n d 146 21 L (.inl 1 :: S) M Q) := nr rfl
set_option maxRecDepth 100000 in
theorem v146_21 (n d : Nat) (L : List (Option mL)) (S : List mV) (M : Mm) (Q : mQ) : vc (n + 1) d 146 21 L S M Q = (pI S fun x S => S = [] ∧ (1 = 0 ∨ x = 0 ∨ x = 1) ∧ Q (some (.inl x)) M) := nr rfl
set_option maxRecDepth 100000 in
theorem v146_22 (n d : Nat) (L : List (Option mL)) (S : List mV) (M : Mm) (Q : mQ) : vc (n + 1) d 146 22 L S M Q = (gI L 2 fun x => sL L 2 (some (.inl (x + 1))) fun L => vc n d 146 25 L S M Q) := nr rfl
set_option maxRecDepth 100000 in
theorem v146_25 (n d : Nat) (L : List (Option mL)) (S : List mV) (M : Mm) (Q : mQ) : vc (n + 1) d 146 25 L S M Q = (X d 146 2 L S M Q) := nr rfl
set_option maxRecDepth 100000 in
theorem v146_28 (n d : Nat) (L : List (Option mL)) (S : List mV) (M : Mm) (Q : mQ) : vc (n + 1) d 146 28 L S M Q = (vc n d 146 29 L (.inl 0 :: S) M Q) := nr rfl
set_option maxRecDepth 100000 in
theorem v146_29 (n d : Nat) (L : List (Option mL)) (S : List mV) (M : Mm) (Q : mQ) : vc (n + 1) d 146 29 L S M Q = (pI S fun x S => S = [] ∧ (1 = 0 ∨ x = 0 ∨ x = 1) ∧ Q (some (.inl x)) M) := nr rfl
set_option maxRecDepth 100000 in
theorem v147_0 (n d : Nat) (L : List (Option mL)) (S : List mV) (M : Mm) (Q : mQ) : vc (n + 1) d 147 0 L S M Q = (vc n d 147 1 L (.inl 0 :: S) M Q) := nr rfl
set_option maxRecDepth 100000 in
theorem v147_1 (n d : Nat) (L : List (Option mL)) (S : List mV) (M : Mm) (Q : mQ) : vc (n + 1) d 147 1 L S M Q = (pI S fun x S => sL L 2 (some (.inl x)) fun L => X d 147 2 L S M Q) := nr rfl
set_option maxRecDepth 100000 in
theorem v147_2 (n d : Nat) (L : List (Option mL)) (S : List mV) (M : Mm) (Q : mQ) : vc (n + 1) d 147 2 L S M Q = (gI L 2 fun x => vc n d 147 3 L (.inl x :: S) M Q) := nr rfl
set_option maxRecDepth 100000 in
theorem v147_3 (n d : Nat) (L : List (Option mL)) (S : List mV) (M : Mm) (Q : mQ) : vc (n + 1) d 147 3 L S M Q = (vc n d 147 5 L (.inl 48 :: S) M Q) := nr rfl
set_option maxRecDepth 100000 in
theorem v147_5 (n d : Nat) (L : List (Option mL)) (S : List mV) (M : Mm) (Q : mQ) : vc (n + 1) d 147 5 L S M Q = (pI S fun y S => pI S fun x S => (y ≤ x → vc n d 147 25 L S M Q) ∧ (¬ (y ≤ x) → vc n d 147 8 L S M Q)) := nr rfl
set_option maxRecDepth 100000 in
theorem v147_8 (n d : Nat) (L : List (Option mL)) (S : List mV) (M : Mm) (Q : mQ) : vc (n + 1) d 147 8 L S M Q = (gR L 0 fun x => vc n d 147 9 L (.inr (.inr x) :: S) M Q) := nr rfl
set_option maxRecDepth 100000 in
theorem v147_9 (n d : Nat) (L : List (Option mL)) (S : List mV) (M : Mm) (Q : mQ) : vc (n + 1) d 147 9 L S M Q = (gI L 2 fun x => vc n d 147 10 L (.inl x :: S) M Q) := nr rfl
set_option maxRecDepth 100000 in
theorem v147_10 (n d : Nat) (L : List (Option mL)) (S : List mV) (M : Mm) (Q : mQ) : vc (n + 1) d 147 10 L S M Q = (pAs 1 S fun as S => pA S fun a S => shO M a 10 (stk S ≤ 8 ∧ XC d 129 (.inr (some a) :: as) M (fun r M => ∃ x : Int32, r = some (.inl x) ∧ X d 147 13 L (.inl x :: S) M Q))) := nr rfl
set_option maxRecDepth 100000 in
theorem v147_13 (n d : Nat) (L : List (Option mL)) (S : List mV) (M : Mm) (Q : mQ) : vc (n + 1) d 147 13 L S M Q = (gI L 1 fun x => vc n d 147 14 L (.inl x :: S) M Q) := nr rfl
set_option maxRecDepth 100000 in
theorem v147_14 (n d : Nat) (L : List (Option mL)) (S : List mV) (M : Mm) (Q : mQ) : vc (n + 1) d 147 14 L S M Q = (pI S fun y S => pI S fun x S => (¬ x = y → vc n d 147 19 L S M Q) ∧ (¬ (¬ x = y) → vc n d 147 17 L S M Q)) := nr rfl
set_option maxRecDepth 100000 in
theorem v147_17 (n d : Nat) (L : List (Option mL)) (S : List mV) (M : Mm) (Q : mQ) : vc (n + 1) d 147 17 L S M Q = (gI L 2 fun x => vc n d 147 18 L (.inl x :: S) M Q) := nr rfl
set_option maxRecDepth 100000 in
theorem v147_18 (n d : Nat) (L : List (Option mL)) (S : List mV) (M : Mm) (Q : mQ) : vc (n + 1) d 147 18 L S M Q = (pI S fun x S => S = [] ∧ (0 = 0 ∨ x = 0 ∨ x = 1) ∧ Q (some (.inl x)) M) := nr rfl
set_option maxRecDepth 100000 in
theorem v147_19 (n d : Nat) (L : List (Option mL)) (S : List mV) (M : Mm) (Q : mQ) : vc (n + 1) d 147 19 L S M Q = (gI L 2 fun x => sL L 2 (some (.inl (x + 1))) fun L => vc n d 147 22 L S M Q) := nr rfl
set_option maxRecDepth 100000 in
theorem v147_22 (n d : Nat) (L : List (Option mL)) (S : List mV) (M : Mm) (Q : mQ) : vc (n + 1) d 147 22 L S M Q = (X d 147 2 L S M Q) := nr rfl
set_option maxRecDepth 100000 in
theorem v147_25 (n d : Nat) (L : List (Option mL)) (S : List mV) (M : Mm) (Q : mQ) : vc (n + 1) d 147 25 L S M Q = (vc n d 147 26 L (.inl (-1) :: S) M Q) := nr rfl
set_option maxRecDepth 100000 in
theorem v147_26 (n d : Nat) (L : List (Option mL)) (S : List mV) (M : Mm) (Q : mQ) : vc (n + 1) d 147 26 L S M Q = (pI S fun x S => S = [] ∧ (0 = 0 ∨ x = 0 ∨ x = 1) ∧ Q (some (.inl x)) M) := nr rfl
set_option maxRecDepth 100000 in
theorem v148_0 (n d : Nat) (L : List (Option mL)) (S : List mV) (M : Mm) (Q : mQ) : vc (n + 1) d 148 0 L S M Q = (gR L 0 fun x => vc n d 148 1 L (.inr (.inr x) :: S) M Q) := nr rfl
set_option maxRecDepth 100000 in
theorem v148_1 (n d : Nat) (L : List (Option mL)) (S : List mV) (M : Mm) (Q : mQ) : vc (n + 1) d 148 1 L S M Q = (vc n d 148 2 L (.inl 0 :: S) M Q) := nr rfl
set_option maxRecDepth 100000 in
theorem v148_2 (n d : Nat) (L : List (Option mL)) (S : List mV) (M : Mm) (Q : mQ) : vc (n + 1) d 148 2 L S M Q = (pI S fun x S => pA S fun a S => shO M a 10 (vc n d 148 5 L S (M.si a 0 x) Q)) := nr rfl
set_option maxRecDepth 100000 in
theorem v148_5 (n d : Nat) (L : List (Option mL)) (S : List mV) (M : Mm) (Q : mQ) : vc (n + 1) d 148 5 L S M Q = (gI L 1 fun x => vc n d 148 6 L (.inl x :: S) M Q) := nr rfl
set_option maxRecDepth 100000 in
theorem v148_6 (n d : Nat) (L : List (Option mL)) (S : List mV) (M : Mm) (Q : mQ) : vc (n + 1) d 148 6 L S M Q = (vc n d 148 7 L (.inl 1 :: S) M Q) := nr rfl
set_option maxRecDepth 100000 in
theorem v148_7 (n d : Nat) (L : List (Option mL)) (S : List mV) (M : Mm) (Q : mQ) : vc (n + 1) d 148 7 L S M Q = (pI S fun y S => pI S fun x S => (x < y → vc n d 148 18 L S M Q) ∧ (¬ (x < y) → vc n d 148 10 L S M Q)) := nr rfl
set_option maxRecDepth 100000 in
theorem v148_10 (n d : Nat) (L : List (Option mL)) (S : List mV) (M : Mm) (Q : mQ) : vc (n + 1) d 148 10 L S M Q = (gI L 1 fun x => vc n d 148 11 L (.inl x :: S) M Q) := nr rfl
set_option maxRecDepth 100000 in
theorem v148_11 (n d : Nat) (L : List (Option mL)) (S : List mV) (M : Mm) (Q : mQ) : vc (n + 1) d 148 11 L S M Q = (gR L 0 fun x => vc n d 148 12 L (.inr (.inr x) :: S) M Q) := nr rfl
set_option maxRecDepth 100000 in
theorem v148_12 (n d : Nat) (L : List (Option mL)) (S : List mV) (M : Mm) (Q : mQ) : vc (n + 1) d 148 12 L S M Q = (pA S fun a S => shO M a 10 (vc n d 148 15 L (.inl (M.it a 13) :: S) M Q)) := nr rfl
set_option maxRecDepth 100000 in
theorem v148_15 (n d : Nat) (L : List (Option mL)) (S : List mV) (M : Mm) (Q : mQ) : vc (n + 1) d 148 15 L S M Q = (pI S fun y S => pI S fun x S => (x ≤ y → vc n d 148 20 L S M Q) ∧ (¬ (x ≤ y) → vc n d 148 18 L S M Q)) := nr rfl
set_option maxRecDepth 100000 in
theorem v148_18 (n d : Nat) (L : List (Option mL)) (S : List mV) (M : Mm) (Q : mQ) : vc (n + 1) d 148 18 L S M Q = (vc n d 148 19 L (.inl (-1) :: S) M Q) := nr rfl
set_option maxRecDepth 100000 in
theorem v148_19 (n d : Nat) (L : List (Option mL)) (S : List mV) (M : Mm) (Q : mQ) : vc (n + 1) d 148 19 L S M Q = (pI S fun x S => S = [] ∧ (0 = 0 ∨ x = 0 ∨ x = 1) ∧ Q (some (.inl x)) M) := nr rfl
set_option maxRecDepth 100000 in
theorem v148_20 (n d : Nat) (L : List (Option mL)) (S : List mV) (M : Mm) (Q : mQ) : vc (n + 1) d 148 20 L S M Q = (gR L 0 fun x => vc n d 148 21 L (.inr (.inr x) :: S) M Q) := nr rfl
set_option maxRecDepth 100000 in
theorem v148_21 (n d : Nat) (L : List (Option mL)) (S : List mV) (M : Mm) (Q : mQ) : vc (n + 1) d 148 21 L S M Q = (pA S fun a S => shO M a 10 (rrf M a 25 fun r => vc n d 148 24 L (.inr (.inr r) :: S) M Q)) := nr rfl
set_option maxRecDepth 100000 in
theorem v148_24 (n d : Nat) (L : List (Option mL)) (S : List mV) (M : Mm) (Q : mQ) : vc (n + 1) d 148 24 L S M Q = (gI L 1 fun x => vc n d 148 25 L (.inl x :: S) M Q) := nr rfl
set_option maxRecDepth 100000 in
theorem v148_25 (n d : Nat) (L : List (Option mL)) (S : List mV) (M : Mm) (Q : mQ) : vc (n + 1) d 148 25 L S M Q = (pI S fun i S => pA S fun a S => shA M a fun t k => (t = 42 ∨ t = 44) ∧ inB i k ∧ vc n d 148 26 L (.inl (M.it a i.toNatClampNeg) :: S) M Q) := nr rfl
set_option maxRecDepth 100000 in
theorem v148_26 (n d : Nat) (L : List (Option mL)) (S : List mV) (M : Mm) (Q : mQ) : vc (n + 1) d 148 26 L S M Q = (pI S fun x S => (x = 0 → vc n d 148 33 L S M Q) ∧ (¬ (x = 0) → vc n d 148 29 L S M Q)) := nr rfl
set_option maxRecDepth 100000 in
theorem v148_29 (n d : Nat) (L : List (Option mL)) (S : List mV) (M : Mm) (Q : mQ) : vc (n + 1) d 148 29 L S M Q = (vc n d 148 30 L (.inl 2 :: S) M Q) := nr rfl
set_option maxRecDepth 100000 in
theorem v148_30 (n d : Nat) (L : List (Option mL)) (S : List mV) (M : Mm) (Q : mQ) : vc (n + 1) d 148 30 L S M Q = (vc n d 148 56 L S M Q) := nr rfl
set_option maxRecDepth 100000 in
theorem v148_33 (n d : Nat) (L : List (Option mL)) (S : List mV) (M : Mm) (Q : mQ) : vc (n + 1) d 148 33 L S M Q = (gR L 0 fun x => vc n d 148 34 L (.inr (.inr x) :: S) M Q) := nr rfl
set_option maxRecDepth 100000 in
theorem v148_34 (n d : Nat) (L : List (Option mL)) (S : List mV) (M : Mm) (Q : mQ) : vc (n + 1) d 148 34 L S M Q = (pA S fun a S => shO M a 10 (rrf M a 4 fun r => vc n d 148 37 L (.inr (.inr r) :: S) M Q)) := nr rfl
set_option maxRecDepth 100000 in
theorem v148_37 (n d : Nat) (L : List (Option mL)) (S : List mV) (M : Mm) (Q : mQ) : vc (n + 1) d 148 37 L S M Q = (vc n d 148 39 L (.inl 18 :: S) M Q) := nr rfl
set_option maxRecDepth 100000 in
theorem v148_39 (n d : Nat) (L : List (Option mL)) (S : List mV) (M : Mm) (Q : mQ) : vc (n + 1) d 148 39 L S M Q = (gR L 0 fun x => vc n d 148 40 L (.inr (.inr x) :: S) M Q) := nr rfl
set_option maxRecDepth 100000 in
theorem v148_40 (n d : Nat) (L : List (Option mL)) (S : List mV) (M : Mm) (Q : mQ) : vc (n + 1) d 148 40 L S M Q = (pAs 0 S fun as S => pA S fun a S => shO M a 10 (stk S ≤ 8 ∧ XC d 149 (.inr (some a) :: as) M (fun r M => ∃ x : Int32, r = some (.inl x) ∧ X d 148 43 L (.inl x :: S) M Q))) := nr rfl
set_option maxRecDepth 100000 in
theorem v148_43 (n d : Nat) (L : List (Option mL)) (S : List mV) (M : Mm) (Q : mQ) : vc (n + 1) d 148 43 L S M Q = (pI S fun y S => pI S fun x S => vc n d 148 44 L (.inl (x * y) :: S) M Q) := nr rfl
set_option maxRecDepth 100000 in
theorem v148_44 (n d : Nat) (L : List (Option mL)) (S : List mV) (M : Mm) (Q : mQ) : vc (n + 1) d 148 44 L S M Q = (vc n d 148 45 L (.inl 1 :: S) M Q) := nr rfl
set_option maxRecDepth 100000 in
theorem v148_45 (n d : Nat) (L : List (Option mL)) (S : List mV) (M : Mm) (Q : mQ) : vc (n + 1) d 148 45 L S M Q = (pI S fun y S => pI S fun x S => vc n d 148 46 L (.inl (x + y) :: S) M Q) := nr rfl
set_option maxRecDepth 100000 in
theorem v148_46 (n d : Nat) (L : List (Option mL)) (S : List mV) (M : Mm) (Q : mQ) : vc (n + 1) d 148 46 L S M Q = (pI S fun i S => pA S fun a S => shA M a fun t k => (t = 40 ∨ t = 41) ∧ inB i k ∧ vc n d 148 47 L (.inl (M.it a i.toNatClampNeg) :: S) M Q) := nr rfl
set_option maxRecDepth 100000 in
theorem v148_47 (n d : Nat) (L : List (Option mL)) (S : List mV) (M : Mm) (Q : mQ) : vc (n + 1) d 148 47 L S M Q = (gI L 1 fun x => vc n d 148 48 L (.inl x :: S) M Q) := nr rfl
set_option maxRecDepth 100000 in
theorem v148_48 (n d : Nat) (L : List (Option mL)) (S : List mV) (M : Mm) (Q : mQ) : vc (n + 1) d 148 48 L S M Q = (pI S fun y S => pI S fun x S => (x < y → vc n d 148 55 L S M Q) ∧ (¬ (x < y) → vc n d 148 51 L S M Q)) := nr rfl
set_option maxRecDepth 100000 in
theorem v148_51 (n d : Nat) (L : List (Option mL)) (S : List mV) (M : Mm) (Q : mQ) : vc (n + 1) d 148 51 L S M Q = (vc n d 148 52 L (.inl 1 :: S) M Q) := nr rfl
set_option maxRecDepth 100000 in
theorem v148_52 (n d : Nat) (L : List (Option mL)) (S : List mV) (M : Mm) (Q : mQ) : vc (n + 1) d 148 52 L S M Q = (vc n d 148 56 L S M Q) := nr rfl
set_option maxRecDepth 100000 in
theorem v148_55 (n d : Nat) (L : List (Option mL)) (S : List mV) (M : Mm) (Q : mQ) : vc (n + 1) d 148 55 L S M Q = (vc n d 148 56 L (.inl 0 :: S) M Q) := nr rfl
set_option maxRecDepth 100000 in
theorem v148_56 (n d : Nat) (L : List (Option mL)) (S : List mV) (M : Mm) (Q : mQ) : vc (n + 1) d 148 56 L S M Q = (pI S fun x S => S = [] ∧ (0 = 0 ∨ x = 0 ∨ x = 1) ∧ Q (some (.inl x)) M) := nr rfl
set_option maxRecDepth 100000 in
theorem v149_0 (n d : Nat) (L : List (Option mL)) (S : List mV) (M : Mm) (Q : mQ) : vc (n + 1) d 149 0 L S M Q = (gR L 0 fun x => vc n d 149 1 L (.inr (.inr x) :: S) M Q) := nr rfl
set_option maxRecDepth 100000 in
theorem v149_1 (n d : Nat) (L : List (Option mL)) (S : List mV) (M : Mm) (Q : mQ) : vc (n + 1) d 149 1 L S M Q = (pA S fun a S => shO M a 10 (rrf M a 4 fun r => vc n d 149 4 L (.inr (.inr r) :: S) M Q)) := nr rfl
set_option maxRecDepth 100000 in
theorem v149_4 (n d : Nat) (L : List (Option mL)) (S : List mV) (M : Mm) (Q : mQ) : vc (n + 1) d 149 4 L S M Q = (vc n d 149 6 L (.inl 18 :: S) M Q) := nr rfl
set_option maxRecDepth 100000 in
theorem v149_6 (n d : Nat) (L : List (Option mL)) (S : List mV) (M : Mm) (Q : mQ) : vc (n + 1) d 149 6 L S M Q = (pI S fun i S => pA S fun a S => shA M a fun t k => (t = 40 ∨ t = 41) ∧ inB i k ∧ vc n d 149 7 L (.inl (M.it a i.toNatClampNeg) :: S) M Q) := nr rfl
set_option maxRecDepth 100000 in
theorem v149_7 (n d : Nat) (L : List (Option mL)) (S : List mV) (M : Mm) (Q : mQ) : vc (n + 1) d 149 7 L S M Q = (gR L 0 fun x => vc n d 149 8 L (.inr (.inr x) :: S) M Q) := nr rfl
set_option maxRecDepth 100000 in
theorem v149_8 (n d : Nat) (L : List (Option mL)) (S : List mV) (M : Mm) (Q : mQ) : vc (n + 1) d 149 8 L S M Q = (pA S fun a S => shO M a 10 (rrf M a 4 fun r => vc n d 149 11 L (.inr (.inr r) :: S) M Q)) := nr rfl
set_option maxRecDepth 100000 in
theorem v149_11 (n d : Nat) (L : List (Option mL)) (S : List mV) (M : Mm) (Q : mQ) : vc (n + 1) d 149 11 L S M Q = (vc n d 149 12 L (.inl 0 :: S) M Q) := nr rfl
set_option maxRecDepth 100000 in
theorem v149_12 (n d : Nat) (L : List (Option mL)) (S : List mV) (M : Mm) (Q : mQ) : vc (n + 1) d 149 12 L S M Q = (pI S fun i S => pA S fun a S => shA M a fun t k => (t = 40 ∨ t = 41) ∧ inB i k ∧ vc n d 149 13 L (.inl (M.it a i.toNatClampNeg) :: S) M Q) := nr rfl
set_option maxRecDepth 100000 in
theorem v149_13 (n d : Nat) (L : List (Option mL)) (S : List mV) (M : Mm) (Q : mQ) : vc (n + 1) d 149 13 L S M Q = (pI S fun y S => pI S fun x S => (x ≤ y → vc n d 149 20 L S M Q) ∧ (¬ (x ≤ y) → vc n d 149 16 L S M Q)) := nr rfl
set_option maxRecDepth 100000 in
theorem v149_16 (n d : Nat) (L : List (Option mL)) (S : List mV) (M : Mm) (Q : mQ) : vc (n + 1) d 149 16 L S M Q = (vc n d 149 17 L (.inl 1 :: S) M Q) := nr rfl
set_option maxRecDepth 100000 in
theorem v149_17 (n d : Nat) (L : List (Option mL)) (S : List mV) (M : Mm) (Q : mQ) : vc (n + 1) d 149 17 L S M Q = (vc n d 149 21 L S M Q) := nr rfl
set_option maxRecDepth 100000 in
theorem v149_20 (n d : Nat) (L : List (Option mL)) (S : List mV) (M : Mm) (Q : mQ) : vc (n + 1) d 149 20 L S M Q = (vc n d 149 21 L (.inl 0 :: S) M Q) := nr rfl
set_option maxRecDepth 100000 in
theorem v149_21 (n d : Nat) (L : List (Option mL)) (S : List mV) (M : Mm) (Q : mQ) : vc (n + 1) d 149 21 L S M Q = (pI S fun x S => S = [] ∧ (0 = 0 ∨ x = 0 ∨ x = 1) ∧ Q (some (.inl x)) M) := nr rfl
set_option maxRecDepth 100000 in
theorem v150_0 (n d : Nat) (L : List (Option mL)) (S : List mV) (M : Mm) (Q : mQ) : vc (n + 1) d 150 0 L S M Q = (gR L 0 fun x => vc n d 150 1 L (.inr (.inr x) :: S) M Q) := nr rfl
set_option maxRecDepth 100000 in
theorem v150_1 (n d : Nat) (L : List (Option mL)) (S : List mV) (M : Mm) (Q : mQ) : vc (n + 1) d 150 1 L S M Q = (vc n d 150 2 L (.inl 0 :: S) M Q) := nr rfl
set_option maxRecDepth 100000 in
theorem v150_2 (n d : Nat) (L : List (Option mL)) (S : List mV) (M : Mm) (Q : mQ) : vc (n + 1) d 150 2 L S M Q = (pI S fun x S => pA S fun a S => shO M a 10 (vc n d 150 5 L S (M.si a 0 x) Q)) := nr rfl
set_option maxRecDepth 100000 in
theorem v150_5 (n d : Nat) (L : List (Option mL)) (S : List mV) (M : Mm) (Q : mQ) : vc (n + 1) d 150 5 L S M Q = (gI L 1 fun x => vc n d 150 6 L (.inl x :: S) M Q) := nr rfl
set_option maxRecDepth 100000 in
theorem v150_6 (n d : Nat) (L : List (Option mL)) (S : List mV) (M : Mm) (Q : mQ) : vc (n + 1) d 150 6 L S M Q = (pI S fun x S => sL L 2 (some (.inl x)) fun L => vc n d 150 7 L S M Q) := nr rfl
set_option maxRecDepth 100000 in
theorem v150_7 (n d : Nat) (L : List (Option mL)) (S : List mV) (M : Mm) (Q : mQ) : vc (n + 1) d 150 7 L S M Q = (vc n d 150 8 L (.inl 0 :: S) M Q) := nr rfl
set_option maxRecDepth 100000 in
theorem v150_8 (n d : Nat) (L : List (Option mL)) (S : List mV) (M : Mm) (Q : mQ) : vc (n + 1) d 150 8 L S M Q = (pI S fun x S => sL L 3 (some (.inl x)) fun L => X d 150 9 L S M Q) := nr rfl
set_option maxRecDepth 100000 in
theorem v150_9 (n d : Nat) (L : List (Option mL)) (S : List mV) (M : Mm) (Q : mQ) : vc (n + 1) d 150 9 L S M Q = (gI L 3 fun x => vc n d 150 10 L (.inl x :: S) M Q) := nr rfl
set_option maxRecDepth 100000 in
theorem v150_10 (n d : Nat) (L : List (Option mL)) (S : List mV) (M : Mm) (Q : mQ) : vc (n + 1) d 150 10 L S M Q = (gR L 0 fun x => vc n d 150 11 L (.inr (.inr x) :: S) M Q) := nr rfl
set_option maxRecDepth 100000 in
theorem v150_11 (n d : Nat) (L : List (Option mL)) (S : List mV) (M : Mm) (Q : mQ) : vc (n + 1) d 150 11 L S M Q = (pA S fun a S => shO M a 10 (vc n d 150 14 L (.inl (M.it a 14) :: S) M Q)) := nr rfl
set_option maxRecDepth 100000 in
theorem v150_14 (n d : Nat) (L : List (Option mL)) (S : List mV) (M : Mm) (Q : mQ) : vc (n + 1) d 150 14 L S M Q = (pI S fun y S => pI S fun x S => (y ≤ x → vc n d 150 51 L S M Q) ∧ (¬ (y ≤ x) → vc n d 150 17 L S M Q)) := nr rfl
set_option maxRecDepth 100000 in
theorem v150_17 (n d : Nat) (L : List (Option mL)) (S : List mV) (M : Mm) (Q : mQ) : vc (n + 1) d 150 17 L S M Q = (gI L 1 fun x => vc n d 150 18 L (.inl x :: S) M Q) := nr rfl
set_option maxRecDepth 100000 in
theorem v150_18 (n d : Nat) (L : List (Option mL)) (S : List mV) (M : Mm) (Q : mQ) : vc (n + 1) d 150 18 L S M Q = (pI S fun x S => (x < 0 → vc n d 150 51 L S M Q) ∧ (¬ (x < 0) → vc n d 150 21 L S M Q)) := nr rfl
set_option maxRecDepth 100000 in
theorem v150_21 (n d : Nat) (L : List (Option mL)) (S : List mV) (M : Mm) (Q : mQ) : vc (n + 1) d 150 21 L S M Q = (gR L 0 fun x => vc n d 150 22 L (.inr (.inr x) :: S) M Q) := nr rfl
set_option maxRecDepth 100000 in
theorem v150_22 (n d : Nat) (L : List (Option mL)) (S : List mV) (M : Mm) (Q : mQ) : vc (n + 1) d 150 22 L S M Q = (gI L 3 fun x => vc n d 150 23 L (.inl x :: S) M Q) := nr rfl
set_option maxRecDepth 100000 in
theorem v150_23 (n d : Nat) (L : List (Option mL)) (S : List mV) (M : Mm) (Q : mQ) : vc (n + 1) d 150 23 L S M Q = (pAs 1 S fun as S => pA S fun a S => shO M a 10 (stk S ≤ 8 ∧ XC d 151 (.inr (some a) :: as) M (fun r M => ∃ x : Int32, r = some (.inl x) ∧ X d 150 26 L (.inl x :: S) M Q))) := nr rfl
set_option maxRecDepth 100000 in
theorem v150_26 (n d : Nat) (L : List (Option mL)) (S : List mV) (M : Mm) (Q : mQ) : vc (n + 1) d 150 26 L S M Q = (pI S fun x S => (x ≤ 0 → vc n d 150 32 L S M Q) ∧ (¬ (x ≤ 0) → vc n d 150 29 L S M Q)) := nr rfl
set_option maxRecDepth 100000 in
theorem v150_29 (n d : Nat) (L : List (Option mL)) (S : List mV) (M : Mm) (Q : mQ) : vc (n + 1) d 150 29 L S M Q = (vc n d 150 45 L S M Q) := nr rfl
set_option maxRecDepth 100000 in
theorem v150_32 (n d : Nat) (L : List (Option mL)) (S : List mV) (M : Mm) (Q : mQ) : vc (n + 1) d 150 32 L S M Q = (gI L 2 fun x => vc n d 150 33 L (.inl x :: S) M Q) := nr rfl
set_option maxRecDepth 100000 in
theorem v150_33 (n d : Nat) (L : List (Option mL)) (S : List mV) (M : Mm) (Q : mQ) : vc (n + 1) d 150 33 L S M Q = (pI S fun x S => (¬ x = 0 → vc n d 150 42 L S M Q) ∧ (¬ (¬ x = 0) → vc n d 150 36 L S M Q)) := nr rfl
set_option maxRecDepth 100000 in
theorem v150_36 (n d : Nat) (L : List (Option mL)) (S : List mV) (M : Mm) (Q : mQ) : vc (n + 1) d 150 36 L S M Q = (gR L 0 fun x => vc n d 150 37 L (.inr (.inr x) :: S) M Q) := nr rfl
set_option maxRecDepth 100000 in
theorem v150_37 (n d : Nat) (L : List (Option mL)) (S : List mV) (M : Mm) (Q : mQ) : vc (n + 1) d 150 37 L S M Q = (gI L 3 fun x => vc n d 150 38 L (.inl x :: S) M Q) := nr rfl
set_option maxRecDepth 100000 in
theorem v150_38 (n d : Nat) (L : List (Option mL)) (S : List mV) (M : Mm) (Q : mQ) : vc (n + 1) d 150 38 L S M Q = (pAs 1 S fun as S => pA S fun a S => shO M a 10 (stk S ≤ 8 ∧ XC d 153 (.inr (some a) :: as) M (fun r M => ∃ x : Int32, r = some (.inl x) ∧ X d 150 41 L (.inl x :: S) M Q))) := nr rfl
set_option maxRecDepth 100000 in
theorem v150_41 (n d : Nat) (L : List (Option mL)) (S : List mV) (M : Mm) (Q : mQ) : vc (n + 1) d 150 41 L S M Q = (pI S fun x S => S = [] ∧ (0 = 0 ∨ x = 0 ∨ x = 1) ∧ Q (some (.inl x)) M) := nr rfl
set_option maxRecDepth 100000 in
theorem v150_42 (n d : Nat) (L : List (Option mL)) (S : List mV) (M : Mm) (Q : mQ) : vc (n + 1) d 150 42 L S M Q = (gI L 2 fun x => sL L 2 (some (.inl (x + (-1)))) fun L => vc n d 150 45 L S M Q) := nr rfl
set_option maxRecDepth 100000 in
theorem v150_45 (n d : Nat) (L : List (Option mL)) (S : List mV) (M : Mm) (Q : mQ) : vc (n + 1) d 150 45 L S M Q = (gI L 3 fun x => sL L 3 (some (.inl (x + 1))) fun L => vc n d 150 48 L S M Q) := nr rfl
set_option maxRecDepth 100000 in
theorem v150_48 (n d : Nat) (L : List (Option mL)) (S : List mV) (M : Mm) (Q : mQ) : vc (n + 1) d 150 48 L S M Q = (X d 150 9 L S M Q) := nr rfl
set_option maxRecDepth 100000 in
theorem v150_51 (n d : Nat) (L : List (Option mL)) (S : List mV) (M : Mm) (Q : mQ) : vc (n + 1) d 150 51 L S M Q = (vc n d 150 52 L (.inl (-1) :: S) M Q) := nr rfl
set_option maxRecDepth 100000 in
theorem v150_52 (n d : Nat) (L : List (Option mL)) (S : List mV) (M : Mm) (Q : mQ) : vc (n + 1) d 150 52 L S M Q = (pI S fun x S => S = [] ∧ (0 = 0 ∨ x = 0 ∨ x = 1) ∧ Q (some (.inl x)) M) := nr rfl
set_option maxRecDepth 100000 in
theorem v151_0 (n d : Nat) (L : List (Option mL)) (S : List mV) (M : Mm) (Q : mQ) : vc (n + 1) d 151 0 L S M Q = (vc n d 151 1 L (.inl 0 :: S) M Q) := nr rfl
set_option maxRecDepth 100000 in
theorem v151_1 (n d : Nat) (L : List (Option mL)) (S : List mV) (M : Mm) (Q : mQ) : vc (n + 1) d 151 1 L S M Q = (pI S fun x S => sL L 2 (some (.inl x)) fun L => vc n d 151 2 L S M Q) := nr rfl
set_option maxRecDepth 100000 in
theorem v151_2 (n d : Nat) (L : List (Option mL)) (S : List mV) (M : Mm) (Q : mQ) : vc (n + 1) d 151 2 L S M Q = (vc n d 151 3 L (.inl 0 :: S) M Q) := nr rfl
set_option maxRecDepth 100000 in
theorem v151_3 (n d : Nat) (L : List (Option mL)) (S : List mV) (M : Mm) (Q : mQ) : vc (n + 1) d 151 3 L S M Q = (pI S fun x S => sL L 3 (some (.inl x)) fun L => X d 151 4 L S M Q) := nr rfl
set_option maxRecDepth 100000 in
theorem v151_4 (n d : Nat) (L : List (Option mL)) (S : List mV) (M : Mm) (Q : mQ) : vc (n + 1) d 151 4 L S M Q = (gI L 3 fun x => vc n d 151 5 L (.inl x :: S) M Q) := nr rfl
set_option maxRecDepth 100000 in
theorem v151_5 (n d : Nat) (L : List (Option mL)) (S : List mV) (M : Mm) (Q : mQ) : vc (n + 1) d 151 5 L S M Q = (gR L 0 fun x => vc n d 151 6 L (.inr (.inr x) :: S) M Q) := nr rfl
set_option maxRecDepth 100000 in
theorem v151_6 (n d : Nat) (L : List (Option mL)) (S : List mV) (M : Mm) (Q : mQ) : vc (n + 1) d 151 6 L S M Q = (pA S fun a S => shO M a 10 (rrf M a 21 fun r => vc n d 151 9 L (.inr (.inr r) :: S) M Q)) := nr rfl
set_option maxRecDepth 100000 in
theorem v151_9 (n d : Nat) (L : List (Option mL)) (S : List mV) (M : Mm) (Q : mQ) : vc (n + 1) d 151 9 L S M Q = (gI L 1 fun x => vc n d 151 10 L (.inl x :: S) M Q) := nr rfl
set_option maxRecDepth 100000 in
theorem v151_10 (n d : Nat) (L : List (Option mL)) (S : List mV) (M : Mm) (Q : mQ) : vc (n + 1) d 151 10 L S M Q = (pI S fun i S => pA S fun a S => shA M a fun t k => (t = 40 ∨ t = 41) ∧ inB i k ∧ vc n d 151 11 L (.inl (M.it a i.toNatClampNeg) :: S) M Q) := nr rfl
set_option maxRecDepth 100000 in
theorem v151_11 (n d : Nat) (L : List (Option mL)) (S : List mV) (M : Mm) (Q : mQ) : vc (n + 1) d 151 11 L S M Q = (pI S fun y S => pI S fun x S => (y ≤ x → vc n d 151 47 L S M Q) ∧ (¬ (y ≤ x) → vc n d 151 14 L S M Q)) := nr rfl
set_option maxRecDepth 100000 in
theorem v151_14 (n d : Nat) (L : List (Option mL)) (S : List mV) (M : Mm) (Q : mQ) : vc (n + 1) d 151 14 L S M Q = (gI L 2 fun x => vc n d 151 15 L (.inl x :: S) M Q) := nr rfl
set_option maxRecDepth 100000 in
theorem v151_15 (n d : Nat) (L : List (Option mL)) (S : List mV) (M : Mm) (Q : mQ) : vc (n + 1) d 151 15 L S M Q = (gR L 0 fun x => vc n d 151 16 L (.inr (.inr x) :: S) M Q) := nr rfl
set_option maxRecDepth 100000 in
theorem v151_16 (n d : Nat) (L : List (Option mL)) (S : List mV) (M : Mm) (Q : mQ) : vc (n + 1) d 151 16 L S M Q = (gR L 0 fun x => vc n d 151 17 L (.inr (.inr x) :: S) M Q) := nr rfl
set_option maxRecDepth 100000 in
theorem v151_17 (n d : Nat) (L : List (Option mL)) (S : List mV) (M : Mm) (Q : mQ) : vc (n + 1) d 151 17 L S M Q = (pA S fun a S => shO M a 10 (rrf M a 22 fun r => vc n d 151 20 L (.inr (.inr r) :: S) M Q)) := nr rfl
set_option maxRecDepth 100000 in
theorem v151_20 (n d : Nat) (L : List (Option mL)) (S : List mV) (M : Mm) (Q : mQ) : vc (n + 1) d 151 20 L S M Q = (vc n d 151 23 L (.inl 200 :: S) M Q) := nr rfl
set_option maxRecDepth 100000 in
theorem v151_23 (n d : Nat) (L : List (Option mL)) (S : List mV) (M : Mm) (Q : mQ) : vc (n + 1) d 151 23 L S M Q = (gI L 1 fun x => vc n d 151 24 L (.inl x :: S) M Q) := nr rfl
set_option maxRecDepth 100000 in
theorem v151_24 (n d : Nat) (L : List (Option mL)) (S : List mV) (M : Mm) (Q : mQ) : vc (n + 1) d 151 24 L S M Q = (pI S fun y S => pI S fun x S => vc n d 151 25 L (.inl (x * y) :: S) M Q) := nr rfl
set_option maxRecDepth 100000 in
theorem v151_25 (n d : Nat) (L : List (Option mL)) (S : List mV) (M : Mm) (Q : mQ) : vc (n + 1) d 151 25 L S M Q = (gI L 3 fun x => vc n d 151 26 L (.inl x :: S) M Q) := nr rfl
set_option maxRecDepth 100000 in
theorem v151_26 (n d : Nat) (L : List (Option mL)) (S : List mV) (M : Mm) (Q : mQ) : vc (n + 1) d 151 26 L S M Q = (pI S fun y S => pI S fun x S => vc n d 151 27 L (.inl (x + y) :: S) M Q) := nr rfl
set_option maxRecDepth 100000 in
theorem v151_27 (n d : Nat) (L : List (Option mL)) (S : List mV) (M : Mm) (Q : mQ) : vc (n + 1) d 151 27 L S M Q = (pI S fun i S => pA S fun a S => shA M a fun t k => (t = 40 ∨ t = 41) ∧ inB i k ∧ vc n d 151 28 L (.inl (M.it a i.toNatClampNeg) :: S) M Q) := nr rfl
set_option maxRecDepth 100000 in
theorem v151_28 (n d : Nat) (L : List (Option mL)) (S : List mV) (M : Mm) (Q : mQ) : vc (n + 1) d 151 28 L S M Q = (pAs 1 S fun as S => pA S fun a S => shO M a 10 (stk S ≤ 8 ∧ XC d 152 (.inr (some a) :: as) M (fun r M => ∃ x : Int32, r = some (.inl x) ∧ X d 151 31 L (.inl x :: S) M Q))) := nr rfl
set_option maxRecDepth 100000 in
theorem v151_31 (n d : Nat) (L : List (Option mL)) (S : List mV) (M : Mm) (Q : mQ) : vc (n + 1) d 151 31 L S M Q = (pI S fun x S => (x = 0 → vc n d 151 38 L S M Q) ∧ (¬ (x = 0) → vc n d 151 34 L S M Q)) := nr rfl
set_option maxRecDepth 100000 in
theorem v151_34 (n d : Nat) (L : List (Option mL)) (S : List mV) (M : Mm) (Q : mQ) : vc (n + 1) d 151 34 L S M Q = (vc n d 151 35 L (.inl 1 :: S) M Q) := nr rfl
set_option maxRecDepth 100000 in
theorem v151_35 (n d : Nat) (L : List (Option mL)) (S : List mV) (M : Mm) (Q : mQ) : vc (n + 1) d 151 35 L S M Q = (vc n d 151 39 L S M Q) := nr rfl
set_option maxRecDepth 100000 in
theorem v151_38 (n d : Nat) (L : List (Option mL)) (S : List mV) (M : Mm) (Q : mQ) : vc (n + 1) d 151 38 L S M Q = (vc n d 151 39 L (.inl 0 :: S) M Q) := nr rfl
set_option maxRecDepth 100000 in
theorem v151_39 (n d : Nat) (L : List (Option mL)) (S : List mV) (M : Mm) (Q : mQ) : vc (n + 1) d 151 39 L S M Q = (pI S fun y S => pI S fun x S => vc n d 151 40 L (.inl (x + y) :: S) M Q) := nr rfl
set_option maxRecDepth 100000 in
theorem v151_40 (n d : Nat) (L : List (Option mL)) (S : List mV) (M : Mm) (Q : mQ) : vc (n + 1) d 151 40 L S M Q = (pI S fun x S => sL L 2 (some (.inl x)) fun L => vc n d 151 41 L S M Q) := nr rfl
set_option maxRecDepth 100000 in
theorem v151_41 (n d : Nat) (L : List (Option mL)) (S : List mV) (M : Mm) (Q : mQ) : vc (n + 1) d 151 41 L S M Q = (gI L 3 fun x => sL L 3 (some (.inl (x + 1))) fun L => vc n d 151 44 L S M Q) := nr rfl
set_option maxRecDepth 100000 in
theorem v151_44 (n d : Nat) (L : List (Option mL)) (S : List mV) (M : Mm) (Q : mQ) : vc (n + 1) d 151 44 L S M Q = (X d 151 4 L S M Q) := nr rfl
set_option maxRecDepth 100000 in
theorem v151_47 (n d : Nat) (L : List (Option mL)) (S : List mV) (M : Mm) (Q : mQ) : vc (n + 1) d 151 47 L S M Q = (gI L 2 fun x => vc n d 151 48 L (.inl x :: S) M Q) := nr rfl
set_option maxRecDepth 100000 in
theorem v151_48 (n d : Nat) (L : List (Option mL)) (S : List mV) (M : Mm) (Q : mQ) : vc (n + 1) d 151 48 L S M Q = (pI S fun x S => S = [] ∧ (0 = 0 ∨ x = 0 ∨ x = 1) ∧ Q (some (.inl x)) M) := nr rfl
set_option maxRecDepth 100000 in
theorem v152_0 (n d : Nat) (L : List (Option mL)) (S : List mV) (M : Mm) (Q : mQ) : vc (n + 1) d 152 0 L S M Q = (vc n d 152 1 L (.inl 0 :: S) M Q) := nr rfl
set_option maxRecDepth 100000 in
theorem v152_1 (n d : Nat) (L : List (Option mL)) (S : List mV) (M : Mm) (Q : mQ) : vc (n + 1) d 152 1 L S M Q = (pI S fun x S => sL L 2 (some (.inl x)) fun L => X d 152 2 L S M Q) := nr rfl
set_option maxRecDepth 100000 in
theorem v152_2 (n d : Nat) (L : List (Option mL)) (S : List mV) (M : Mm) (Q : mQ) : vc (n + 1) d 152 2 L S M Q = (gI L 2 fun x => vc n d 152 3 L (.inl x :: S) M Q) := nr rfl
set_option maxRecDepth 100000 in
theorem v152_3 (n d : Nat) (L : List (Option mL)) (S : List mV) (M : Mm) (Q : mQ) : vc (n + 1) d 152 3 L S M Q = (gR L 0 fun x => vc n d 152 4 L (.inr (.inr x) :: S) M Q) := nr rfl
set_option maxRecDepth 100000 in
theorem v152_4 (n d : Nat) (L : List (Option mL)) (S : List mV) (M : Mm) (Q : mQ) : vc (n + 1) d 152 4 L S M Q = (pA S fun a S => shO M a 10 (vc n d 152 7 L (.inl (M.it a 14) :: S) M Q)) := nr rfl
set_option maxRecDepth 100000 in
theorem v152_7 (n d : Nat) (L : List (Option mL)) (S : List mV) (M : Mm) (Q : mQ) : vc (n + 1) d 152 7 L S M Q = (pI S fun y S => pI S fun x S => (y ≤ x → vc n d 152 28 L S M Q) ∧ (¬ (y ≤ x) → vc n d 152 10 L S M Q)) := nr rfl
set_option maxRecDepth 100000 in
theorem v152_10 (n d : Nat) (L : List (Option mL)) (S : List mV) (M : Mm) (Q : mQ) : vc (n + 1) d 152 10 L S M Q = (gR L 0 fun x => vc n d 152 11 L (.inr (.inr x) :: S) M Q) := nr rfl
set_option maxRecDepth 100000 in
theorem v152_11 (n d : Nat) (L : List (Option mL)) (S : List mV) (M : Mm) (Q : mQ) : vc (n + 1) d 152 11 L S M Q = (pA S fun a S => shO M a 10 (rrf M a 19 fun r => vc n d 152 14 L (.inr (.inr r) :: S) M Q)) := nr rfl
set_option maxRecDepth 100000 in
theorem v152_14 (n d : Nat) (L : List (Option mL)) (S : List mV) (M : Mm) (Q : mQ) : vc (n + 1) d 152 14 L S M Q = (gI L 2 fun x => vc n d 152 15 L (.inl x :: S) M Q) := nr rfl
set_option maxRecDepth 100000 in
theorem v152_15 (n d : Nat) (L : List (Option mL)) (S : List mV) (M : Mm) (Q : mQ) : vc (n + 1) d 152 15 L S M Q = (pI S fun i S => pA S fun a S => shA M a fun t k => (t = 40 ∨ t = 41) ∧ inB i k ∧ vc n d 152 16 L (.inl (M.it a i.toNatClampNeg) :: S) M Q) := nr rfl
set_option maxRecDepth 100000 in
theorem v152_16 (n d : Nat) (L : List (Option mL)) (S : List mV) (M : Mm) (Q : mQ) : vc (n + 1) d 152 16 L S M Q = (gI L 1 fun x => vc n d 152 17 L (.inl x :: S) M Q) := nr rfl
set_option maxRecDepth 100000 in
theorem v152_17 (n d : Nat) (L : List (Option mL)) (S : List mV) (M : Mm) (Q : mQ) : vc (n + 1) d 152 17 L S M Q = (pI S fun y S => pI S fun x S => (¬ x = y → vc n d 152 22 L S M Q) ∧ (¬ (¬ x = y) → vc n d 152 20 L S M Q)) := nr rfl
set_option maxRecDepth 100000 in
theorem v152_20 (n d : Nat) (L : List (Option mL)) (S : List mV) (M : Mm) (Q : mQ) : vc (n + 1) d 152 20 L S M Q = (vc n d 152 21 L (.inl 1 :: S) M Q) := nr rfl
set_option maxRecDepth 100000 in
theorem v152_21 (n d : Nat) (L : List (Option mL)) (S : List mV) (M : Mm) (Q : mQ) : vc (n + 1) d 152 21 L S M Q = (pI S fun x S => S = [] ∧ (1 = 0 ∨ x = 0 ∨ x = 1) ∧ Q (some (.inl x)) M) := nr rfl
set_option maxRecDepth 100000 in
theorem v152_22 (n d : Nat) (L : List (Option mL)) (S : List mV) (M : Mm) (Q : mQ) : vc (n + 1) d 152 22 L S M Q = (gI L 2 fun x => sL L 2 (some (.inl (x + 1))) fun L => vc n d 152 25 L S M Q) := nr rfl
set_option maxRecDepth 100000 in
theorem v152_25 (n d : Nat) (L : List (Option mL)) (S : List mV) (M : Mm) (Q : mQ) : vc (n + 1) d 152 25 L S M Q = (X d 152 2 L S M Q) := nr rfl
set_option maxRecDepth 100000 in
theorem v152_28 (n d : Nat) (L : List (Option mL)) (S : List mV) (M : Mm) (Q : mQ) : vc (n + 1) d 152 28 L S M Q = (vc n d 152 29 L (.inl 0 :: S) M Q) := nr rfl
set_option maxRecDepth 100000 in
theorem v152_29 (n d : Nat) (L : List (Option mL)) (S : List mV) (M : Mm) (Q : mQ) : vc (n + 1) d 152 29 L S M Q = (pI S fun x S => S = [] ∧ (1 = 0 ∨ x = 0 ∨ x = 1) ∧ Q (some (.inl x)) M) := nr rfl
set_option maxRecDepth 100000 in
theorem v153_0 (n d : Nat) (L : List (Option mL)) (S : List mV) (M : Mm) (Q : mQ) : vc (n + 1) d 153 0 L S M Q = (gR L 0 fun x => vc n d 153 1 L (.inr (.inr x) :: S) M Q) := nr rfl
set_option maxRecDepth 100000 in
theorem v153_1 (n d : Nat) (L : List (Option mL)) (S : List mV) (M : Mm) (Q : mQ) : vc (n + 1) d 153 1 L S M Q = (pA S fun a S => shO M a 10 (rrf M a 19 fun r => vc n d 153 4 L (.inr (.inr r) :: S) M Q)) := nr rfl
set_option maxRecDepth 100000 in
theorem v153_4 (n d : Nat) (L : List (Option mL)) (S : List mV) (M : Mm) (Q : mQ) : vc (n + 1) d 153 4 L S M Q = (gI L 1 fun x => vc n d 153 5 L (.inl x :: S) M Q) := nr rfl
set_option maxRecDepth 100000 in
theorem v153_5 (n d : Nat) (L : List (Option mL)) (S : List mV) (M : Mm) (Q : mQ) : vc (n + 1) d 153 5 L S M Q = (pI S fun i S => pA S fun a S => shA M a fun t k => (t = 40 ∨ t = 41) ∧ inB i k ∧ vc n d 153 6 L (.inl (M.it a i.toNatClampNeg) :: S) M Q) := nr rfl
set_option maxRecDepth 100000 in
theorem v153_6 (n d : Nat) (L : List (Option mL)) (S : List mV) (M : Mm) (Q : mQ) : vc (n + 1) d 153 6 L S M Q = (pI S fun x S => sL L 2 (some (.inl x)) fun L => vc n d 153 7 L S M Q) := nr rfl
set_option maxRecDepth 100000 in
theorem v153_7 (n d : Nat) (L : List (Option mL)) (S : List mV) (M : Mm) (Q : mQ) : vc (n + 1) d 153 7 L S M Q = (gR L 0 fun x => vc n d 153 8 L (.inr (.inr x) :: S) M Q) := nr rfl
set_option maxRecDepth 100000 in
theorem v153_8 (n d : Nat) (L : List (Option mL)) (S : List mV) (M : Mm) (Q : mQ) : vc (n + 1) d 153 8 L S M Q = (pA S fun a S => shO M a 10 (rrf M a 20 fun r => vc n d 153 11 L (.inr (.inr r) :: S) M Q)) := nr rfl
set_option maxRecDepth 100000 in
theorem v153_11 (n d : Nat) (L : List (Option mL)) (S : List mV) (M : Mm) (Q : mQ) : vc (n + 1) d 153 11 L S M Q = (gI L 1 fun x => vc n d 153 12 L (.inl x :: S) M Q) := nr rfl
set_option maxRecDepth 100000 in
theorem v153_12 (n d : Nat) (L : List (Option mL)) (S : List mV) (M : Mm) (Q : mQ) : vc (n + 1) d 153 12 L S M Q = (pI S fun i S => pA S fun a S => shA M a fun t k => (t = 40 ∨ t = 41) ∧ inB i k ∧ vc n d 153 13 L (.inl (M.it a i.toNatClampNeg) :: S) M Q) := nr rfl
set_option maxRecDepth 100000 in
theorem v153_13 (n d : Nat) (L : List (Option mL)) (S : List mV) (M : Mm) (Q : mQ) : vc (n + 1) d 153 13 L S M Q = (vc n d 153 16 L (.inl 128 :: S) M Q) := nr rfl
set_option maxRecDepth 100000 in
theorem v153_16 (n d : Nat) (L : List (Option mL)) (S : List mV) (M : Mm) (Q : mQ) : vc (n + 1) d 153 16 L S M Q = (pI S fun y S => pI S fun x S => (x < y → vc n d 153 67 L S M Q) ∧ (¬ (x < y) → vc n d 153 19 L S M Q)) := nr rfl
set_option maxRecDepth 100000 in
theorem v153_19 (n d : Nat) (L : List (Option mL)) (S : List mV) (M : Mm) (Q : mQ) : vc (n + 1) d 153 19 L S M Q = (vc n d 153 20 L (.inl 0 :: S) M Q) := nr rfl
set_option maxRecDepth 100000 in
theorem v153_20 (n d : Nat) (L : List (Option mL)) (S : List mV) (M : Mm) (Q : mQ) : vc (n + 1) d 153 20 L S M Q = (pI S fun x S => sL L 3 (some (.inl x)) fun L => X d 153 21 L S M Q) := nr rfl
set_option maxRecDepth 100000 in
theorem v153_21 (n d : Nat) (L : List (Option mL)) (S : List mV) (M : Mm) (Q : mQ) : vc (n + 1) d 153 21 L S M Q = (gI L 3 fun x => vc n d 153 22 L (.inl x :: S) M Q) := nr rfl
set_option maxRecDepth 100000 in
theorem v153_22 (n d : Nat) (L : List (Option mL)) (S : List mV) (M : Mm) (Q : mQ) : vc (n + 1) d 153 22 L S M Q = (vc n d 153 24 L (.inl 18 :: S) M Q) := nr rfl
set_option maxRecDepth 100000 in
theorem v153_24 (n d : Nat) (L : List (Option mL)) (S : List mV) (M : Mm) (Q : mQ) : vc (n + 1) d 153 24 L S M Q = (pI S fun y S => pI S fun x S => (y ≤ x → vc n d 153 64 L S M Q) ∧ (¬ (y ≤ x) → vc n d 153 27 L S M Q)) := nr rfl
set_option maxRecDepth 100000 in
theorem v153_27 (n d : Nat) (L : List (Option mL)) (S : List mV) (M : Mm) (Q : mQ) : vc (n + 1) d 153 27 L S M Q = (gR L 0 fun x => vc n d 153 28 L (.inr (.inr x) :: S) M Q) := nr rfl
set_option maxRecDepth 100000 in
theorem v153_28 (n d : Nat) (L : List (Option mL)) (S : List mV) (M : Mm) (Q : mQ) : vc (n + 1) d 153 28 L S M Q = (pA S fun a S => shO M a 10 (rrf M a 4 fun r => vc n d 153 31 L (.inr (.inr r) :: S) M Q)) := nr rfl
set_option maxRecDepth 100000 in
theorem v153_31 (n d : Nat) (L : List (Option mL)) (S : List mV) (M : Mm) (Q : mQ) : vc (n + 1) d 153 31 L S M Q = (vc n d 153 33 L (.inl 18 :: S) M Q) := nr rfl
set_option maxRecDepth 100000 in
theorem v153_33 (n d : Nat) (L : List (Option mL)) (S : List mV) (M : Mm) (Q : mQ) : vc (n + 1) d 153 33 L S M Q = (gR L 0 fun x => vc n d 153 34 L (.inr (.inr x) :: S) M Q) := nr rfl
set_option maxRecDepth 100000 in
theorem v153_34 (n d : Nat) (L : List (Option mL)) (S : List mV) (M : Mm) (Q : mQ) : vc (n + 1) d 153 34 L S M Q = (pA S fun a S => shO M a 10 (rrf M a 20 fun r => vc n d 153 37 L (.inr (.inr r) :: S) M Q)) := nr rfl
set_option maxRecDepth 100000 in
theorem v153_37 (n d : Nat) (L : List (Option mL)) (S : List mV) (M : Mm) (Q : mQ) : vc (n + 1) d 153 37 L S M Q = (gI L 1 fun x => vc n d 153 38 L (.inl x :: S) M Q) := nr rfl
set_option maxRecDepth 100000 in
theorem v153_38 (n d : Nat) (L : List (Option mL)) (S : List mV) (M : Mm) (Q : mQ) : vc (n + 1) d 153 38 L S M Q = (pI S fun i S => pA S fun a S => shA M a fun t k => (t = 40 ∨ t = 41) ∧ inB i k ∧ vc n d 153 39 L (.inl (M.it a i.toNatClampNeg) :: S) M Q) := nr rfl
set_option maxRecDepth 100000 in
theorem v153_39 (n d : Nat) (L : List (Option mL)) (S : List mV) (M : Mm) (Q : mQ) : vc (n + 1) d 153 39 L S M Q = (vc n d 153 42 L (.inl 128 :: S) M Q) := nr rfl
set_option maxRecDepth 100000 in
theorem v153_42 (n d : Nat) (L : List (Option mL)) (S : List mV) (M : Mm) (Q : mQ) : vc (n + 1) d 153 42 L S M Q = (pI S fun y S => pI S fun x S => vc n d 153 43 L (.inl (x - y) :: S) M Q) := nr rfl
set_option maxRecDepth 100000 in
theorem v153_43 (n d : Nat) (L : List (Option mL)) (S : List mV) (M : Mm) (Q : mQ) : vc (n + 1) d 153 43 L S M Q = (pI S fun y S => pI S fun x S => vc n d 153 44 L (.inl (x * y) :: S) M Q) := nr rfl
set_option maxRecDepth 100000 in
theorem v153_44 (n d : Nat) (L : List (Option mL)) (S : List mV) (M : Mm) (Q : mQ) : vc (n + 1) d 153 44 L S M Q = (gI L 3 fun x => vc n d 153 45 L (.inl x :: S) M Q) := nr rfl
set_option maxRecDepth 100000 in
theorem v153_45 (n d : Nat) (L : List (Option mL)) (S : List mV) (M : Mm) (Q : mQ) : vc (n + 1) d 153 45 L S M Q = (pI S fun y S => pI S fun x S => vc n d 153 46 L (.inl (x + y) :: S) M Q) := nr rfl
set_option maxRecDepth 100000 in
theorem v153_46 (n d : Nat) (L : List (Option mL)) (S : List mV) (M : Mm) (Q : mQ) : vc (n + 1) d 153 46 L S M Q = (gR L 0 fun x => vc n d 153 47 L (.inr (.inr x) :: S) M Q) := nr rfl
set_option maxRecDepth 100000 in
theorem v153_47 (n d : Nat) (L : List (Option mL)) (S : List mV) (M : Mm) (Q : mQ) : vc (n + 1) d 153 47 L S M Q = (pA S fun a S => shO M a 10 (rrf M a 24 fun r => vc n d 153 50 L (.inr (.inr r) :: S) M Q)) := nr rfl
set_option maxRecDepth 100000 in
theorem v153_50 (n d : Nat) (L : List (Option mL)) (S : List mV) (M : Mm) (Q : mQ) : vc (n + 1) d 153 50 L S M Q = (vc n d 153 52 L (.inl 18 :: S) M Q) := nr rfl
set_option maxRecDepth 100000 in
theorem v153_52 (n d : Nat) (L : List (Option mL)) (S : List mV) (M : Mm) (Q : mQ) : vc (n + 1) d 153 52 L S M Q = (gI L 1 fun x => vc n d 153 53 L (.inl x :: S) M Q) := nr rfl
set_option maxRecDepth 100000 in
theorem v153_53 (n d : Nat) (L : List (Option mL)) (S : List mV) (M : Mm) (Q : mQ) : vc (n + 1) d 153 53 L S M Q = (pI S fun y S => pI S fun x S => vc n d 153 54 L (.inl (x * y) :: S) M Q) := nr rfl
set_option maxRecDepth 100000 in
theorem v153_54 (n d : Nat) (L : List (Option mL)) (S : List mV) (M : Mm) (Q : mQ) : vc (n + 1) d 153 54 L S M Q = (gI L 3 fun x => vc n d 153 55 L (.inl x :: S) M Q) := nr rfl
set_option maxRecDepth 100000 in
theorem v153_55 (n d : Nat) (L : List (Option mL)) (S : List mV) (M : Mm) (Q : mQ) : vc (n + 1) d 153 55 L S M Q = (pI S fun y S => pI S fun x S => vc n d 153 56 L (.inl (x + y) :: S) M Q) := nr rfl
set_option maxRecDepth 100000 in
theorem v153_56 (n d : Nat) (L : List (Option mL)) (S : List mV) (M : Mm) (Q : mQ) : vc (n + 1) d 153 56 L S M Q = (pI S fun i S => pA S fun a S => shA M a fun t k => (t = 40 ∨ t = 41) ∧ inB i k ∧ vc n d 153 57 L (.inl (M.it a i.toNatClampNeg) :: S) M Q) := nr rfl
set_option maxRecDepth 100000 in
theorem v153_57 (n d : Nat) (L : List (Option mL)) (S : List mV) (M : Mm) (Q : mQ) : vc (n + 1) d 153 57 L S M Q = (pI S fun x S => pI S fun i S => pA S fun a S => shA M a fun t k => t = 41 ∧ inB i k ∧ vc n d 153 58 L S (M.si a i.toNatClampNeg x) Q) := nr rfl
set_option maxRecDepth 100000 in
theorem v153_58 (n d : Nat) (L : List (Option mL)) (S : List mV) (M : Mm) (Q : mQ) : vc (n + 1) d 153 58 L S M Q = (gI L 3 fun x => sL L 3 (some (.inl (x + 1))) fun L => vc n d 153 61 L S M Q) := nr rfl
set_option maxRecDepth 100000 in
theorem v153_61 (n d : Nat) (L : List (Option mL)) (S : List mV) (M : Mm) (Q : mQ) : vc (n + 1) d 153 61 L S M Q = (X d 153 21 L S M Q) := nr rfl
set_option maxRecDepth 100000 in
theorem v153_64 (n d : Nat) (L : List (Option mL)) (S : List mV) (M : Mm) (Q : mQ) : vc (n + 1) d 153 64 L S M Q = (vc n d 153 108 L S M Q) := nr rfl
set_option maxRecDepth 100000 in
theorem v153_67 (n d : Nat) (L : List (Option mL)) (S : List mV) (M : Mm) (Q : mQ) : vc (n + 1) d 153 67 L S M Q = (vc n d 153 68 L (.inl 0 :: S) M Q) := nr rfl
set_option maxRecDepth 100000 in
theorem v153_68 (n d : Nat) (L : List (Option mL)) (S : List mV) (M : Mm) (Q : mQ) : vc (n + 1) d 153 68 L S M Q = (pI S fun x S => sL L 3 (some (.inl x)) fun L => X d 153 69 L S M Q) := nr rfl
set_option maxRecDepth 100000 in
theorem v153_69 (n d : Nat) (L : List (Option mL)) (S : List mV) (M : Mm) (Q : mQ) : vc (n + 1) d 153 69 L S M Q = (gI L 3 fun x => vc n d 153 70 L (.inl x :: S) M Q) := nr rfl
set_option maxRecDepth 100000 in
theorem v153_70 (n d : Nat) (L : List (Option mL)) (S : List mV) (M : Mm) (Q : mQ) : vc (n + 1) d 153 70 L S M Q = (vc n d 153 72 L (.inl 16 :: S) M Q) := nr rfl
set_option maxRecDepth 100000 in
theorem v153_72 (n d : Nat) (L : List (Option mL)) (S : List mV) (M : Mm) (Q : mQ) : vc (n + 1) d 153 72 L S M Q = (pI S fun y S => pI S fun x S => (y ≤ x → vc n d 153 108 L S M Q) ∧ (¬ (y ≤ x) → vc n d 153 75 L S M Q)) := nr rfl
set_option maxRecDepth 100000 in
theorem v153_75 (n d : Nat) (L : List (Option mL)) (S : List mV) (M : Mm) (Q : mQ) : vc (n + 1) d 153 75 L S M Q = (gR L 0 fun x => vc n d 153 76 L (.inr (.inr x) :: S) M Q) := nr rfl
set_option maxRecDepth 100000 in
theorem v153_76 (n d : Nat) (L : List (Option mL)) (S : List mV) (M : Mm) (Q : mQ) : vc (n + 1) d 153 76 L S M Q = (pA S fun a S => shO M a 10 (rrf M a 3 fun r => vc n d 153 79 L (.inr (.inr r) :: S) M Q)) := nr rfl
set_option maxRecDepth 100000 in
theorem v153_79 (n d : Nat) (L : List (Option mL)) (S : List mV) (M : Mm) (Q : mQ) : vc (n + 1) d 153 79 L S M Q = (vc n d 153 81 L (.inl 16 :: S) M Q) := nr rfl
set_option maxRecDepth 100000 in
theorem v153_81 (n d : Nat) (L : List (Option mL)) (S : List mV) (M : Mm) (Q : mQ) : vc (n + 1) d 153 81 L S M Q = (gR L 0 fun x => vc n d 153 82 L (.inr (.inr x) :: S) M Q) := nr rfl
set_option maxRecDepth 100000 in
theorem v153_82 (n d : Nat) (L : List (Option mL)) (S : List mV) (M : Mm) (Q : mQ) : vc (n + 1) d 153 82 L S M Q = (pA S fun a S => shO M a 10 (rrf M a 20 fun r => vc n d 153 85 L (.inr (.inr r) :: S) M Q)) := nr rfl
set_option maxRecDepth 100000 in
theorem v153_85 (n d : Nat) (L : List (Option mL)) (S : List mV) (M : Mm) (Q : mQ) : vc (n + 1) d 153 85 L S M Q = (gI L 1 fun x => vc n d 153 86 L (.inl x :: S) M Q) := nr rfl
set_option maxRecDepth 100000 in
theorem v153_86 (n d : Nat) (L : List (Option mL)) (S : List mV) (M : Mm) (Q : mQ) : vc (n + 1) d 153 86 L S M Q = (pI S fun i S => pA S fun a S => shA M a fun t k => (t = 40 ∨ t = 41) ∧ inB i k ∧ vc n d 153 87 L (.inl (M.it a i.toNatClampNeg) :: S) M Q) := nr rfl
set_option maxRecDepth 100000 in
theorem v153_87 (n d : Nat) (L : List (Option mL)) (S : List mV) (M : Mm) (Q : mQ) : vc (n + 1) d 153 87 L S M Q = (pI S fun y S => pI S fun x S => vc n d 153 88 L (.inl (x * y) :: S) M Q) := nr rfl
set_option maxRecDepth 100000 in
theorem v153_88 (n d : Nat) (L : List (Option mL)) (S : List mV) (M : Mm) (Q : mQ) : vc (n + 1) d 153 88 L S M Q = (gI L 3 fun x => vc n d 153 89 L (.inl x :: S) M Q) := nr rfl
set_option maxRecDepth 100000 in
theorem v153_89 (n d : Nat) (L : List (Option mL)) (S : List mV) (M : Mm) (Q : mQ) : vc (n + 1) d 153 89 L S M Q = (pI S fun y S => pI S fun x S => vc n d 153 90 L (.inl (x + y) :: S) M Q) := nr rfl
set_option maxRecDepth 100000 in
theorem v153_90 (n d : Nat) (L : List (Option mL)) (S : List mV) (M : Mm) (Q : mQ) : vc (n + 1) d 153 90 L S M Q = (gR L 0 fun x => vc n d 153 91 L (.inr (.inr x) :: S) M Q) := nr rfl
set_option maxRecDepth 100000 in
theorem v153_91 (n d : Nat) (L : List (Option mL)) (S : List mV) (M : Mm) (Q : mQ) : vc (n + 1) d 153 91 L S M Q = (pA S fun a S => shO M a 10 (rrf M a 23 fun r => vc n d 153 94 L (.inr (.inr r) :: S) M Q)) := nr rfl
set_option maxRecDepth 100000 in
theorem v153_94 (n d : Nat) (L : List (Option mL)) (S : List mV) (M : Mm) (Q : mQ) : vc (n + 1) d 153 94 L S M Q = (vc n d 153 96 L (.inl 16 :: S) M Q) := nr rfl
set_option maxRecDepth 100000 in
theorem v153_96 (n d : Nat) (L : List (Option mL)) (S : List mV) (M : Mm) (Q : mQ) : vc (n + 1) d 153 96 L S M Q = (gI L 1 fun x => vc n d 153 97 L (.inl x :: S) M Q) := nr rfl
set_option maxRecDepth 100000 in
theorem v153_97 (n d : Nat) (L : List (Option mL)) (S : List mV) (M : Mm) (Q : mQ) : vc (n + 1) d 153 97 L S M Q = (pI S fun y S => pI S fun x S => vc n d 153 98 L (.inl (x * y) :: S) M Q) := nr rfl
set_option maxRecDepth 100000 in
theorem v153_98 (n d : Nat) (L : List (Option mL)) (S : List mV) (M : Mm) (Q : mQ) : vc (n + 1) d 153 98 L S M Q = (gI L 3 fun x => vc n d 153 99 L (.inl x :: S) M Q) := nr rfl
set_option maxRecDepth 100000 in
theorem v153_99 (n d : Nat) (L : List (Option mL)) (S : List mV) (M : Mm) (Q : mQ) : vc (n + 1) d 153 99 L S M Q = (pI S fun y S => pI S fun x S => vc n d 153 100 L (.inl (x + y) :: S) M Q) := nr rfl
set_option maxRecDepth 100000 in
theorem v153_100 (n d : Nat) (L : List (Option mL)) (S : List mV) (M : Mm) (Q : mQ) : vc (n + 1) d 153 100 L S M Q = (pI S fun i S => pA S fun a S => shA M a fun t k => (t = 42 ∨ t = 44) ∧ inB i k ∧ vc n d 153 101 L (.inl (M.it a i.toNatClampNeg) :: S) M Q) := nr rfl
set_option maxRecDepth 100000 in
theorem v153_101 (n d : Nat) (L : List (Option mL)) (S : List mV) (M : Mm) (Q : mQ) : vc (n + 1) d 153 101 L S M Q = (pI S fun x S => pI S fun i S => pA S fun a S => shA M a fun t k => (t = 42 ∨ t = 44) ∧ inB i k ∧ vc n d 153 102 L S (M.si a i.toNatClampNeg (bnar t x)) Q) := nr rfl
set_option maxRecDepth 100000 in
theorem v153_102 (n d : Nat) (L : List (Option mL)) (S : List mV) (M : Mm) (Q : mQ) : vc (n + 1) d 153 102 L S M Q = (gI L 3 fun x => sL L 3 (some (.inl (x + 1))) fun L => vc n d 153 105 L S M Q) := nr rfl
set_option maxRecDepth 100000 in
theorem v153_105 (n d : Nat) (L : List (Option mL)) (S : List mV) (M : Mm) (Q : mQ) : vc (n + 1) d 153 105 L S M Q = (X d 153 69 L S M Q) := nr rfl
set_option maxRecDepth 100000 in
theorem v153_108 (n d : Nat) (L : List (Option mL)) (S : List mV) (M : Mm) (Q : mQ) : vc (n + 1) d 153 108 L S M Q = (gR L 0 fun x => vc n d 153 109 L (.inr (.inr x) :: S) M Q) := nr rfl
set_option maxRecDepth 100000 in
theorem v153_109 (n d : Nat) (L : List (Option mL)) (S : List mV) (M : Mm) (Q : mQ) : vc (n + 1) d 153 109 L S M Q = (pC S fun v S => vc n d 153 110 L (v :: v :: S) M Q) := nr rfl
set_option maxRecDepth 100000 in
theorem v153_110 (n d : Nat) (L : List (Option mL)) (S : List mV) (M : Mm) (Q : mQ) : vc (n + 1) d 153 110 L S M Q = (pA S fun a S => shO M a 10 (vc n d 153 113 L (.inl (M.it a 14) :: S) M Q)) := nr rfl
set_option maxRecDepth 100000 in
theorem v153_113 (n d : Nat) (L : List (Option mL)) (S : List mV) (M : Mm) (Q : mQ) : vc (n + 1) d 153 113 L S M Q = (vc n d 153 114 L (.inl 1 :: S) M Q) := nr rfl
set_option maxRecDepth 100000 in
theorem v153_114 (n d : Nat) (L : List (Option mL)) (S : List mV) (M : Mm) (Q : mQ) : vc (n + 1) d 153 114 L S M Q = (pI S fun y S => pI S fun x S => vc n d 153 115 L (.inl (x - y) :: S) M Q) := nr rfl
set_option maxRecDepth 100000 in
theorem v153_115 (n d : Nat) (L : List (Option mL)) (S : List mV) (M : Mm) (Q : mQ) : vc (n + 1) d 153 115 L S M Q = (pI S fun x S => pA S fun a S => shO M a 10 (vc n d 153 118 L S (M.si a 14 x) Q)) := nr rfl
set_option maxRecDepth 100000 in
theorem v153_118 (n d : Nat) (L : List (Option mL)) (S : List mV) (M : Mm) (Q : mQ) : vc (n + 1) d 153 118 L S M Q = (gI L 1 fun x => vc n d 153 119 L (.inl x :: S) M Q) := nr rfl
set_option maxRecDepth 100000 in
theorem v153_119 (n d : Nat) (L : List (Option mL)) (S : List mV) (M : Mm) (Q : mQ) : vc (n + 1) d 153 119 L S M Q = (pI S fun x S => sL L 3 (some (.inl x)) fun L => X d 153 120 L S M Q) := nr rfl
set_option maxRecDepth 100000 in
theorem v153_120 (n d : Nat) (L : List (Option mL)) (S : List mV) (M : Mm) (Q : mQ) : vc (n + 1) d 153 120 L S M Q = (gI L 3 fun x => vc n d 153 121 L (.inl x :: S) M Q) := nr rfl
set_option maxRecDepth 100000 in
theorem v153_121 (n d : Nat) (L : List (Option mL)) (S : List mV) (M : Mm) (Q : mQ) : vc (n + 1) d 153 121 L S M Q = (gR L 0 fun x => vc n d 153 122 L (.inr (.inr x) :: S) M Q) := nr rfl
set_option maxRecDepth 100000 in
theorem v153_122 (n d : Nat) (L : List (Option mL)) (S : List mV) (M : Mm) (Q : mQ) : vc (n + 1) d 153 122 L S M Q = (pA S fun a S => shO M a 10 (vc n d 153 125 L (.inl (M.it a 14) :: S) M Q)) := nr rfl
set_option maxRecDepth 100000 in
theorem v153_125 (n d : Nat) (L : List (Option mL)) (S : List mV) (M : Mm) (Q : mQ) : vc (n + 1) d 153 125 L S M Q = (pI S fun y S => pI S fun x S => (y ≤ x → vc n d 153 308 L S M Q) ∧ (¬ (y ≤ x) → vc n d 153 128 L S M Q)) := nr rfl
set_option maxRecDepth 100000 in
theorem v153_128 (n d : Nat) (L : List (Option mL)) (S : List mV) (M : Mm) (Q : mQ) : vc (n + 1) d 153 128 L S M Q = (gR L 0 fun x => vc n d 153 129 L (.inr (.inr x) :: S) M Q) := nr rfl
set_option maxRecDepth 100000 in
theorem v153_129 (n d : Nat) (L : List (Option mL)) (S : List mV) (M : Mm) (Q : mQ) : vc (n + 1) d 153 129 L S M Q = (pA S fun a S => shO M a 10 (rrf M a 19 fun r => vc n d 153 132 L (.inr (.inr r) :: S) M Q)) := nr rfl
set_option maxRecDepth 100000 in
theorem v153_132 (n d : Nat) (L : List (Option mL)) (S : List mV) (M : Mm) (Q : mQ) : vc (n + 1) d 153 132 L S M Q = (gI L 3 fun x => vc n d 153 133 L (.inl x :: S) M Q) := nr rfl
set_option maxRecDepth 100000 in
theorem v153_133 (n d : Nat) (L : List (Option mL)) (S : List mV) (M : Mm) (Q : mQ) : vc (n + 1) d 153 133 L S M Q = (gR L 0 fun x => vc n d 153 134 L (.inr (.inr x) :: S) M Q) := nr rfl
set_option maxRecDepth 100000 in
theorem v153_134 (n d : Nat) (L : List (Option mL)) (S : List mV) (M : Mm) (Q : mQ) : vc (n + 1) d 153 134 L S M Q = (pA S fun a S => shO M a 10 (rrf M a 19 fun r => vc n d 153 137 L (.inr (.inr r) :: S) M Q)) := nr rfl
set_option maxRecDepth 100000 in
theorem v153_137 (n d : Nat) (L : List (Option mL)) (S : List mV) (M : Mm) (Q : mQ) : vc (n + 1) d 153 137 L S M Q = (gI L 3 fun x => vc n d 153 138 L (.inl x :: S) M Q) := nr rfl
set_option maxRecDepth 100000 in
theorem v153_138 (n d : Nat) (L : List (Option mL)) (S : List mV) (M : Mm) (Q : mQ) : vc (n + 1) d 153 138 L S M Q = (vc n d 153 139 L (.inl 1 :: S) M Q) := nr rfl
set_option maxRecDepth 100000 in
theorem v153_139 (n d : Nat) (L : List (Option mL)) (S : List mV) (M : Mm) (Q : mQ) : vc (n + 1) d 153 139 L S M Q = (pI S fun y S => pI S fun x S => vc n d 153 140 L (.inl (x + y) :: S) M Q) := nr rfl
set_option maxRecDepth 100000 in
theorem v153_140 (n d : Nat) (L : List (Option mL)) (S : List mV) (M : Mm) (Q : mQ) : vc (n + 1) d 153 140 L S M Q = (pI S fun i S => pA S fun a S => shA M a fun t k => (t = 40 ∨ t = 41) ∧ inB i k ∧ vc n d 153 141 L (.inl (M.it a i.toNatClampNeg) :: S) M Q) := nr rfl
set_option maxRecDepth 100000 in
theorem v153_141 (n d : Nat) (L : List (Option mL)) (S : List mV) (M : Mm) (Q : mQ) : vc (n + 1) d 153 141 L S M Q = (pI S fun x S => pI S fun i S => pA S fun a S => shA M a fun t k => t = 41 ∧ inB i k ∧ vc n d 153 142 L S (M.si a i.toNatClampNeg x) Q) := nr rfl
set_option maxRecDepth 100000 in
theorem v153_142 (n d : Nat) (L : List (Option mL)) (S : List mV) (M : Mm) (Q : mQ) : vc (n + 1) d 153 142 L S M Q = (gR L 0 fun x => vc n d 153 143 L (.inr (.inr x) :: S) M Q) := nr rfl
set_option maxRecDepth 100000 in
theorem v153_143 (n d : Nat) (L : List (Option mL)) (S : List mV) (M : Mm) (Q : mQ) : vc (n + 1) d 153 143 L S M Q = (pA S fun a S => shO M a 10 (rrf M a 20 fun r => vc n d 153 146 L (.inr (.inr r) :: S) M Q)) := nr rfl
set_option maxRecDepth 100000 in
theorem v153_146 (n d : Nat) (L : List (Option mL)) (S : List mV) (M : Mm) (Q : mQ) : vc (n + 1) d 153 146 L S M Q = (gI L 3 fun x => vc n d 153 147 L (.inl x :: S) M Q) := nr rfl
set_option maxRecDepth 100000 in
theorem v153_147 (n d : Nat) (L : List (Option mL)) (S : List mV) (M : Mm) (Q : mQ) : vc (n + 1) d 153 147 L S M Q = (gR L 0 fun x => vc n d 153 148 L (.inr (.inr x) :: S) M Q) := nr rfl
set_option maxRecDepth 100000 in
theorem v153_148 (n d : Nat) (L : List (Option mL)) (S : List mV) (M : Mm) (Q : mQ) : vc (n + 1) d 153 148 L S M Q = (pA S fun a S => shO M a 10 (rrf M a 20 fun r => vc n d 153 151 L (.inr (.inr r) :: S) M Q)) := nr rfl
set_option maxRecDepth 100000 in
theorem v153_151 (n d : Nat) (L : List (Option mL)) (S : List mV) (M : Mm) (Q : mQ) : vc (n + 1) d 153 151 L S M Q = (gI L 3 fun x => vc n d 153 152 L (.inl x :: S) M Q) := nr rfl
set_option maxRecDepth 100000 in
theorem v153_152 (n d : Nat) (L : List (Option mL)) (S : List mV) (M : Mm) (Q : mQ) : vc (n + 1) d 153 152 L S M Q = (vc n d 153 153 L (.inl 1 :: S) M Q) := nr rfl
set_option maxRecDepth 100000 in
theorem v153_153 (n d : Nat) (L : List (Option mL)) (S : List mV) (M : Mm) (Q : mQ) : vc (n + 1) d 153 153 L S M Q = (pI S fun y S => pI S fun x S => vc n d 153 154 L (.inl (x + y) :: S) M Q) := nr rfl
set_option maxRecDepth 100000 in
theorem v153_154 (n d : Nat) (L : List (Option mL)) (S : List mV) (M : Mm) (Q : mQ) : vc (n + 1) d 153 154 L S M Q = (pI S fun i S => pA S fun a S => shA M a fun t k => (t = 40 ∨ t = 41) ∧ inB i k ∧ vc n d 153 155 L (.inl (M.it a i.toNatClampNeg) :: S) M Q) := nr rfl
set_option maxRecDepth 100000 in
theorem v153_155 (n d : Nat) (L : List (Option mL)) (S : List mV) (M : Mm) (Q : mQ) : vc (n + 1) d 153 155 L S M Q = (pI S fun x S => pI S fun i S => pA S fun a S => shA M a fun t k => t = 41 ∧ inB i k ∧ vc n d 153 156 L S (M.si a i.toNatClampNeg x) Q) := nr rfl
set_option maxRecDepth 100000 in
theorem v153_156 (n d : Nat) (L : List (Option mL)) (S : List mV) (M : Mm) (Q : mQ) : vc (n + 1) d 153 156 L S M Q = (gR L 0 fun x => vc n d 153 157 L (.inr (.inr x) :: S) M Q) := nr rfl
set_option maxRecDepth 100000 in
theorem v153_157 (n d : Nat) (L : List (Option mL)) (S : List mV) (M : Mm) (Q : mQ) : vc (n + 1) d 153 157 L S M Q = (pA S fun a S => shO M a 10 (rrf M a 21 fun r => vc n d 153 160 L (.inr (.inr r) :: S) M Q)) := nr rfl
set_option maxRecDepth 100000 in
theorem v153_160 (n d : Nat) (L : List (Option mL)) (S : List mV) (M : Mm) (Q : mQ) : vc (n + 1) d 153 160 L S M Q = (gI L 3 fun x => vc n d 153 161 L (.inl x :: S) M Q) := nr rfl
set_option maxRecDepth 100000 in
theorem v153_161 (n d : Nat) (L : List (Option mL)) (S : List mV) (M : Mm) (Q : mQ) : vc (n + 1) d 153 161 L S M Q = (gR L 0 fun x => vc n d 153 162 L (.inr (.inr x) :: S) M Q) := nr rfl
set_option maxRecDepth 100000 in
theorem v153_162 (n d : Nat) (L : List (Option mL)) (S : List mV) (M : Mm) (Q : mQ) : vc (n + 1) d 153 162 L S M Q = (pA S fun a S => shO M a 10 (rrf M a 21 fun r => vc n d 153 165 L (.inr (.inr r) :: S) M Q)) := nr rfl
set_option maxRecDepth 100000 in
theorem v153_165 (n d : Nat) (L : List (Option mL)) (S : List mV) (M : Mm) (Q : mQ) : vc (n + 1) d 153 165 L S M Q = (gI L 3 fun x => vc n d 153 166 L (.inl x :: S) M Q) := nr rfl
set_option maxRecDepth 100000 in
theorem v153_166 (n d : Nat) (L : List (Option mL)) (S : List mV) (M : Mm) (Q : mQ) : vc (n + 1) d 153 166 L S M Q = (vc n d 153 167 L (.inl 1 :: S) M Q) := nr rfl
set_option maxRecDepth 100000 in
theorem v153_167 (n d : Nat) (L : List (Option mL)) (S : List mV) (M : Mm) (Q : mQ) : vc (n + 1) d 153 167 L S M Q = (pI S fun y S => pI S fun x S => vc n d 153 168 L (.inl (x + y) :: S) M Q) := nr rfl
set_option maxRecDepth 100000 in
theorem v153_168 (n d : Nat) (L : List (Option mL)) (S : List mV) (M : Mm) (Q : mQ) : vc (n + 1) d 153 168 L S M Q = (pI S fun i S => pA S fun a S => shA M a fun t k => (t = 40 ∨ t = 41) ∧ inB i k ∧ vc n d 153 169 L (.inl (M.it a i.toNatClampNeg) :: S) M Q) := nr rfl
set_option maxRecDepth 100000 in
theorem v153_169 (n d : Nat) (L : List (Option mL)) (S : List mV) (M : Mm) (Q : mQ) : vc (n + 1) d 153 169 L S M Q = (pI S fun x S => pI S fun i S => pA S fun a S => shA M a fun t k => t = 41 ∧ inB i k ∧ vc n d 153 170 L S (M.si a i.toNatClampNeg x) Q) := nr rfl
set_option maxRecDepth 100000 in
theorem v153_170 (n d : Nat) (L : List (Option mL)) (S : List mV) (M : Mm) (Q : mQ) : vc (n + 1) d 153 170 L S M Q = (vc n d 153 171 L (.inl 0 :: S) M Q) := nr rfl
set_option maxRecDepth 100000 in
theorem v153_171 (n d : Nat) (L : List (Option mL)) (S : List mV) (M : Mm) (Q : mQ) : vc (n + 1) d 153 171 L S M Q = (pI S fun x S => sL L 4 (some (.inl x)) fun L => X d 153 173 L S M Q) := nr rfl
set_option maxRecDepth 100000 in
theorem v153_173 (n d : Nat) (L : List (Option mL)) (S : List mV) (M : Mm) (Q : mQ) : vc (n + 1) d 153 173 L S M Q = (gI L 4 fun x => vc n d 153 175 L (.inl x :: S) M Q) := nr rfl
set_option maxRecDepth 100000 in
theorem v153_175 (n d : Nat) (L : List (Option mL)) (S : List mV) (M : Mm) (Q : mQ) : vc (n + 1) d 153 175 L S M Q = (gR L 0 fun x => vc n d 153 176 L (.inr (.inr x) :: S) M Q) := nr rfl
set_option maxRecDepth 100000 in
theorem v153_176 (n d : Nat) (L : List (Option mL)) (S : List mV) (M : Mm) (Q : mQ) : vc (n + 1) d 153 176 L S M Q = (pA S fun a S => shO M a 10 (rrf M a 21 fun r => vc n d 153 179 L (.inr (.inr r) :: S) M Q)) := nr rfl
set_option maxRecDepth 100000 in
theorem v153_179 (n d : Nat) (L : List (Option mL)) (S : List mV) (M : Mm) (Q : mQ) : vc (n + 1) d 153 179 L S M Q = (gI L 3 fun x => vc n d 153 180 L (.inl x :: S) M Q) := nr rfl
set_option maxRecDepth 100000 in
theorem v153_180 (n d : Nat) (L : List (Option mL)) (S : List mV) (M : Mm) (Q : mQ) : vc (n + 1) d 153 180 L S M Q = (pI S fun i S => pA S fun a S => shA M a fun t k => (t = 40 ∨ t = 41) ∧ inB i k ∧ vc n d 153 181 L (.inl (M.it a i.toNatClampNeg) :: S) M Q) := nr rfl
set_option maxRecDepth 100000 in
theorem v153_181 (n d : Nat) (L : List (Option mL)) (S : List mV) (M : Mm) (Q : mQ) : vc (n + 1) d 153 181 L S M Q = (pI S fun y S => pI S fun x S => (y ≤ x → vc n d 153 218 L S M Q) ∧ (¬ (y ≤ x) → vc n d 153 184 L S M Q)) := nr rfl
set_option maxRecDepth 100000 in
theorem v153_184 (n d : Nat) (L : List (Option mL)) (S : List mV) (M : Mm) (Q : mQ) : vc (n + 1) d 153 184 L S M Q = (gR L 0 fun x => vc n d 153 185 L (.inr (.inr x) :: S) M Q) := nr rfl
set_option maxRecDepth 100000 in
theorem v153_185 (n d : Nat) (L : List (Option mL)) (S : List mV) (M : Mm) (Q : mQ) : vc (n + 1) d 153 185 L S M Q = (pA S fun a S => shO M a 10 (rrf M a 22 fun r => vc n d 153 188 L (.inr (.inr r) :: S) M Q)) := nr rfl
set_option maxRecDepth 100000 in
theorem v153_188 (n d : Nat) (L : List (Option mL)) (S : List mV) (M : Mm) (Q : mQ) : vc (n + 1) d 153 188 L S M Q = (vc n d 153 191 L (.inl 200 :: S) M Q) := nr rfl
set_option maxRecDepth 100000 in
theorem v153_191 (n d : Nat) (L : List (Option mL)) (S : List mV) (M : Mm) (Q : mQ) : vc (n + 1) d 153 191 L S M Q = (gI L 3 fun x => vc n d 153 192 L (.inl x :: S) M Q) := nr rfl
set_option maxRecDepth 100000 in
theorem v153_192 (n d : Nat) (L : List (Option mL)) (S : List mV) (M : Mm) (Q : mQ) : vc (n + 1) d 153 192 L S M Q = (pI S fun y S => pI S fun x S => vc n d 153 193 L (.inl (x * y) :: S) M Q) := nr rfl
set_option maxRecDepth 100000 in
theorem v153_193 (n d : Nat) (L : List (Option mL)) (S : List mV) (M : Mm) (Q : mQ) : vc (n + 1) d 153 193 L S M Q = (gI L 4 fun x => vc n d 153 195 L (.inl x :: S) M Q) := nr rfl
set_option maxRecDepth 100000 in
theorem v153_195 (n d : Nat) (L : List (Option mL)) (S : List mV) (M : Mm) (Q : mQ) : vc (n + 1) d 153 195 L S M Q = (pI S fun y S => pI S fun x S => vc n d 153 196 L (.inl (x + y) :: S) M Q) := nr rfl
set_option maxRecDepth 100000 in
theorem v153_196 (n d : Nat) (L : List (Option mL)) (S : List mV) (M : Mm) (Q : mQ) : vc (n + 1) d 153 196 L S M Q = (gR L 0 fun x => vc n d 153 197 L (.inr (.inr x) :: S) M Q) := nr rfl
set_option maxRecDepth 100000 in
theorem v153_197 (n d : Nat) (L : List (Option mL)) (S : List mV) (M : Mm) (Q : mQ) : vc (n + 1) d 153 197 L S M Q = (pA S fun a S => shO M a 10 (rrf M a 22 fun r => vc n d 153 200 L (.inr (.inr r) :: S) M Q)) := nr rfl
set_option maxRecDepth 100000 in
theorem v153_200 (n d : Nat) (L : List (Option mL)) (S : List mV) (M : Mm) (Q : mQ) : vc (n + 1) d 153 200 L S M Q = (vc n d 153 203 L (.inl 200 :: S) M Q) := nr rfl
set_option maxRecDepth 100000 in
theorem v153_203 (n d : Nat) (L : List (Option mL)) (S : List mV) (M : Mm) (Q : mQ) : vc (n + 1) d 153 203 L S M Q = (gI L 3 fun x => vc n d 153 204 L (.inl x :: S) M Q) := nr rfl
set_option maxRecDepth 100000 in
theorem v153_204 (n d : Nat) (L : List (Option mL)) (S : List mV) (M : Mm) (Q : mQ) : vc (n + 1) d 153 204 L S M Q = (vc n d 153 205 L (.inl 1 :: S) M Q) := nr rfl
set_option maxRecDepth 100000 in
theorem v153_205 (n d : Nat) (L : List (Option mL)) (S : List mV) (M : Mm) (Q : mQ) : vc (n + 1) d 153 205 L S M Q = (pI S fun y S => pI S fun x S => vc n d 153 206 L (.inl (x + y) :: S) M Q) := nr rfl
set_option maxRecDepth 100000 in
theorem v153_206 (n d : Nat) (L : List (Option mL)) (S : List mV) (M : Mm) (Q : mQ) : vc (n + 1) d 153 206 L S M Q = (pI S fun y S => pI S fun x S => vc n d 153 207 L (.inl (x * y) :: S) M Q) := nr rfl
set_option maxRecDepth 100000 in
theorem v153_207 (n d : Nat) (L : List (Option mL)) (S : List mV) (M : Mm) (Q : mQ) : vc (n + 1) d 153 207 L S M Q = (gI L 4 fun x => vc n d 153 209 L (.inl x :: S) M Q) := nr rfl
set_option maxRecDepth 100000 in
theorem v153_209 (n d : Nat) (L : List (Option mL)) (S : List mV) (M : Mm) (Q : mQ) : vc (n + 1) d 153 209 L S M Q = (pI S fun y S => pI S fun x S => vc n d 153 210 L (.inl (x + y) :: S) M Q) := nr rfl
set_option maxRecDepth 100000 in
theorem v153_210 (n d : Nat) (L : List (Option mL)) (S : List mV) (M : Mm) (Q : mQ) : vc (n + 1) d 153 210 L S M Q = (pI S fun i S => pA S fun a S => shA M a fun t k => (t = 40 ∨ t = 41) ∧ inB i k ∧ vc n d 153 211 L (.inl (M.it a i.toNatClampNeg) :: S) M Q) := nr rfl
set_option maxRecDepth 100000 in
theorem v153_211 (n d : Nat) (L : List (Option mL)) (S : List mV) (M : Mm) (Q : mQ) : vc (n + 1) d 153 211 L S M Q = (pI S fun x S => pI S fun i S => pA S fun a S => shA M a fun t k => t = 41 ∧ inB i k ∧ vc n d 153 212 L S (M.si a i.toNatClampNeg x) Q) := nr rfl
set_option maxRecDepth 100000 in
theorem v153_212 (n d : Nat) (L : List (Option mL)) (S : List mV) (M : Mm) (Q : mQ) : vc (n + 1) d 153 212 L S M Q = (gI L 4 fun x => sL L 4 (some (.inl (x + 1))) fun L => vc n d 153 215 L S M Q) := nr rfl
set_option maxRecDepth 100000 in
theorem v153_215 (n d : Nat) (L : List (Option mL)) (S : List mV) (M : Mm) (Q : mQ) : vc (n + 1) d 153 215 L S M Q = (X d 153 173 L S M Q) := nr rfl
set_option maxRecDepth 100000 in
theorem v153_218 (n d : Nat) (L : List (Option mL)) (S : List mV) (M : Mm) (Q : mQ) : vc (n + 1) d 153 218 L S M Q = (vc n d 153 219 L (.inl 0 :: S) M Q) := nr rfl
set_option maxRecDepth 100000 in
theorem v153_219 (n d : Nat) (L : List (Option mL)) (S : List mV) (M : Mm) (Q : mQ) : vc (n + 1) d 153 219 L S M Q = (pI S fun x S => sL L 4 (some (.inl x)) fun L => X d 153 221 L S M Q) := nr rfl
set_option maxRecDepth 100000 in
theorem v153_221 (n d : Nat) (L : List (Option mL)) (S : List mV) (M : Mm) (Q : mQ) : vc (n + 1) d 153 221 L S M Q = (gI L 4 fun x => vc n d 153 223 L (.inl x :: S) M Q) := nr rfl
set_option maxRecDepth 100000 in
theorem v153_223 (n d : Nat) (L : List (Option mL)) (S : List mV) (M : Mm) (Q : mQ) : vc (n + 1) d 153 223 L S M Q = (vc n d 153 225 L (.inl 16 :: S) M Q) := nr rfl
set_option maxRecDepth 100000 in
theorem v153_225 (n d : Nat) (L : List (Option mL)) (S : List mV) (M : Mm) (Q : mQ) : vc (n + 1) d 153 225 L S M Q = (pI S fun y S => pI S fun x S => (y ≤ x → vc n d 153 260 L S M Q) ∧ (¬ (y ≤ x) → vc n d 153 228 L S M Q)) := nr rfl
set_option maxRecDepth 100000 in
theorem v153_228 (n d : Nat) (L : List (Option mL)) (S : List mV) (M : Mm) (Q : mQ) : vc (n + 1) d 153 228 L S M Q = (gR L 0 fun x => vc n d 153 229 L (.inr (.inr x) :: S) M Q) := nr rfl
set_option maxRecDepth 100000 in
theorem v153_229 (n d : Nat) (L : List (Option mL)) (S : List mV) (M : Mm) (Q : mQ) : vc (n + 1) d 153 229 L S M Q = (pA S fun a S => shO M a 10 (rrf M a 23 fun r => vc n d 153 232 L (.inr (.inr r) :: S) M Q)) := nr rfl
set_option maxRecDepth 100000 in
theorem v153_232 (n d : Nat) (L : List (Option mL)) (S : List mV) (M : Mm) (Q : mQ) : vc (n + 1) d 153 232 L S M Q = (vc n d 153 234 L (.inl 16 :: S) M Q) := nr rfl
set_option maxRecDepth 100000 in
theorem v153_234 (n d : Nat) (L : List (Option mL)) (S : List mV) (M : Mm) (Q : mQ) : vc (n + 1) d 153 234 L S M Q = (gI L 3 fun x => vc n d 153 235 L (.inl x :: S) M Q) := nr rfl
set_option maxRecDepth 100000 in
theorem v153_235 (n d : Nat) (L : List (Option mL)) (S : List mV) (M : Mm) (Q : mQ) : vc (n + 1) d 153 235 L S M Q = (pI S fun y S => pI S fun x S => vc n d 153 236 L (.inl (x * y) :: S) M Q) := nr rfl
set_option maxRecDepth 100000 in
theorem v153_236 (n d : Nat) (L : List (Option mL)) (S : List mV) (M : Mm) (Q : mQ) : vc (n + 1) d 153 236 L S M Q = (gI L 4 fun x => vc n d 153 238 L (.inl x :: S) M Q) := nr rfl
set_option maxRecDepth 100000 in
theorem v153_238 (n d : Nat) (L : List (Option mL)) (S : List mV) (M : Mm) (Q : mQ) : vc (n + 1) d 153 238 L S M Q = (pI S fun y S => pI S fun x S => vc n d 153 239 L (.inl (x + y) :: S) M Q) := nr rfl
set_option maxRecDepth 100000 in
theorem v153_239 (n d : Nat) (L : List (Option mL)) (S : List mV) (M : Mm) (Q : mQ) : vc (n + 1) d 153 239 L S M Q = (gR L 0 fun x => vc n d 153 240 L (.inr (.inr x) :: S) M Q) := nr rfl
set_option maxRecDepth 100000 in
theorem v153_240 (n d : Nat) (L : List (Option mL)) (S : List mV) (M : Mm) (Q : mQ) : vc (n + 1) d 153 240 L S M Q = (pA S fun a S => shO M a 10 (rrf M a 23 fun r => vc n d 153 243 L (.inr (.inr r) :: S) M Q)) := nr rfl
set_option maxRecDepth 100000 in
theorem v153_243 (n d : Nat) (L : List (Option mL)) (S : List mV) (M : Mm) (Q : mQ) : vc (n + 1) d 153 243 L S M Q = (vc n d 153 245 L (.inl 16 :: S) M Q) := nr rfl
set_option maxRecDepth 100000 in
theorem v153_245 (n d : Nat) (L : List (Option mL)) (S : List mV) (M : Mm) (Q : mQ) : vc (n + 1) d 153 245 L S M Q = (gI L 3 fun x => vc n d 153 246 L (.inl x :: S) M Q) := nr rfl
set_option maxRecDepth 100000 in
theorem v153_246 (n d : Nat) (L : List (Option mL)) (S : List mV) (M : Mm) (Q : mQ) : vc (n + 1) d 153 246 L S M Q = (vc n d 153 247 L (.inl 1 :: S) M Q) := nr rfl
set_option maxRecDepth 100000 in
theorem v153_247 (n d : Nat) (L : List (Option mL)) (S : List mV) (M : Mm) (Q : mQ) : vc (n + 1) d 153 247 L S M Q = (pI S fun y S => pI S fun x S => vc n d 153 248 L (.inl (x + y) :: S) M Q) := nr rfl
set_option maxRecDepth 100000 in
theorem v153_248 (n d : Nat) (L : List (Option mL)) (S : List mV) (M : Mm) (Q : mQ) : vc (n + 1) d 153 248 L S M Q = (pI S fun y S => pI S fun x S => vc n d 153 249 L (.inl (x * y) :: S) M Q) := nr rfl
set_option maxRecDepth 100000 in
theorem v153_249 (n d : Nat) (L : List (Option mL)) (S : List mV) (M : Mm) (Q : mQ) : vc (n + 1) d 153 249 L S M Q = (gI L 4 fun x => vc n d 153 251 L (.inl x :: S) M Q) := nr rfl
set_option maxRecDepth 100000 in
theorem v153_251 (n d : Nat) (L : List (Option mL)) (S : List mV) (M : Mm) (Q : mQ) : vc (n + 1) d 153 251 L S M Q = (pI S fun y S => pI S fun x S => vc n d 153 252 L (.inl (x + y) :: S) M Q) := nr rfl
set_option maxRecDepth 100000 in
theorem v153_252 (n d : Nat) (L : List (Option mL)) (S : List mV) (M : Mm) (Q : mQ) : vc (n + 1) d 153 252 L S M Q = (pI S fun i S => pA S fun a S => shA M a fun t k => (t = 42 ∨ t = 44) ∧ inB i k ∧ vc n d 153 253 L (.inl (M.it a i.toNatClampNeg) :: S) M Q) := nr rfl
set_option maxRecDepth 100000 in
theorem v153_253 (n d : Nat) (L : List (Option mL)) (S : List mV) (M : Mm) (Q : mQ) : vc (n + 1) d 153 253 L S M Q = (pI S fun x S => pI S fun i S => pA S fun a S => shA M a fun t k => (t = 42 ∨ t = 44) ∧ inB i k ∧ vc n d 153 254 L S (M.si a i.toNatClampNeg (bnar t x)) Q) := nr rfl
set_option maxRecDepth 100000 in
theorem v153_254 (n d : Nat) (L : List (Option mL)) (S : List mV) (M : Mm) (Q : mQ) : vc (n + 1) d 153 254 L S M Q = (gI L 4 fun x => sL L 4 (some (.inl (x + 1))) fun L => vc n d 153 257 L S M Q) := nr rfl
set_option maxRecDepth 100000 in
theorem v153_257 (n d : Nat) (L : List (Option mL)) (S : List mV) (M : Mm) (Q : mQ) : vc (n + 1) d 153 257 L S M Q = (X d 153 221 L S M Q) := nr rfl
set_option maxRecDepth 100000 in
theorem v153_260 (n d : Nat) (L : List (Option mL)) (S : List mV) (M : Mm) (Q : mQ) : vc (n + 1) d 153 260 L S M Q = (vc n d 153 261 L (.inl 0 :: S) M Q) := nr rfl
set_option maxRecDepth 100000 in
theorem v153_261 (n d : Nat) (L : List (Option mL)) (S : List mV) (M : Mm) (Q : mQ) : vc (n + 1) d 153 261 L S M Q = (pI S fun x S => sL L 4 (some (.inl x)) fun L => X d 153 263 L S M Q) := nr rfl
set_option maxRecDepth 100000 in
theorem v153_263 (n d : Nat) (L : List (Option mL)) (S : List mV) (M : Mm) (Q : mQ) : vc (n + 1) d 153 263 L S M Q = (gI L 4 fun x => vc n d 153 265 L (.inl x :: S) M Q) := nr rfl
set_option maxRecDepth 100000 in
theorem v153_265 (n d : Nat) (L : List (Option mL)) (S : List mV) (M : Mm) (Q : mQ) : vc (n + 1) d 153 265 L S M Q = (vc n d 153 267 L (.inl 18 :: S) M Q) := nr rfl
set_option maxRecDepth 100000 in
theorem v153_267 (n d : Nat) (L : List (Option mL)) (S : List mV) (M : Mm) (Q : mQ) : vc (n + 1) d 153 267 L S M Q = (pI S fun y S => pI S fun x S => (y ≤ x → vc n d 153 302 L S M Q) ∧ (¬ (y ≤ x) → vc n d 153 270 L S M Q)) := nr rfl
set_option maxRecDepth 100000 in
theorem v153_270 (n d : Nat) (L : List (Option mL)) (S : List mV) (M : Mm) (Q : mQ) : vc (n + 1) d 153 270 L S M Q = (gR L 0 fun x => vc n d 153 271 L (.inr (.inr x) :: S) M Q) := nr rfl
set_option maxRecDepth 100000 in
theorem v153_271 (n d : Nat) (L : List (Option mL)) (S : List mV) (M : Mm) (Q : mQ) : vc (n + 1) d 153 271 L S M Q = (pA S fun a S => shO M a 10 (rrf M a 24 fun r => vc n d 153 274 L (.inr (.inr r) :: S) M Q)) := nr rfl
set_option maxRecDepth 100000 in
theorem v153_274 (n d : Nat) (L : List (Option mL)) (S : List mV) (M : Mm) (Q : mQ) : vc (n + 1) d 153 274 L S M Q = (vc n d 153 276 L (.inl 18 :: S) M Q) := nr rfl
set_option maxRecDepth 100000 in
theorem v153_276 (n d : Nat) (L : List (Option mL)) (S : List mV) (M : Mm) (Q : mQ) : vc (n + 1) d 153 276 L S M Q = (gI L 3 fun x => vc n d 153 277 L (.inl x :: S) M Q) := nr rfl
set_option maxRecDepth 100000 in
theorem v153_277 (n d : Nat) (L : List (Option mL)) (S : List mV) (M : Mm) (Q : mQ) : vc (n + 1) d 153 277 L S M Q = (pI S fun y S => pI S fun x S => vc n d 153 278 L (.inl (x * y) :: S) M Q) := nr rfl
set_option maxRecDepth 100000 in
theorem v153_278 (n d : Nat) (L : List (Option mL)) (S : List mV) (M : Mm) (Q : mQ) : vc (n + 1) d 153 278 L S M Q = (gI L 4 fun x => vc n d 153 280 L (.inl x :: S) M Q) := nr rfl
set_option maxRecDepth 100000 in
theorem v153_280 (n d : Nat) (L : List (Option mL)) (S : List mV) (M : Mm) (Q : mQ) : vc (n + 1) d 153 280 L S M Q = (pI S fun y S => pI S fun x S => vc n d 153 281 L (.inl (x + y) :: S) M Q) := nr rfl
set_option maxRecDepth 100000 in
theorem v153_281 (n d : Nat) (L : List (Option mL)) (S : List mV) (M : Mm) (Q : mQ) : vc (n + 1) d 153 281 L S M Q = (gR L 0 fun x => vc n d 153 282 L (.inr (.inr x) :: S) M Q) := nr rfl
set_option maxRecDepth 100000 in
theorem v153_282 (n d : Nat) (L : List (Option mL)) (S : List mV) (M : Mm) (Q : mQ) : vc (n + 1) d 153 282 L S M Q = (pA S fun a S => shO M a 10 (rrf M a 24 fun r => vc n d 153 285 L (.inr (.inr r) :: S) M Q)) := nr rfl
set_option maxRecDepth 100000 in
theorem v153_285 (n d : Nat) (L : List (Option mL)) (S : List mV) (M : Mm) (Q : mQ) : vc (n + 1) d 153 285 L S M Q = (vc n d 153 287 L (.inl 18 :: S) M Q) := nr rfl
set_option maxRecDepth 100000 in
theorem v153_287 (n d : Nat) (L : List (Option mL)) (S : List mV) (M : Mm) (Q : mQ) : vc (n + 1) d 153 287 L S M Q = (gI L 3 fun x => vc n d 153 288 L (.inl x :: S) M Q) := nr rfl
set_option maxRecDepth 100000 in
theorem v153_288 (n d : Nat) (L : List (Option mL)) (S : List mV) (M : Mm) (Q : mQ) : vc (n + 1) d 153 288 L S M Q = (vc n d 153 289 L (.inl 1 :: S) M Q) := nr rfl
set_option maxRecDepth 100000 in
theorem v153_289 (n d : Nat) (L : List (Option mL)) (S : List mV) (M : Mm) (Q : mQ) : vc (n + 1) d 153 289 L S M Q = (pI S fun y S => pI S fun x S => vc n d 153 290 L (.inl (x + y) :: S) M Q) := nr rfl
set_option maxRecDepth 100000 in
theorem v153_290 (n d : Nat) (L : List (Option mL)) (S : List mV) (M : Mm) (Q : mQ) : vc (n + 1) d 153 290 L S M Q = (pI S fun y S => pI S fun x S => vc n d 153 291 L (.inl (x * y) :: S) M Q) := nr rfl
set_option maxRecDepth 100000 in
theorem v153_291 (n d : Nat) (L : List (Option mL)) (S : List mV) (M : Mm) (Q : mQ) : vc (n + 1) d 153 291 L S M Q = (gI L 4 fun x => vc n d 153 293 L (.inl x :: S) M Q) := nr rfl
set_option maxRecDepth 100000 in
theorem v153_293 (n d : Nat) (L : List (Option mL)) (S : List mV) (M : Mm) (Q : mQ) : vc (n + 1) d 153 293 L S M Q = (pI S fun y S => pI S fun x S => vc n d 153 294 L (.inl (x + y) :: S) M Q) := nr rfl
set_option maxRecDepth 100000 in
theorem v153_294 (n d : Nat) (L : List (Option mL)) (S : List mV) (M : Mm) (Q : mQ) : vc (n + 1) d 153 294 L S M Q = (pI S fun i S => pA S fun a S => shA M a fun t k => (t = 40 ∨ t = 41) ∧ inB i k ∧ vc n d 153 295 L (.inl (M.it a i.toNatClampNeg) :: S) M Q) := nr rfl
set_option maxRecDepth 100000 in
theorem v153_295 (n d : Nat) (L : List (Option mL)) (S : List mV) (M : Mm) (Q : mQ) : vc (n + 1) d 153 295 L S M Q = (pI S fun x S => pI S fun i S => pA S fun a S => shA M a fun t k => t = 41 ∧ inB i k ∧ vc n d 153 296 L S (M.si a i.toNatClampNeg x) Q) := nr rfl
set_option maxRecDepth 100000 in
theorem v153_296 (n d : Nat) (L : List (Option mL)) (S : List mV) (M : Mm) (Q : mQ) : vc (n + 1) d 153 296 L S M Q = (gI L 4 fun x => sL L 4 (some (.inl (x + 1))) fun L => vc n d 153 299 L S M Q) := nr rfl
set_option maxRecDepth 100000 in
theorem v153_299 (n d : Nat) (L : List (Option mL)) (S : List mV) (M : Mm) (Q : mQ) : vc (n + 1) d 153 299 L S M Q = (X d 153 263 L S M Q) := nr rfl
set_option maxRecDepth 100000 in
theorem v153_302 (n d : Nat) (L : List (Option mL)) (S : List mV) (M : Mm) (Q : mQ) : vc (n + 1) d 153 302 L S M Q = (gI L 3 fun x => sL L 3 (some (.inl (x + 1))) fun L => vc n d 153 305 L S M Q) := nr rfl
set_option maxRecDepth 100000 in
theorem v153_305 (n d : Nat) (L : List (Option mL)) (S : List mV) (M : Mm) (Q : mQ) : vc (n + 1) d 153 305 L S M Q = (X d 153 120 L S M Q) := nr rfl
set_option maxRecDepth 100000 in
theorem v153_308 (n d : Nat) (L : List (Option mL)) (S : List mV) (M : Mm) (Q : mQ) : vc (n + 1) d 153 308 L S M Q = (gI L 2 fun x => vc n d 153 309 L (.inl x :: S) M Q) := nr rfl
set_option maxRecDepth 100000 in
theorem v153_309 (n d : Nat) (L : List (Option mL)) (S : List mV) (M : Mm) (Q : mQ) : vc (n + 1) d 153 309 L S M Q = (pI S fun x S => S = [] ∧ (0 = 0 ∨ x = 0 ∨ x = 1) ∧ Q (some (.inl x)) M) := nr rfl
set_option maxRecDepth 100000 in
theorem v154_0 (n d : Nat) (L : List (Option mL)) (S : List mV) (M : Mm) (Q : mQ) : vc (n + 1) d 154 0 L S M Q = (gR L 0 fun x => vc n d 154 1 L (.inr (.inr x) :: S) M Q) := nr rfl
set_option maxRecDepth 100000 in
theorem v154_1 (n d : Nat) (L : List (Option mL)) (S : List mV) (M : Mm) (Q : mQ) : vc (n + 1) d 154 1 L S M Q = (vc n d 154 2 L (.inl 0 :: S) M Q) := nr rfl
set_option maxRecDepth 100000 in
theorem v154_2 (n d : Nat) (L : List (Option mL)) (S : List mV) (M : Mm) (Q : mQ) : vc (n + 1) d 154 2 L S M Q = (pI S fun x S => pA S fun a S => shO M a 10 (vc n d 154 5 L S (M.si a 0 x) Q)) := nr rfl
set_option maxRecDepth 100000 in
theorem v154_5 (n d : Nat) (L : List (Option mL)) (S : List mV) (M : Mm) (Q : mQ) : vc (n + 1) d 154 5 L S M Q = (gI L 1 fun x => vc n d 154 6 L (.inl x :: S) M Q) := nr rfl
set_option maxRecDepth 100000 in
theorem v154_6 (n d : Nat) (L : List (Option mL)) (S : List mV) (M : Mm) (Q : mQ) : vc (n + 1) d 154 6 L S M Q = (pI S fun x S => (x < 0 → vc n d 154 16 L S M Q) ∧ (¬ (x < 0) → vc n d 154 9 L S M Q)) := nr rfl
set_option maxRecDepth 100000 in
theorem v154_9 (n d : Nat) (L : List (Option mL)) (S : List mV) (M : Mm) (Q : mQ) : vc (n + 1) d 154 9 L S M Q = (gI L 1 fun x => vc n d 154 10 L (.inl x :: S) M Q) := nr rfl
set_option maxRecDepth 100000 in
theorem v154_10 (n d : Nat) (L : List (Option mL)) (S : List mV) (M : Mm) (Q : mQ) : vc (n + 1) d 154 10 L S M Q = (vc n d 154 13 L (.inl 200 :: S) M Q) := nr rfl
set_option maxRecDepth 100000 in
theorem v154_13 (n d : Nat) (L : List (Option mL)) (S : List mV) (M : Mm) (Q : mQ) : vc (n + 1) d 154 13 L S M Q = (pI S fun y S => pI S fun x S => (x ≤ y → vc n d 154 18 L S M Q) ∧ (¬ (x ≤ y) → vc n d 154 16 L S M Q)) := nr rfl
set_option maxRecDepth 100000 in
theorem v154_16 (n d : Nat) (L : List (Option mL)) (S : List mV) (M : Mm) (Q : mQ) : vc (n + 1) d 154 16 L S M Q = (vc n d 154 17 L (.inl (-1) :: S) M Q) := nr rfl
set_option maxRecDepth 100000 in
theorem v154_17 (n d : Nat) (L : List (Option mL)) (S : List mV) (M : Mm) (Q : mQ) : vc (n + 1) d 154 17 L S M Q = (pI S fun x S => S = [] ∧ (0 = 0 ∨ x = 0 ∨ x = 1) ∧ Q (some (.inl x)) M) := nr rfl
set_option maxRecDepth 100000 in
theorem v154_18 (n d : Nat) (L : List (Option mL)) (S : List mV) (M : Mm) (Q : mQ) : vc (n + 1) d 154 18 L S M Q = (vc n d 154 19 L (.inl 0 :: S) M Q) := nr rfl
set_option maxRecDepth 100000 in
theorem v154_19 (n d : Nat) (L : List (Option mL)) (S : List mV) (M : Mm) (Q : mQ) : vc (n + 1) d 154 19 L S M Q = (pI S fun x S => sL L 2 (some (.inl x)) fun L => X d 154 20 L S M Q) := nr rfl
set_option maxRecDepth 100000 in
theorem v154_20 (n d : Nat) (L : List (Option mL)) (S : List mV) (M : Mm) (Q : mQ) : vc (n + 1) d 154 20 L S M Q = (gI L 2 fun x => vc n d 154 21 L (.inl x :: S) M Q) := nr rfl
set_option maxRecDepth 100000 in
theorem v154_21 (n d : Nat) (L : List (Option mL)) (S : List mV) (M : Mm) (Q : mQ) : vc (n + 1) d 154 21 L S M Q = (gI L 1 fun x => vc n d 154 22 L (.inl x :: S) M Q) := nr rfl
set_option maxRecDepth 100000 in
theorem v154_22 (n d : Nat) (L : List (Option mL)) (S : List mV) (M : Mm) (Q : mQ) : vc (n + 1) d 154 22 L S M Q = (pI S fun y S => pI S fun x S => (y ≤ x → vc n d 154 61 L S M Q) ∧ (¬ (y ≤ x) → vc n d 154 25 L S M Q)) := nr rfl
set_option maxRecDepth 100000 in
theorem v154_25 (n d : Nat) (L : List (Option mL)) (S : List mV) (M : Mm) (Q : mQ) : vc (n + 1) d 154 25 L S M Q = (gR L 0 fun x => vc n d 154 26 L (.inr (.inr x) :: S) M Q) := nr rfl
set_option maxRecDepth 100000 in
theorem v154_26 (n d : Nat) (L : List (Option mL)) (S : List mV) (M : Mm) (Q : mQ) : vc (n + 1) d 154 26 L S M Q = (pA S fun a S => shO M a 10 (vc n d 154 29 L (.inl (M.it a 14) :: S) M Q)) := nr rfl
set_option maxRecDepth 100000 in
theorem v154_29 (n d : Nat) (L : List (Option mL)) (S : List mV) (M : Mm) (Q : mQ) : vc (n + 1) d 154 29 L S M Q = (pI S fun x S => (x ≤ 0 → vc n d 154 61 L S M Q) ∧ (¬ (x ≤ 0) → vc n d 154 32 L S M Q)) := nr rfl
set_option maxRecDepth 100000 in
theorem v154_32 (n d : Nat) (L : List (Option mL)) (S : List mV) (M : Mm) (Q : mQ) : vc (n + 1) d 154 32 L S M Q = (vc n d 154 33 L (.inl 0 :: S) M Q) := nr rfl
set_option maxRecDepth 100000 in
theorem v154_33 (n d : Nat) (L : List (Option mL)) (S : List mV) (M : Mm) (Q : mQ) : vc (n + 1) d 154 33 L S M Q = (pI S fun x S => sL L 3 (some (.inl x)) fun L => X d 154 34 L S M Q) := nr rfl
set_option maxRecDepth 100000 in
theorem v154_34 (n d : Nat) (L : List (Option mL)) (S : List mV) (M : Mm) (Q : mQ) : vc (n + 1) d 154 34 L S M Q = (gR L 0 fun x => vc n d 154 35 L (.inr (.inr x) :: S) M Q) := nr rfl
set_option maxRecDepth 100000 in
theorem v154_35 (n d : Nat) (L : List (Option mL)) (S : List mV) (M : Mm) (Q : mQ) : vc (n + 1) d 154 35 L S M Q = (gI L 3 fun x => vc n d 154 36 L (.inl x :: S) M Q) := nr rfl
set_option maxRecDepth 100000 in
theorem v154_36 (n d : Nat) (L : List (Option mL)) (S : List mV) (M : Mm) (Q : mQ) : vc (n + 1) d 154 36 L S M Q = (pAs 1 S fun as S => pA S fun a S => shO M a 10 (stk S ≤ 8 ∧ XC d 151 (.inr (some a) :: as) M (fun r M => ∃ x : Int32, r = some (.inl x) ∧ X d 154 39 L (.inl x :: S) M Q))) := nr rfl
set_option maxRecDepth 100000 in
theorem v154_39 (n d : Nat) (L : List (Option mL)) (S : List mV) (M : Mm) (Q : mQ) : vc (n + 1) d 154 39 L S M Q = (pI S fun x S => (x ≤ 0 → vc n d 154 48 L S M Q) ∧ (¬ (x ≤ 0) → vc n d 154 42 L S M Q)) := nr rfl
set_option maxRecDepth 100000 in
theorem v154_42 (n d : Nat) (L : List (Option mL)) (S : List mV) (M : Mm) (Q : mQ) : vc (n + 1) d 154 42 L S M Q = (gI L 3 fun x => sL L 3 (some (.inl (x + 1))) fun L => vc n d 154 45 L S M Q) := nr rfl
set_option maxRecDepth 100000 in
theorem v154_45 (n d : Nat) (L : List (Option mL)) (S : List mV) (M : Mm) (Q : mQ) : vc (n + 1) d 154 45 L S M Q = (X d 154 34 L S M Q) := nr rfl
set_option maxRecDepth 100000 in
theorem v154_48 (n d : Nat) (L : List (Option mL)) (S : List mV) (M : Mm) (Q : mQ) : vc (n + 1) d 154 48 L S M Q = (gR L 0 fun x => vc n d 154 49 L (.inr (.inr x) :: S) M Q) := nr rfl
set_option maxRecDepth 100000 in
theorem v154_49 (n d : Nat) (L : List (Option mL)) (S : List mV) (M : Mm) (Q : mQ) : vc (n + 1) d 154 49 L S M Q = (gI L 3 fun x => vc n d 154 50 L (.inl x :: S) M Q) := nr rfl
set_option maxRecDepth 100000 in
theorem v154_50 (n d : Nat) (L : List (Option mL)) (S : List mV) (M : Mm) (Q : mQ) : vc (n + 1) d 154 50 L S M Q = (pAs 1 S fun as S => pA S fun a S => shO M a 10 (stk S ≤ 8 ∧ XC d 153 (.inr (some a) :: as) M (fun r M => ∃ x : Int32, r = some (.inl x) ∧ X d 154 53 L (.inl x :: S) M Q))) := nr rfl
set_option maxRecDepth 100000 in
theorem v154_53 (n d : Nat) (L : List (Option mL)) (S : List mV) (M : Mm) (Q : mQ) : vc (n + 1) d 154 53 L S M Q = (pI S fun x S => sL L 4 (some (.inl x)) fun L => vc n d 154 55 L S M Q) := nr rfl
set_option maxRecDepth 100000 in
theorem v154_55 (n d : Nat) (L : List (Option mL)) (S : List mV) (M : Mm) (Q : mQ) : vc (n + 1) d 154 55 L S M Q = (gI L 2 fun x => sL L 2 (some (.inl (x + 1))) fun L => vc n d 154 58 L S M Q) := nr rfl
set_option maxRecDepth 100000 in
theorem v154_58 (n d : Nat) (L : List (Option mL)) (S : List mV) (M : Mm) (Q : mQ) : vc (n + 1) d 154 58 L S M Q = (X d 154 20 L S M Q) := nr rfl
set_option maxRecDepth 100000 in
theorem v154_61 (n d : Nat) (L : List (Option mL)) (S : List mV) (M : Mm) (Q : mQ) : vc (n + 1) d 154 61 L S M Q = (gI L 2 fun x => vc n d 154 62 L (.inl x :: S) M Q) := nr rfl
set_option maxRecDepth 100000 in
theorem v154_62 (n d : Nat) (L : List (Option mL)) (S : List mV) (M : Mm) (Q : mQ) : vc (n + 1) d 154 62 L S M Q = (pI S fun x S => S = [] ∧ (0 = 0 ∨ x = 0 ∨ x = 1) ∧ Q (some (.inl x)) M) := nr rfl
set_option maxRecDepth 100000 in
theorem v155_0 (n d : Nat) (L : List (Option mL)) (S : List mV) (M : Mm) (Q : mQ) : vc (n + 1) d 155 0 L S M Q = (gR L 0 fun x => vc n d 155 1 L (.inr (.inr x) :: S) M Q) := nr rfl
set_option maxRecDepth 100000 in
theorem v155_1 (n d : Nat) (L : List (Option mL)) (S : List mV) (M : Mm) (Q : mQ) : vc (n + 1) d 155 1 L S M Q = (vc n d 155 2 L (.inl 0 :: S) M Q) := nr rfl
set_option maxRecDepth 100000 in
theorem v155_2 (n d : Nat) (L : List (Option mL)) (S : List mV) (M : Mm) (Q : mQ) : vc (n + 1) d 155 2 L S M Q = (pI S fun x S => pA S fun a S => shO M a 10 (vc n d 155 5 L S (M.si a 0 x) Q)) := nr rfl
set_option maxRecDepth 100000 in
theorem v155_5 (n d : Nat) (L : List (Option mL)) (S : List mV) (M : Mm) (Q : mQ) : vc (n + 1) d 155 5 L S M Q = (gR L 0 fun x => vc n d 155 6 L (.inr (.inr x) :: S) M Q) := nr rfl
set_option maxRecDepth 100000 in
theorem v155_6 (n d : Nat) (L : List (Option mL)) (S : List mV) (M : Mm) (Q : mQ) : vc (n + 1) d 155 6 L S M Q = (pA S fun a S => shO M a 10 (vc n d 155 9 L (.inl (M.it a 5) :: S) M Q)) := nr rfl
set_option maxRecDepth 100000 in
theorem v155_9 (n d : Nat) (L : List (Option mL)) (S : List mV) (M : Mm) (Q : mQ) : vc (n + 1) d 155 9 L S M Q = (pI S fun x S => (x = 0 → vc n d 155 14 L S M Q) ∧ (¬ (x = 0) → vc n d 155 12 L S M Q)) := nr rfl
set_option maxRecDepth 100000 in
theorem v155_12 (n d : Nat) (L : List (Option mL)) (S : List mV) (M : Mm) (Q : mQ) : vc (n + 1) d 155 12 L S M Q = (vc n d 155 13 L (.inl (-1) :: S) M Q) := nr rfl
set_option maxRecDepth 100000 in
theorem v155_13 (n d : Nat) (L : List (Option mL)) (S : List mV) (M : Mm) (Q : mQ) : vc (n + 1) d 155 13 L S M Q = (pI S fun x S => S = [] ∧ (0 = 0 ∨ x = 0 ∨ x = 1) ∧ Q (some (.inl x)) M) := nr rfl
set_option maxRecDepth 100000 in
theorem v155_14 (n d : Nat) (L : List (Option mL)) (S : List mV) (M : Mm) (Q : mQ) : vc (n + 1) d 155 14 L S M Q = (gR L 0 fun x => vc n d 155 15 L (.inr (.inr x) :: S) M Q) := nr rfl
set_option maxRecDepth 100000 in
theorem v155_15 (n d : Nat) (L : List (Option mL)) (S : List mV) (M : Mm) (Q : mQ) : vc (n + 1) d 155 15 L S M Q = (pA S fun a S => shO M a 10 (vc n d 155 18 L (.inl (M.it a 14) :: S) M Q)) := nr rfl
set_option maxRecDepth 100000 in
theorem v155_18 (n d : Nat) (L : List (Option mL)) (S : List mV) (M : Mm) (Q : mQ) : vc (n + 1) d 155 18 L S M Q = (pI S fun x S => sL L 1 (some (.inl x)) fun L => vc n d 155 19 L S M Q) := nr rfl
set_option maxRecDepth 100000 in
theorem v155_19 (n d : Nat) (L : List (Option mL)) (S : List mV) (M : Mm) (Q : mQ) : vc (n + 1) d 155 19 L S M Q = (gR L 0 fun x => vc n d 155 20 L (.inr (.inr x) :: S) M Q) := nr rfl
set_option maxRecDepth 100000 in
theorem v155_20 (n d : Nat) (L : List (Option mL)) (S : List mV) (M : Mm) (Q : mQ) : vc (n + 1) d 155 20 L S M Q = (vc n d 155 21 L (.inl 1 :: S) M Q) := nr rfl
set_option maxRecDepth 100000 in
theorem v155_21 (n d : Nat) (L : List (Option mL)) (S : List mV) (M : Mm) (Q : mQ) : vc (n + 1) d 155 21 L S M Q = (pI S fun x S => pA S fun a S => (x = 0 ∨ x = 1) ∧ shO M a 10 (vc n d 155 24 L S (M.si a 5 x) Q)) := nr rfl
set_option maxRecDepth 100000 in
theorem v155_24 (n d : Nat) (L : List (Option mL)) (S : List mV) (M : Mm) (Q : mQ) : vc (n + 1) d 155 24 L S M Q = (gR L 0 fun x => vc n d 155 25 L (.inr (.inr x) :: S) M Q) := nr rfl
set_option maxRecDepth 100000 in
theorem v155_25 (n d : Nat) (L : List (Option mL)) (S : List mV) (M : Mm) (Q : mQ) : vc (n + 1) d 155 25 L S M Q = (vc n d 155 26 L (.inl 0 :: S) M Q) := nr rfl
set_option maxRecDepth 100000 in
theorem v155_26 (n d : Nat) (L : List (Option mL)) (S : List mV) (M : Mm) (Q : mQ) : vc (n + 1) d 155 26 L S M Q = (pI S fun x S => pA S fun a S => shO M a 10 (vc n d 155 29 L S (M.si a 14 x) Q)) := nr rfl
set_option maxRecDepth 100000 in
theorem v155_29 (n d : Nat) (L : List (Option mL)) (S : List mV) (M : Mm) (Q : mQ) : vc (n + 1) d 155 29 L S M Q = (gR L 0 fun x => vc n d 155 30 L (.inr (.inr x) :: S) M Q) := nr rfl
set_option maxRecDepth 100000 in
theorem v155_30 (n d : Nat) (L : List (Option mL)) (S : List mV) (M : Mm) (Q : mQ) : vc (n + 1) d 155 30 L S M Q = (vc n d 155 31 L (.inl 0 :: S) M Q) := nr rfl
set_option maxRecDepth 100000 in
theorem v155_31 (n d : Nat) (L : List (Option mL)) (S : List mV) (M : Mm) (Q : mQ) : vc (n + 1) d 155 31 L S M Q = (pI S fun x S => pA S fun a S => shO M a 10 (vc n d 155 34 L S (M.si a 27 x) Q)) := nr rfl
set_option maxRecDepth 100000 in
theorem v155_34 (n d : Nat) (L : List (Option mL)) (S : List mV) (M : Mm) (Q : mQ) : vc (n + 1) d 155 34 L S M Q = (gR L 0 fun x => vc n d 155 35 L (.inr (.inr x) :: S) M Q) := nr rfl
set_option maxRecDepth 100000 in
theorem v155_35 (n d : Nat) (L : List (Option mL)) (S : List mV) (M : Mm) (Q : mQ) : vc (n + 1) d 155 35 L S M Q = (pA S fun a S => shO M a 10 (rrf M a 4 fun r => vc n d 155 38 L (.inr (.inr r) :: S) M Q)) := nr rfl
set_option maxRecDepth 100000 in
theorem v155_38 (n d : Nat) (L : List (Option mL)) (S : List mV) (M : Mm) (Q : mQ) : vc (n + 1) d 155 38 L S M Q = (vc n d 155 40 L (.inl 18 :: S) M Q) := nr rfl
set_option maxRecDepth 100000 in
theorem v155_40 (n d : Nat) (L : List (Option mL)) (S : List mV) (M : Mm) (Q : mQ) : vc (n + 1) d 155 40 L S M Q = (gR L 0 fun x => vc n d 155 41 L (.inr (.inr x) :: S) M Q) := nr rfl
set_option maxRecDepth 100000 in
theorem v155_41 (n d : Nat) (L : List (Option mL)) (S : List mV) (M : Mm) (Q : mQ) : vc (n + 1) d 155 41 L S M Q = (pAs 0 S fun as S => pA S fun a S => shO M a 10 (stk S ≤ 8 ∧ XC d 149 (.inr (some a) :: as) M (fun r M => ∃ x : Int32, r = some (.inl x) ∧ X d 155 44 L (.inl x :: S) M Q))) := nr rfl
set_option maxRecDepth 100000 in
theorem v155_44 (n d : Nat) (L : List (Option mL)) (S : List mV) (M : Mm) (Q : mQ) : vc (n + 1) d 155 44 L S M Q = (pI S fun y S => pI S fun x S => vc n d 155 45 L (.inl (x * y) :: S) M Q) := nr rfl
set_option maxRecDepth 100000 in
theorem v155_45 (n d : Nat) (L : List (Option mL)) (S : List mV) (M : Mm) (Q : mQ) : vc (n + 1) d 155 45 L S M Q = (vc n d 155 46 L (.inl 1 :: S) M Q) := nr rfl
set_option maxRecDepth 100000 in
theorem v155_46 (n d : Nat) (L : List (Option mL)) (S : List mV) (M : Mm) (Q : mQ) : vc (n + 1) d 155 46 L S M Q = (pI S fun y S => pI S fun x S => vc n d 155 47 L (.inl (x + y) :: S) M Q) := nr rfl
set_option maxRecDepth 100000 in
theorem v155_47 (n d : Nat) (L : List (Option mL)) (S : List mV) (M : Mm) (Q : mQ) : vc (n + 1) d 155 47 L S M Q = (pI S fun i S => pA S fun a S => shA M a fun t k => (t = 40 ∨ t = 41) ∧ inB i k ∧ vc n d 155 48 L (.inl (M.it a i.toNatClampNeg) :: S) M Q) := nr rfl
set_option maxRecDepth 100000 in
theorem v155_48 (n d : Nat) (L : List (Option mL)) (S : List mV) (M : Mm) (Q : mQ) : vc (n + 1) d 155 48 L S M Q = (vc n d 155 49 L (.inl 1 :: S) M Q) := nr rfl
set_option maxRecDepth 100000 in
theorem v155_49 (n d : Nat) (L : List (Option mL)) (S : List mV) (M : Mm) (Q : mQ) : vc (n + 1) d 155 49 L S M Q = (pI S fun y S => pI S fun x S => vc n d 155 50 L (.inl (x + y) :: S) M Q) := nr rfl
set_option maxRecDepth 100000 in
theorem v155_50 (n d : Nat) (L : List (Option mL)) (S : List mV) (M : Mm) (Q : mQ) : vc (n + 1) d 155 50 L S M Q = (pI S fun x S => sL L 2 (some (.inl x)) fun L => X d 155 51 L S M Q) := nr rfl
set_option maxRecDepth 100000 in
theorem v155_51 (n d : Nat) (L : List (Option mL)) (S : List mV) (M : Mm) (Q : mQ) : vc (n + 1) d 155 51 L S M Q = (gI L 2 fun x => vc n d 155 52 L (.inl x :: S) M Q) := nr rfl
set_option maxRecDepth 100000 in
theorem v155_52 (n d : Nat) (L : List (Option mL)) (S : List mV) (M : Mm) (Q : mQ) : vc (n + 1) d 155 52 L S M Q = (gR L 0 fun x => vc n d 155 53 L (.inr (.inr x) :: S) M Q) := nr rfl
set_option maxRecDepth 100000 in
theorem v155_53 (n d : Nat) (L : List (Option mL)) (S : List mV) (M : Mm) (Q : mQ) : vc (n + 1) d 155 53 L S M Q = (pA S fun a S => shO M a 10 (vc n d 155 56 L (.inl (M.it a 13) :: S) M Q)) := nr rfl
set_option maxRecDepth 100000 in
theorem v155_56 (n d : Nat) (L : List (Option mL)) (S : List mV) (M : Mm) (Q : mQ) : vc (n + 1) d 155 56 L S M Q = (pI S fun y S => pI S fun x S => (y < x → vc n d 155 72 L S M Q) ∧ (¬ (y < x) → vc n d 155 59 L S M Q)) := nr rfl
set_option maxRecDepth 100000 in
theorem v155_59 (n d : Nat) (L : List (Option mL)) (S : List mV) (M : Mm) (Q : mQ) : vc (n + 1) d 155 59 L S M Q = (gR L 0 fun x => vc n d 155 60 L (.inr (.inr x) :: S) M Q) := nr rfl
set_option maxRecDepth 100000 in
theorem v155_60 (n d : Nat) (L : List (Option mL)) (S : List mV) (M : Mm) (Q : mQ) : vc (n + 1) d 155 60 L S M Q = (pA S fun a S => shO M a 10 (rrf M a 25 fun r => vc n d 155 63 L (.inr (.inr r) :: S) M Q)) := nr rfl
set_option maxRecDepth 100000 in
theorem v155_63 (n d : Nat) (L : List (Option mL)) (S : List mV) (M : Mm) (Q : mQ) : vc (n + 1) d 155 63 L S M Q = (gI L 2 fun x => vc n d 155 64 L (.inl x :: S) M Q) := nr rfl
set_option maxRecDepth 100000 in
theorem v155_64 (n d : Nat) (L : List (Option mL)) (S : List mV) (M : Mm) (Q : mQ) : vc (n + 1) d 155 64 L S M Q = (vc n d 155 65 L (.inl 1 :: S) M Q) := nr rfl
set_option maxRecDepth 100000 in
theorem v155_65 (n d : Nat) (L : List (Option mL)) (S : List mV) (M : Mm) (Q : mQ) : vc (n + 1) d 155 65 L S M Q = (pI S fun x S => pI S fun i S => pA S fun a S => shA M a fun t k => (t = 42 ∨ t = 44) ∧ inB i k ∧ vc n d 155 66 L S (M.si a i.toNatClampNeg (bnar t x)) Q) := nr rfl
set_option maxRecDepth 100000 in
theorem v155_66 (n d : Nat) (L : List (Option mL)) (S : List mV) (M : Mm) (Q : mQ) : vc (n + 1) d 155 66 L S M Q = (gI L 2 fun x => sL L 2 (some (.inl (x + 1))) fun L => vc n d 155 69 L S M Q) := nr rfl
set_option maxRecDepth 100000 in
theorem v155_69 (n d : Nat) (L : List (Option mL)) (S : List mV) (M : Mm) (Q : mQ) : vc (n + 1) d 155 69 L S M Q = (X d 155 51 L S M Q) := nr rfl
set_option maxRecDepth 100000 in
theorem v155_72 (n d : Nat) (L : List (Option mL)) (S : List mV) (M : Mm) (Q : mQ) : vc (n + 1) d 155 72 L S M Q = (gI L 1 fun x => vc n d 155 73 L (.inl x :: S) M Q) := nr rfl
set_option maxRecDepth 100000 in
theorem v155_73 (n d : Nat) (L : List (Option mL)) (S : List mV) (M : Mm) (Q : mQ) : vc (n + 1) d 155 73 L S M Q = (pI S fun x S => S = [] ∧ (0 = 0 ∨ x = 0 ∨ x = 1) ∧ Q (some (.inl x)) M) := nr rfl
set_option maxRecDepth 100000 in
theorem v156_0 (n d : Nat) (L : List (Option mL)) (S : List mV) (M : Mm) (Q : mQ) : vc (n + 1) d 156 0 L S M Q = (gR L 0 fun x => vc n d 156 1 L (.inr (.inr x) :: S) M Q) := nr rfl
set_option maxRecDepth 100000 in
theorem v156_1 (n d : Nat) (L : List (Option mL)) (S : List mV) (M : Mm) (Q : mQ) : vc (n + 1) d 156 1 L S M Q = (vc n d 156 2 L (.inl 0 :: S) M Q) := nr rfl
set_option maxRecDepth 100000 in
theorem v156_2 (n d : Nat) (L : List (Option mL)) (S : List mV) (M : Mm) (Q : mQ) : vc (n + 1) d 156 2 L S M Q = (pI S fun x S => pA S fun a S => shO M a 10 (vc n d 156 5 L S (M.si a 0 x) Q)) := nr rfl
set_option maxRecDepth 100000 in
theorem v156_5 (n d : Nat) (L : List (Option mL)) (S : List mV) (M : Mm) (Q : mQ) : vc (n + 1) d 156 5 L S M Q = (gR L 0 fun x => vc n d 156 6 L (.inr (.inr x) :: S) M Q) := nr rfl
set_option maxRecDepth 100000 in
theorem v156_6 (n d : Nat) (L : List (Option mL)) (S : List mV) (M : Mm) (Q : mQ) : vc (n + 1) d 156 6 L S M Q = (pA S fun a S => shO M a 10 (vc n d 156 9 L (.inl (M.it a 5) :: S) M Q)) := nr rfl
set_option maxRecDepth 100000 in
theorem v156_9 (n d : Nat) (L : List (Option mL)) (S : List mV) (M : Mm) (Q : mQ) : vc (n + 1) d 156 9 L S M Q = (pI S fun x S => (¬ x = 0 → vc n d 156 14 L S M Q) ∧ (¬ (¬ x = 0) → vc n d 156 12 L S M Q)) := nr rfl
set_option maxRecDepth 100000 in
theorem v156_12 (n d : Nat) (L : List (Option mL)) (S : List mV) (M : Mm) (Q : mQ) : vc (n + 1) d 156 12 L S M Q = (vc n d 156 13 L (.inl (-1) :: S) M Q) := nr rfl
set_option maxRecDepth 100000 in
theorem v156_13 (n d : Nat) (L : List (Option mL)) (S : List mV) (M : Mm) (Q : mQ) : vc (n + 1) d 156 13 L S M Q = (pI S fun x S => S = [] ∧ (0 = 0 ∨ x = 0 ∨ x = 1) ∧ Q (some (.inl x)) M) := nr rfl
set_option maxRecDepth 100000 in
theorem v156_14 (n d : Nat) (L : List (Option mL)) (S : List mV) (M : Mm) (Q : mQ) : vc (n + 1) d 156 14 L S M Q = (gR L 0 fun x => vc n d 156 15 L (.inr (.inr x) :: S) M Q) := nr rfl
set_option maxRecDepth 100000 in
theorem v156_15 (n d : Nat) (L : List (Option mL)) (S : List mV) (M : Mm) (Q : mQ) : vc (n + 1) d 156 15 L S M Q = (vc n d 156 16 L (.inl 0 :: S) M Q) := nr rfl
set_option maxRecDepth 100000 in
theorem v156_16 (n d : Nat) (L : List (Option mL)) (S : List mV) (M : Mm) (Q : mQ) : vc (n + 1) d 156 16 L S M Q = (pI S fun x S => pA S fun a S => (x = 0 ∨ x = 1) ∧ shO M a 10 (vc n d 156 19 L S (M.si a 5 x) Q)) := nr rfl
set_option maxRecDepth 100000 in
theorem v156_19 (n d : Nat) (L : List (Option mL)) (S : List mV) (M : Mm) (Q : mQ) : vc (n + 1) d 156 19 L S M Q = (vc n d 156 21 L (.inl 18 :: S) M Q) := nr rfl
set_option maxRecDepth 100000 in
theorem v156_21 (n d : Nat) (L : List (Option mL)) (S : List mV) (M : Mm) (Q : mQ) : vc (n + 1) d 156 21 L S M Q = (gR L 0 fun x => vc n d 156 22 L (.inr (.inr x) :: S) M Q) := nr rfl
set_option maxRecDepth 100000 in
theorem v156_22 (n d : Nat) (L : List (Option mL)) (S : List mV) (M : Mm) (Q : mQ) : vc (n + 1) d 156 22 L S M Q = (pAs 0 S fun as S => pA S fun a S => shO M a 10 (stk S ≤ 8 ∧ XC d 149 (.inr (some a) :: as) M (fun r M => ∃ x : Int32, r = some (.inl x) ∧ X d 156 25 L (.inl x :: S) M Q))) := nr rfl
set_option maxRecDepth 100000 in
theorem v156_25 (n d : Nat) (L : List (Option mL)) (S : List mV) (M : Mm) (Q : mQ) : vc (n + 1) d 156 25 L S M Q = (pI S fun y S => pI S fun x S => vc n d 156 26 L (.inl (x * y) :: S) M Q) := nr rfl
set_option maxRecDepth 100000 in
theorem v156_26 (n d : Nat) (L : List (Option mL)) (S : List mV) (M : Mm) (Q : mQ) : vc (n + 1) d 156 26 L S M Q = (pI S fun x S => sL L 1 (some (.inl x)) fun L => vc n d 156 27 L S M Q) := nr rfl
set_option maxRecDepth 100000 in
theorem v156_27 (n d : Nat) (L : List (Option mL)) (S : List mV) (M : Mm) (Q : mQ) : vc (n + 1) d 156 27 L S M Q = (gR L 0 fun x => vc n d 156 28 L (.inr (.inr x) :: S) M Q) := nr rfl
set_option maxRecDepth 100000 in
theorem v156_28 (n d : Nat) (L : List (Option mL)) (S : List mV) (M : Mm) (Q : mQ) : vc (n + 1) d 156 28 L S M Q = (gR L 0 fun x => vc n d 156 29 L (.inr (.inr x) :: S) M Q) := nr rfl
set_option maxRecDepth 100000 in
theorem v156_29 (n d : Nat) (L : List (Option mL)) (S : List mV) (M : Mm) (Q : mQ) : vc (n + 1) d 156 29 L S M Q = (pA S fun a S => shO M a 10 (rrf M a 4 fun r => vc n d 156 32 L (.inr (.inr r) :: S) M Q)) := nr rfl
set_option maxRecDepth 100000 in
theorem v156_32 (n d : Nat) (L : List (Option mL)) (S : List mV) (M : Mm) (Q : mQ) : vc (n + 1) d 156 32 L S M Q = (gI L 1 fun x => vc n d 156 33 L (.inl x :: S) M Q) := nr rfl
set_option maxRecDepth 100000 in
theorem v156_33 (n d : Nat) (L : List (Option mL)) (S : List mV) (M : Mm) (Q : mQ) : vc (n + 1) d 156 33 L S M Q = (pI S fun i S => pA S fun a S => shA M a fun t k => (t = 40 ∨ t = 41) ∧ inB i k ∧ vc n d 156 34 L (.inl (M.it a i.toNatClampNeg) :: S) M Q) := nr rfl
set_option maxRecDepth 100000 in
theorem v156_34 (n d : Nat) (L : List (Option mL)) (S : List mV) (M : Mm) (Q : mQ) : vc (n + 1) d 156 34 L S M Q = (pI S fun x S => pA S fun a S => shO M a 10 (vc n d 156 37 L S (M.si a 10 x) Q)) := nr rfl
set_option maxRecDepth 100000 in
theorem v156_37 (n d : Nat) (L : List (Option mL)) (S : List mV) (M : Mm) (Q : mQ) : vc (n + 1) d 156 37 L S M Q = (gR L 0 fun x => vc n d 156 38 L (.inr (.inr x) :: S) M Q) := nr rfl
set_option maxRecDepth 100000 in
theorem v156_38 (n d : Nat) (L : List (Option mL)) (S : List mV) (M : Mm) (Q : mQ) : vc (n + 1) d 156 38 L S M Q = (gR L 0 fun x => vc n d 156 39 L (.inr (.inr x) :: S) M Q) := nr rfl
set_option maxRecDepth 100000 in
theorem v156_39 (n d : Nat) (L : List (Option mL)) (S : List mV) (M : Mm) (Q : mQ) : vc (n + 1) d 156 39 L S M Q = (pA S fun a S => shO M a 10 (rrf M a 4 fun r => vc n d 156 42 L (.inr (.inr r) :: S) M Q)) := nr rfl
set_option maxRecDepth 100000 in
theorem v156_42 (n d : Nat) (L : List (Option mL)) (S : List mV) (M : Mm) (Q : mQ) : vc (n + 1) d 156 42 L S M Q = (gI L 1 fun x => vc n d 156 43 L (.inl x :: S) M Q) := nr rfl
set_option maxRecDepth 100000 in
theorem v156_43 (n d : Nat) (L : List (Option mL)) (S : List mV) (M : Mm) (Q : mQ) : vc (n + 1) d 156 43 L S M Q = (vc n d 156 44 L (.inl 2 :: S) M Q) := nr rfl
set_option maxRecDepth 100000 in
theorem v156_44 (n d : Nat) (L : List (Option mL)) (S : List mV) (M : Mm) (Q : mQ) : vc (n + 1) d 156 44 L S M Q = (pI S fun y S => pI S fun x S => vc n d 156 45 L (.inl (x + y) :: S) M Q) := nr rfl
set_option maxRecDepth 100000 in
theorem v156_45 (n d : Nat) (L : List (Option mL)) (S : List mV) (M : Mm) (Q : mQ) : vc (n + 1) d 156 45 L S M Q = (pI S fun i S => pA S fun a S => shA M a fun t k => (t = 40 ∨ t = 41) ∧ inB i k ∧ vc n d 156 46 L (.inl (M.it a i.toNatClampNeg) :: S) M Q) := nr rfl
set_option maxRecDepth 100000 in
theorem v156_46 (n d : Nat) (L : List (Option mL)) (S : List mV) (M : Mm) (Q : mQ) : vc (n + 1) d 156 46 L S M Q = (pI S fun x S => pA S fun a S => shO M a 10 (vc n d 156 49 L S (M.si a 12 x) Q)) := nr rfl
set_option maxRecDepth 100000 in
theorem v156_49 (n d : Nat) (L : List (Option mL)) (S : List mV) (M : Mm) (Q : mQ) : vc (n + 1) d 156 49 L S M Q = (gR L 0 fun x => vc n d 156 50 L (.inr (.inr x) :: S) M Q) := nr rfl
set_option maxRecDepth 100000 in
theorem v156_50 (n d : Nat) (L : List (Option mL)) (S : List mV) (M : Mm) (Q : mQ) : vc (n + 1) d 156 50 L S M Q = (gR L 0 fun x => vc n d 156 51 L (.inr (.inr x) :: S) M Q) := nr rfl
set_option maxRecDepth 100000 in
theorem v156_51 (n d : Nat) (L : List (Option mL)) (S : List mV) (M : Mm) (Q : mQ) : vc (n + 1) d 156 51 L S M Q = (pA S fun a S => shO M a 10 (rrf M a 4 fun r => vc n d 156 54 L (.inr (.inr r) :: S) M Q)) := nr rfl
set_option maxRecDepth 100000 in
theorem v156_54 (n d : Nat) (L : List (Option mL)) (S : List mV) (M : Mm) (Q : mQ) : vc (n + 1) d 156 54 L S M Q = (gI L 1 fun x => vc n d 156 55 L (.inl x :: S) M Q) := nr rfl
set_option maxRecDepth 100000 in
theorem v156_55 (n d : Nat) (L : List (Option mL)) (S : List mV) (M : Mm) (Q : mQ) : vc (n + 1) d 156 55 L S M Q = (vc n d 156 56 L (.inl 3 :: S) M Q) := nr rfl
set_option maxRecDepth 100000 in
theorem v156_56 (n d : Nat) (L : List (Option mL)) (S : List mV) (M : Mm) (Q : mQ) : vc (n + 1) d 156 56 L S M Q = (pI S fun y S => pI S fun x S => vc n d 156 57 L (.inl (x + y) :: S) M Q) := nr rfl
set_option maxRecDepth 100000 in
theorem v156_57 (n d : Nat) (L : List (Option mL)) (S : List mV) (M : Mm) (Q : mQ) : vc (n + 1) d 156 57 L S M Q = (pI S fun i S => pA S fun a S => shA M a fun t k => (t = 40 ∨ t = 41) ∧ inB i k ∧ vc n d 156 58 L (.inl (M.it a i.toNatClampNeg) :: S) M Q) := nr rfl
set_option maxRecDepth 100000 in
theorem v156_58 (n d : Nat) (L : List (Option mL)) (S : List mV) (M : Mm) (Q : mQ) : vc (n + 1) d 156 58 L S M Q = (pI S fun x S => pA S fun a S => shO M a 10 (vc n d 156 61 L S (M.si a 11 x) Q)) := nr rfl
set_option maxRecDepth 100000 in
theorem v156_61 (n d : Nat) (L : List (Option mL)) (S : List mV) (M : Mm) (Q : mQ) : vc (n + 1) d 156 61 L S M Q = (gR L 0 fun x => vc n d 156 62 L (.inr (.inr x) :: S) M Q) := nr rfl
set_option maxRecDepth 100000 in
theorem v156_62 (n d : Nat) (L : List (Option mL)) (S : List mV) (M : Mm) (Q : mQ) : vc (n + 1) d 156 62 L S M Q = (vc n d 156 63 L (.inl (-1) :: S) M Q) := nr rfl
set_option maxRecDepth 100000 in
theorem v156_63 (n d : Nat) (L : List (Option mL)) (S : List mV) (M : Mm) (Q : mQ) : vc (n + 1) d 156 63 L S M Q = (pI S fun x S => pA S fun a S => shO M a 10 (vc n d 156 66 L S (M.si a 9 x) Q)) := nr rfl
set_option maxRecDepth 100000 in
theorem v156_66 (n d : Nat) (L : List (Option mL)) (S : List mV) (M : Mm) (Q : mQ) : vc (n + 1) d 156 66 L S M Q = (vc n d 156 67 L (.inl 0 :: S) M Q) := nr rfl
set_option maxRecDepth 100000 in
theorem v156_67 (n d : Nat) (L : List (Option mL)) (S : List mV) (M : Mm) (Q : mQ) : vc (n + 1) d 156 67 L S M Q = (pI S fun x S => sL L 2 (some (.inl x)) fun L => X d 156 68 L S M Q) := nr rfl
set_option maxRecDepth 100000 in
theorem v156_68 (n d : Nat) (L : List (Option mL)) (S : List mV) (M : Mm) (Q : mQ) : vc (n + 1) d 156 68 L S M Q = (gI L 2 fun x => vc n d 156 69 L (.inl x :: S) M Q) := nr rfl
set_option maxRecDepth 100000 in
theorem v156_69 (n d : Nat) (L : List (Option mL)) (S : List mV) (M : Mm) (Q : mQ) : vc (n + 1) d 156 69 L S M Q = (vc n d 156 71 L (.inl 8 :: S) M Q) := nr rfl
set_option maxRecDepth 100000 in
theorem v156_71 (n d : Nat) (L : List (Option mL)) (S : List mV) (M : Mm) (Q : mQ) : vc (n + 1) d 156 71 L S M Q = (pI S fun y S => pI S fun x S => (y ≤ x → vc n d 156 103 L S M Q) ∧ (¬ (y ≤ x) → vc n d 156 74 L S M Q)) := nr rfl
set_option maxRecDepth 100000 in
theorem v156_74 (n d : Nat) (L : List (Option mL)) (S : List mV) (M : Mm) (Q : mQ) : vc (n + 1) d 156 74 L S M Q = (gR L 0 fun x => vc n d 156 75 L (.inr (.inr x) :: S) M Q) := nr rfl
set_option maxRecDepth 100000 in
theorem v156_75 (n d : Nat) (L : List (Option mL)) (S : List mV) (M : Mm) (Q : mQ) : vc (n + 1) d 156 75 L S M Q = (pA S fun a S => shO M a 10 (rrf M a 6 fun r => vc n d 156 78 L (.inr (.inr r) :: S) M Q)) := nr rfl
set_option maxRecDepth 100000 in
theorem v156_78 (n d : Nat) (L : List (Option mL)) (S : List mV) (M : Mm) (Q : mQ) : vc (n + 1) d 156 78 L S M Q = (gI L 2 fun x => vc n d 156 79 L (.inl x :: S) M Q) := nr rfl
set_option maxRecDepth 100000 in
theorem v156_79 (n d : Nat) (L : List (Option mL)) (S : List mV) (M : Mm) (Q : mQ) : vc (n + 1) d 156 79 L S M Q = (gR L 0 fun x => vc n d 156 80 L (.inr (.inr x) :: S) M Q) := nr rfl
set_option maxRecDepth 100000 in
theorem v156_80 (n d : Nat) (L : List (Option mL)) (S : List mV) (M : Mm) (Q : mQ) : vc (n + 1) d 156 80 L S M Q = (pA S fun a S => shO M a 10 (rrf M a 4 fun r => vc n d 156 83 L (.inr (.inr r) :: S) M Q)) := nr rfl
set_option maxRecDepth 100000 in
theorem v156_83 (n d : Nat) (L : List (Option mL)) (S : List mV) (M : Mm) (Q : mQ) : vc (n + 1) d 156 83 L S M Q = (gI L 1 fun x => vc n d 156 84 L (.inl x :: S) M Q) := nr rfl
set_option maxRecDepth 100000 in
theorem v156_84 (n d : Nat) (L : List (Option mL)) (S : List mV) (M : Mm) (Q : mQ) : vc (n + 1) d 156 84 L S M Q = (vc n d 156 85 L (.inl 4 :: S) M Q) := nr rfl
set_option maxRecDepth 100000 in
theorem v156_85 (n d : Nat) (L : List (Option mL)) (S : List mV) (M : Mm) (Q : mQ) : vc (n + 1) d 156 85 L S M Q = (pI S fun y S => pI S fun x S => vc n d 156 86 L (.inl (x + y) :: S) M Q) := nr rfl
set_option maxRecDepth 100000 in
theorem v156_86 (n d : Nat) (L : List (Option mL)) (S : List mV) (M : Mm) (Q : mQ) : vc (n + 1) d 156 86 L S M Q = (gI L 2 fun x => vc n d 156 87 L (.inl x :: S) M Q) := nr rfl
set_option maxRecDepth 100000 in
theorem v156_87 (n d : Nat) (L : List (Option mL)) (S : List mV) (M : Mm) (Q : mQ) : vc (n + 1) d 156 87 L S M Q = (pI S fun y S => pI S fun x S => vc n d 156 88 L (.inl (x + y) :: S) M Q) := nr rfl
set_option maxRecDepth 100000 in
theorem v156_88 (n d : Nat) (L : List (Option mL)) (S : List mV) (M : Mm) (Q : mQ) : vc (n + 1) d 156 88 L S M Q = (pI S fun i S => pA S fun a S => shA M a fun t k => (t = 40 ∨ t = 41) ∧ inB i k ∧ vc n d 156 89 L (.inl (M.it a i.toNatClampNeg) :: S) M Q) := nr rfl
set_option maxRecDepth 100000 in
theorem v156_89 (n d : Nat) (L : List (Option mL)) (S : List mV) (M : Mm) (Q : mQ) : vc (n + 1) d 156 89 L S M Q = (pI S fun x S => pI S fun i S => pA S fun a S => shA M a fun t k => t = 41 ∧ inB i k ∧ vc n d 156 90 L S (M.si a i.toNatClampNeg x) Q) := nr rfl
set_option maxRecDepth 100000 in
theorem v156_90 (n d : Nat) (L : List (Option mL)) (S : List mV) (M : Mm) (Q : mQ) : vc (n + 1) d 156 90 L S M Q = (gR L 0 fun x => vc n d 156 91 L (.inr (.inr x) :: S) M Q) := nr rfl
set_option maxRecDepth 100000 in
theorem v156_91 (n d : Nat) (L : List (Option mL)) (S : List mV) (M : Mm) (Q : mQ) : vc (n + 1) d 156 91 L S M Q = (pA S fun a S => shO M a 10 (rrf M a 7 fun r => vc n d 156 94 L (.inr (.inr r) :: S) M Q)) := nr rfl
set_option maxRecDepth 100000 in
theorem v156_94 (n d : Nat) (L : List (Option mL)) (S : List mV) (M : Mm) (Q : mQ) : vc (n + 1) d 156 94 L S M Q = (gI L 2 fun x => vc n d 156 95 L (.inl x :: S) M Q) := nr rfl
set_option maxRecDepth 100000 in
theorem v156_95 (n d : Nat) (L : List (Option mL)) (S : List mV) (M : Mm) (Q : mQ) : vc (n + 1) d 156 95 L S M Q = (vc n d 156 96 L (.inl (-1) :: S) M Q) := nr rfl
set_option maxRecDepth 100000 in
theorem v156_96 (n d : Nat) (L : List (Option mL)) (S : List mV) (M : Mm) (Q : mQ) : vc (n + 1) d 156 96 L S M Q = (pI S fun x S => pI S fun i S => pA S fun a S => shA M a fun t k => t = 41 ∧ inB i k ∧ vc n d 156 97 L S (M.si a i.toNatClampNeg x) Q) := nr rfl
set_option maxRecDepth 100000 in
theorem v156_97 (n d : Nat) (L : List (Option mL)) (S : List mV) (M : Mm) (Q : mQ) : vc (n + 1) d 156 97 L S M Q = (gI L 2 fun x => sL L 2 (some (.inl (x + 1))) fun L => vc n d 156 100 L S M Q) := nr rfl
set_option maxRecDepth 100000 in
theorem v156_100 (n d : Nat) (L : List (Option mL)) (S : List mV) (M : Mm) (Q : mQ) : vc (n + 1) d 156 100 L S M Q = (X d 156 68 L S M Q) := nr rfl
set_option maxRecDepth 100000 in
theorem v156_103 (n d : Nat) (L : List (Option mL)) (S : List mV) (M : Mm) (Q : mQ) : vc (n + 1) d 156 103 L S M Q = (vc n d 156 104 L (.inl 0 :: S) M Q) := nr rfl
set_option maxRecDepth 100000 in
theorem v156_104 (n d : Nat) (L : List (Option mL)) (S : List mV) (M : Mm) (Q : mQ) : vc (n + 1) d 156 104 L S M Q = (pI S fun x S => sL L 2 (some (.inl x)) fun L => X d 156 105 L S M Q) := nr rfl
set_option maxRecDepth 100000 in
theorem v156_105 (n d : Nat) (L : List (Option mL)) (S : List mV) (M : Mm) (Q : mQ) : vc (n + 1) d 156 105 L S M Q = (gI L 2 fun x => vc n d 156 106 L (.inl x :: S) M Q) := nr rfl
set_option maxRecDepth 100000 in
theorem v156_106 (n d : Nat) (L : List (Option mL)) (S : List mV) (M : Mm) (Q : mQ) : vc (n + 1) d 156 106 L S M Q = (vc n d 156 108 L (.inl 48 :: S) M Q) := nr rfl
set_option maxRecDepth 100000 in
theorem v156_108 (n d : Nat) (L : List (Option mL)) (S : List mV) (M : Mm) (Q : mQ) : vc (n + 1) d 156 108 L S M Q = (pI S fun y S => pI S fun x S => (y ≤ x → vc n d 156 124 L S M Q) ∧ (¬ (y ≤ x) → vc n d 156 111 L S M Q)) := nr rfl
set_option maxRecDepth 100000 in
theorem v156_111 (n d : Nat) (L : List (Option mL)) (S : List mV) (M : Mm) (Q : mQ) : vc (n + 1) d 156 111 L S M Q = (gR L 0 fun x => vc n d 156 112 L (.inr (.inr x) :: S) M Q) := nr rfl
set_option maxRecDepth 100000 in
theorem v156_112 (n d : Nat) (L : List (Option mL)) (S : List mV) (M : Mm) (Q : mQ) : vc (n + 1) d 156 112 L S M Q = (pA S fun a S => shO M a 10 (rrf M a 17 fun r => vc n d 156 115 L (.inr (.inr r) :: S) M Q)) := nr rfl
set_option maxRecDepth 100000 in
theorem v156_115 (n d : Nat) (L : List (Option mL)) (S : List mV) (M : Mm) (Q : mQ) : vc (n + 1) d 156 115 L S M Q = (gI L 2 fun x => vc n d 156 116 L (.inl x :: S) M Q) := nr rfl
set_option maxRecDepth 100000 in
theorem v156_116 (n d : Nat) (L : List (Option mL)) (S : List mV) (M : Mm) (Q : mQ) : vc (n + 1) d 156 116 L S M Q = (vc n d 156 117 L (.inl (-1) :: S) M Q) := nr rfl
set_option maxRecDepth 100000 in
theorem v156_117 (n d : Nat) (L : List (Option mL)) (S : List mV) (M : Mm) (Q : mQ) : vc (n + 1) d 156 117 L S M Q = (pI S fun x S => pI S fun i S => pA S fun a S => shA M a fun t k => t = 41 ∧ inB i k ∧ vc n d 156 118 L S (M.si a i.toNatClampNeg x) Q) := nr rfl
set_option maxRecDepth 100000 in
theorem v156_118 (n d : Nat) (L : List (Option mL)) (S : List mV) (M : Mm) (Q : mQ) : vc (n + 1) d 156 118 L S M Q = (gI L 2 fun x => sL L 2 (some (.inl (x + 1))) fun L => vc n d 156 121 L S M Q) := nr rfl
set_option maxRecDepth 100000 in
theorem v156_121 (n d : Nat) (L : List (Option mL)) (S : List mV) (M : Mm) (Q : mQ) : vc (n + 1) d 156 121 L S M Q = (X d 156 105 L S M Q) := nr rfl
set_option maxRecDepth 100000 in
theorem v156_124 (n d : Nat) (L : List (Option mL)) (S : List mV) (M : Mm) (Q : mQ) : vc (n + 1) d 156 124 L S M Q = (vc n d 156 125 L (.inl 0 :: S) M Q) := nr rfl
set_option maxRecDepth 100000 in
theorem v156_125 (n d : Nat) (L : List (Option mL)) (S : List mV) (M : Mm) (Q : mQ) : vc (n + 1) d 156 125 L S M Q = (pI S fun x S => sL L 2 (some (.inl x)) fun L => X d 156 126 L S M Q) := nr rfl
set_option maxRecDepth 100000 in
theorem v156_126 (n d : Nat) (L : List (Option mL)) (S : List mV) (M : Mm) (Q : mQ) : vc (n + 1) d 156 126 L S M Q = (gI L 2 fun x => vc n d 156 127 L (.inl x :: S) M Q) := nr rfl
set_option maxRecDepth 100000 in
theorem v156_127 (n d : Nat) (L : List (Option mL)) (S : List mV) (M : Mm) (Q : mQ) : vc (n + 1) d 156 127 L S M Q = (gR L 0 fun x => vc n d 156 128 L (.inr (.inr x) :: S) M Q) := nr rfl
set_option maxRecDepth 100000 in
theorem v156_128 (n d : Nat) (L : List (Option mL)) (S : List mV) (M : Mm) (Q : mQ) : vc (n + 1) d 156 128 L S M Q = (pA S fun a S => shO M a 10 (vc n d 156 131 L (.inl (M.it a 11) :: S) M Q)) := nr rfl
set_option maxRecDepth 100000 in
theorem v156_131 (n d : Nat) (L : List (Option mL)) (S : List mV) (M : Mm) (Q : mQ) : vc (n + 1) d 156 131 L S M Q = (pI S fun y S => pI S fun x S => (y ≤ x → vc n d 156 319 L S M Q) ∧ (¬ (y ≤ x) → vc n d 156 134 L S M Q)) := nr rfl
set_option maxRecDepth 100000 in
theorem v156_134 (n d : Nat) (L : List (Option mL)) (S : List mV) (M : Mm) (Q : mQ) : vc (n + 1) d 156 134 L S M Q = (gR L 0 fun x => vc n d 156 135 L (.inr (.inr x) :: S) M Q) := nr rfl
set_option maxRecDepth 100000 in
theorem v156_135 (n d : Nat) (L : List (Option mL)) (S : List mV) (M : Mm) (Q : mQ) : vc (n + 1) d 156 135 L S M Q = (pA S fun a S => shO M a 10 (rrf M a 16 fun r => vc n d 156 138 L (.inr (.inr r) :: S) M Q)) := nr rfl
set_option maxRecDepth 100000 in
theorem v156_138 (n d : Nat) (L : List (Option mL)) (S : List mV) (M : Mm) (Q : mQ) : vc (n + 1) d 156 138 L S M Q = (gI L 2 fun x => vc n d 156 139 L (.inl x :: S) M Q) := nr rfl
set_option maxRecDepth 100000 in
theorem v156_139 (n d : Nat) (L : List (Option mL)) (S : List mV) (M : Mm) (Q : mQ) : vc (n + 1) d 156 139 L S M Q = (vc n d 156 141 L (.inl 16 :: S) M Q) := nr rfl
set_option maxRecDepth 100000 in
theorem v156_141 (n d : Nat) (L : List (Option mL)) (S : List mV) (M : Mm) (Q : mQ) : vc (n + 1) d 156 141 L S M Q = (gR L 0 fun x => vc n d 156 142 L (.inr (.inr x) :: S) M Q) := nr rfl
set_option maxRecDepth 100000 in
theorem v156_142 (n d : Nat) (L : List (Option mL)) (S : List mV) (M : Mm) (Q : mQ) : vc (n + 1) d 156 142 L S M Q = (pA S fun a S => shO M a 10 (rrf M a 4 fun r => vc n d 156 145 L (.inr (.inr r) :: S) M Q)) := nr rfl
set_option maxRecDepth 100000 in
theorem v156_145 (n d : Nat) (L : List (Option mL)) (S : List mV) (M : Mm) (Q : mQ) : vc (n + 1) d 156 145 L S M Q = (gI L 1 fun x => vc n d 156 146 L (.inl x :: S) M Q) := nr rfl
set_option maxRecDepth 100000 in
theorem v156_146 (n d : Nat) (L : List (Option mL)) (S : List mV) (M : Mm) (Q : mQ) : vc (n + 1) d 156 146 L S M Q = (vc n d 156 148 L (.inl 12 :: S) M Q) := nr rfl
set_option maxRecDepth 100000 in
theorem v156_148 (n d : Nat) (L : List (Option mL)) (S : List mV) (M : Mm) (Q : mQ) : vc (n + 1) d 156 148 L S M Q = (pI S fun y S => pI S fun x S => vc n d 156 149 L (.inl (x + y) :: S) M Q) := nr rfl
set_option maxRecDepth 100000 in
theorem v156_149 (n d : Nat) (L : List (Option mL)) (S : List mV) (M : Mm) (Q : mQ) : vc (n + 1) d 156 149 L S M Q = (vc n d 156 150 L (.inl 2 :: S) M Q) := nr rfl
set_option maxRecDepth 100000 in
theorem v156_150 (n d : Nat) (L : List (Option mL)) (S : List mV) (M : Mm) (Q : mQ) : vc (n + 1) d 156 150 L S M Q = (gI L 2 fun x => vc n d 156 151 L (.inl x :: S) M Q) := nr rfl
set_option maxRecDepth 100000 in
theorem v156_151 (n d : Nat) (L : List (Option mL)) (S : List mV) (M : Mm) (Q : mQ) : vc (n + 1) d 156 151 L S M Q = (pI S fun y S => pI S fun x S => vc n d 156 152 L (.inl (x * y) :: S) M Q) := nr rfl
set_option maxRecDepth 100000 in
theorem v156_152 (n d : Nat) (L : List (Option mL)) (S : List mV) (M : Mm) (Q : mQ) : vc (n + 1) d 156 152 L S M Q = (pI S fun y S => pI S fun x S => vc n d 156 153 L (.inl (x + y) :: S) M Q) := nr rfl
set_option maxRecDepth 100000 in
theorem v156_153 (n d : Nat) (L : List (Option mL)) (S : List mV) (M : Mm) (Q : mQ) : vc (n + 1) d 156 153 L S M Q = (pI S fun i S => pA S fun a S => shA M a fun t k => (t = 40 ∨ t = 41) ∧ inB i k ∧ vc n d 156 154 L (.inl (M.it a i.toNatClampNeg) :: S) M Q) := nr rfl
set_option maxRecDepth 100000 in
theorem v156_154 (n d : Nat) (L : List (Option mL)) (S : List mV) (M : Mm) (Q : mQ) : vc (n + 1) d 156 154 L S M Q = (pI S fun y S => pI S fun x S => vc n d 156 155 L (.inl (x * y) :: S) M Q) := nr rfl
set_option maxRecDepth 100000 in
theorem v156_155 (n d : Nat) (L : List (Option mL)) (S : List mV) (M : Mm) (Q : mQ) : vc (n + 1) d 156 155 L S M Q = (gR L 0 fun x => vc n d 156 156 L (.inr (.inr x) :: S) M Q) := nr rfl
set_option maxRecDepth 100000 in
theorem v156_156 (n d : Nat) (L : List (Option mL)) (S : List mV) (M : Mm) (Q : mQ) : vc (n + 1) d 156 156 L S M Q = (pA S fun a S => shO M a 10 (rrf M a 4 fun r => vc n d 156 159 L (.inr (.inr r) :: S) M Q)) := nr rfl
set_option maxRecDepth 100000 in
theorem v156_159 (n d : Nat) (L : List (Option mL)) (S : List mV) (M : Mm) (Q : mQ) : vc (n + 1) d 156 159 L S M Q = (gI L 1 fun x => vc n d 156 160 L (.inl x :: S) M Q) := nr rfl
set_option maxRecDepth 100000 in
theorem v156_160 (n d : Nat) (L : List (Option mL)) (S : List mV) (M : Mm) (Q : mQ) : vc (n + 1) d 156 160 L S M Q = (vc n d 156 162 L (.inl 13 :: S) M Q) := nr rfl
set_option maxRecDepth 100000 in
theorem v156_162 (n d : Nat) (L : List (Option mL)) (S : List mV) (M : Mm) (Q : mQ) : vc (n + 1) d 156 162 L S M Q = (pI S fun y S => pI S fun x S => vc n d 156 163 L (.inl (x + y) :: S) M Q) := nr rfl
set_option maxRecDepth 100000 in
theorem v156_163 (n d : Nat) (L : List (Option mL)) (S : List mV) (M : Mm) (Q : mQ) : vc (n + 1) d 156 163 L S M Q = (vc n d 156 164 L (.inl 2 :: S) M Q) := nr rfl
set_option maxRecDepth 100000 in
theorem v156_164 (n d : Nat) (L : List (Option mL)) (S : List mV) (M : Mm) (Q : mQ) : vc (n + 1) d 156 164 L S M Q = (gI L 2 fun x => vc n d 156 165 L (.inl x :: S) M Q) := nr rfl
set_option maxRecDepth 100000 in
theorem v156_165 (n d : Nat) (L : List (Option mL)) (S : List mV) (M : Mm) (Q : mQ) : vc (n + 1) d 156 165 L S M Q = (pI S fun y S => pI S fun x S => vc n d 156 166 L (.inl (x * y) :: S) M Q) := nr rfl
set_option maxRecDepth 100000 in
theorem v156_166 (n d : Nat) (L : List (Option mL)) (S : List mV) (M : Mm) (Q : mQ) : vc (n + 1) d 156 166 L S M Q = (pI S fun y S => pI S fun x S => vc n d 156 167 L (.inl (x + y) :: S) M Q) := nr rfl
set_option maxRecDepth 100000 in
theorem v156_167 (n d : Nat) (L : List (Option mL)) (S : List mV) (M : Mm) (Q : mQ) : vc (n + 1) d 156 167 L S M Q = (pI S fun i S => pA S fun a S => shA M a fun t k => (t = 40 ∨ t = 41) ∧ inB i k ∧ vc n d 156 168 L (.inl (M.it a i.toNatClampNeg) :: S) M Q) := nr rfl
set_option maxRecDepth 100000 in
theorem v156_168 (n d : Nat) (L : List (Option mL)) (S : List mV) (M : Mm) (Q : mQ) : vc (n + 1) d 156 168 L S M Q = (pI S fun y S => pI S fun x S => vc n d 156 169 L (.inl (x + y) :: S) M Q) := nr rfl
set_option maxRecDepth 100000 in
theorem v156_169 (n d : Nat) (L : List (Option mL)) (S : List mV) (M : Mm) (Q : mQ) : vc (n + 1) d 156 169 L S M Q = (pI S fun x S => pI S fun i S => pA S fun a S => shA M a fun t k => t = 41 ∧ inB i k ∧ vc n d 156 170 L S (M.si a i.toNatClampNeg x) Q) := nr rfl
set_option maxRecDepth 100000 in
theorem v156_170 (n d : Nat) (L : List (Option mL)) (S : List mV) (M : Mm) (Q : mQ) : vc (n + 1) d 156 170 L S M Q = (vc n d 156 171 L (.inl 0 :: S) M Q) := nr rfl
set_option maxRecDepth 100000 in
theorem v156_171 (n d : Nat) (L : List (Option mL)) (S : List mV) (M : Mm) (Q : mQ) : vc (n + 1) d 156 171 L S M Q = (pI S fun x S => sL L 3 (some (.inl x)) fun L => X d 156 172 L S M Q) := nr rfl
set_option maxRecDepth 100000 in
theorem v156_172 (n d : Nat) (L : List (Option mL)) (S : List mV) (M : Mm) (Q : mQ) : vc (n + 1) d 156 172 L S M Q = (gI L 3 fun x => vc n d 156 173 L (.inl x :: S) M Q) := nr rfl
set_option maxRecDepth 100000 in
theorem v156_173 (n d : Nat) (L : List (Option mL)) (S : List mV) (M : Mm) (Q : mQ) : vc (n + 1) d 156 173 L S M Q = (vc n d 156 175 L (.inl 48 :: S) M Q) := nr rfl
set_option maxRecDepth 100000 in
theorem v156_175 (n d : Nat) (L : List (Option mL)) (S : List mV) (M : Mm) (Q : mQ) : vc (n + 1) d 156 175 L S M Q = (pI S fun y S => pI S fun x S => (y ≤ x → vc n d 156 196 L S M Q) ∧ (¬ (y ≤ x) → vc n d 156 178 L S M Q)) := nr rfl
set_option maxRecDepth 100000 in
theorem v156_178 (n d : Nat) (L : List (Option mL)) (S : List mV) (M : Mm) (Q : mQ) : vc (n + 1) d 156 178 L S M Q = (gR L 0 fun x => vc n d 156 179 L (.inr (.inr x) :: S) M Q) := nr rfl
set_option maxRecDepth 100000 in
theorem v156_179 (n d : Nat) (L : List (Option mL)) (S : List mV) (M : Mm) (Q : mQ) : vc (n + 1) d 156 179 L S M Q = (pA S fun a S => shO M a 10 (rrf M a 18 fun r => vc n d 156 182 L (.inr (.inr r) :: S) M Q)) := nr rfl
set_option maxRecDepth 100000 in
theorem v156_182 (n d : Nat) (L : List (Option mL)) (S : List mV) (M : Mm) (Q : mQ) : vc (n + 1) d 156 182 L S M Q = (vc n d 156 184 L (.inl 48 :: S) M Q) := nr rfl
set_option maxRecDepth 100000 in
theorem v156_184 (n d : Nat) (L : List (Option mL)) (S : List mV) (M : Mm) (Q : mQ) : vc (n + 1) d 156 184 L S M Q = (gI L 2 fun x => vc n d 156 185 L (.inl x :: S) M Q) := nr rfl
set_option maxRecDepth 100000 in
theorem v156_185 (n d : Nat) (L : List (Option mL)) (S : List mV) (M : Mm) (Q : mQ) : vc (n + 1) d 156 185 L S M Q = (pI S fun y S => pI S fun x S => vc n d 156 186 L (.inl (x * y) :: S) M Q) := nr rfl
set_option maxRecDepth 100000 in
theorem v156_186 (n d : Nat) (L : List (Option mL)) (S : List mV) (M : Mm) (Q : mQ) : vc (n + 1) d 156 186 L S M Q = (gI L 3 fun x => vc n d 156 187 L (.inl x :: S) M Q) := nr rfl
set_option maxRecDepth 100000 in
theorem v156_187 (n d : Nat) (L : List (Option mL)) (S : List mV) (M : Mm) (Q : mQ) : vc (n + 1) d 156 187 L S M Q = (pI S fun y S => pI S fun x S => vc n d 156 188 L (.inl (x + y) :: S) M Q) := nr rfl
set_option maxRecDepth 100000 in
theorem v156_188 (n d : Nat) (L : List (Option mL)) (S : List mV) (M : Mm) (Q : mQ) : vc (n + 1) d 156 188 L S M Q = (vc n d 156 189 L (.inl (-1) :: S) M Q) := nr rfl
set_option maxRecDepth 100000 in
theorem v156_189 (n d : Nat) (L : List (Option mL)) (S : List mV) (M : Mm) (Q : mQ) : vc (n + 1) d 156 189 L S M Q = (pI S fun x S => pI S fun i S => pA S fun a S => shA M a fun t k => t = 41 ∧ inB i k ∧ vc n d 156 190 L S (M.si a i.toNatClampNeg x) Q) := nr rfl
set_option maxRecDepth 100000 in
theorem v156_190 (n d : Nat) (L : List (Option mL)) (S : List mV) (M : Mm) (Q : mQ) : vc (n + 1) d 156 190 L S M Q = (gI L 3 fun x => sL L 3 (some (.inl (x + 1))) fun L => vc n d 156 193 L S M Q) := nr rfl
set_option maxRecDepth 100000 in
theorem v156_193 (n d : Nat) (L : List (Option mL)) (S : List mV) (M : Mm) (Q : mQ) : vc (n + 1) d 156 193 L S M Q = (X d 156 172 L S M Q) := nr rfl
set_option maxRecDepth 100000 in
theorem v156_196 (n d : Nat) (L : List (Option mL)) (S : List mV) (M : Mm) (Q : mQ) : vc (n + 1) d 156 196 L S M Q = (gR L 0 fun x => vc n d 156 197 L (.inr (.inr x) :: S) M Q) := nr rfl
set_option maxRecDepth 100000 in
theorem v156_197 (n d : Nat) (L : List (Option mL)) (S : List mV) (M : Mm) (Q : mQ) : vc (n + 1) d 156 197 L S M Q = (gR L 0 fun x => vc n d 156 198 L (.inr (.inr x) :: S) M Q) := nr rfl
set_option maxRecDepth 100000 in
theorem v156_198 (n d : Nat) (L : List (Option mL)) (S : List mV) (M : Mm) (Q : mQ) : vc (n + 1) d 156 198 L S M Q = (pA S fun a S => shO M a 10 (rrf M a 16 fun r => vc n d 156 201 L (.inr (.inr r) :: S) M Q)) := nr rfl
set_option maxRecDepth 100000 in
theorem v156_201 (n d : Nat) (L : List (Option mL)) (S : List mV) (M : Mm) (Q : mQ) : vc (n + 1) d 156 201 L S M Q = (gI L 2 fun x => vc n d 156 202 L (.inl x :: S) M Q) := nr rfl
set_option maxRecDepth 100000 in
theorem v156_202 (n d : Nat) (L : List (Option mL)) (S : List mV) (M : Mm) (Q : mQ) : vc (n + 1) d 156 202 L S M Q = (pI S fun i S => pA S fun a S => shA M a fun t k => (t = 40 ∨ t = 41) ∧ inB i k ∧ vc n d 156 203 L (.inl (M.it a i.toNatClampNeg) :: S) M Q) := nr rfl
set_option maxRecDepth 100000 in
theorem v156_203 (n d : Nat) (L : List (Option mL)) (S : List mV) (M : Mm) (Q : mQ) : vc (n + 1) d 156 203 L S M Q = (pAs 1 S fun as S => pA S fun a S => shO M a 10 (stk S ≤ 8 ∧ XC d 135 (.inr (some a) :: as) M (fun r M => r = none ∧ X d 156 206 L S M Q))) := nr rfl
set_option maxRecDepth 100000 in
theorem v156_206 (n d : Nat) (L : List (Option mL)) (S : List mV) (M : Mm) (Q : mQ) : vc (n + 1) d 156 206 L S M Q = (gR L 0 fun x => vc n d 156 207 L (.inr (.inr x) :: S) M Q) := nr rfl
set_option maxRecDepth 100000 in
theorem v156_207 (n d : Nat) (L : List (Option mL)) (S : List mV) (M : Mm) (Q : mQ) : vc (n + 1) d 156 207 L S M Q = (gR L 0 fun x => vc n d 156 208 L (.inr (.inr x) :: S) M Q) := nr rfl
set_option maxRecDepth 100000 in
theorem v156_208 (n d : Nat) (L : List (Option mL)) (S : List mV) (M : Mm) (Q : mQ) : vc (n + 1) d 156 208 L S M Q = (pA S fun a S => shO M a 10 (rrf M a 16 fun r => vc n d 156 211 L (.inr (.inr r) :: S) M Q)) := nr rfl
set_option maxRecDepth 100000 in
theorem v156_211 (n d : Nat) (L : List (Option mL)) (S : List mV) (M : Mm) (Q : mQ) : vc (n + 1) d 156 211 L S M Q = (gI L 2 fun x => vc n d 156 212 L (.inl x :: S) M Q) := nr rfl
set_option maxRecDepth 100000 in
theorem v156_212 (n d : Nat) (L : List (Option mL)) (S : List mV) (M : Mm) (Q : mQ) : vc (n + 1) d 156 212 L S M Q = (pI S fun i S => pA S fun a S => shA M a fun t k => (t = 40 ∨ t = 41) ∧ inB i k ∧ vc n d 156 213 L (.inl (M.it a i.toNatClampNeg) :: S) M Q) := nr rfl
set_option maxRecDepth 100000 in
theorem v156_213 (n d : Nat) (L : List (Option mL)) (S : List mV) (M : Mm) (Q : mQ) : vc (n + 1) d 156 213 L S M Q = (vc n d 156 214 L (.inl 0 :: S) M Q) := nr rfl
set_option maxRecDepth 100000 in
theorem v156_214 (n d : Nat) (L : List (Option mL)) (S : List mV) (M : Mm) (Q : mQ) : vc (n + 1) d 156 214 L S M Q = (pAs 2 S fun as S => pA S fun a S => shO M a 10 (stk S ≤ 8 ∧ XC d 134 (.inr (some a) :: as) M (fun r M => ∃ x : Int32, r = some (.inl x) ∧ X d 156 217 L (.inl x :: S) M Q))) := nr rfl
set_option maxRecDepth 100000 in
theorem v156_217 (n d : Nat) (L : List (Option mL)) (S : List mV) (M : Mm) (Q : mQ) : vc (n + 1) d 156 217 L S M Q = (pI S fun x S => sL L 3 (some (.inl x)) fun L => vc n d 156 218 L S M Q) := nr rfl
set_option maxRecDepth 100000 in
theorem v156_218 (n d : Nat) (L : List (Option mL)) (S : List mV) (M : Mm) (Q : mQ) : vc (n + 1) d 156 218 L S M Q = (vc n d 156 219 L (.inl 0 :: S) M Q) := nr rfl
set_option maxRecDepth 100000 in
theorem v156_219 (n d : Nat) (L : List (Option mL)) (S : List mV) (M : Mm) (Q : mQ) : vc (n + 1) d 156 219 L S M Q = (pI S fun x S => sL L 4 (some (.inl x)) fun L => X d 156 221 L S M Q) := nr rfl
set_option maxRecDepth 100000 in
theorem v156_221 (n d : Nat) (L : List (Option mL)) (S : List mV) (M : Mm) (Q : mQ) : vc (n + 1) d 156 221 L S M Q = (gI L 4 fun x => vc n d 156 223 L (.inl x :: S) M Q) := nr rfl
set_option maxRecDepth 100000 in
theorem v156_223 (n d : Nat) (L : List (Option mL)) (S : List mV) (M : Mm) (Q : mQ) : vc (n + 1) d 156 223 L S M Q = (gI L 3 fun x => vc n d 156 224 L (.inl x :: S) M Q) := nr rfl
set_option maxRecDepth 100000 in
theorem v156_224 (n d : Nat) (L : List (Option mL)) (S : List mV) (M : Mm) (Q : mQ) : vc (n + 1) d 156 224 L S M Q = (pI S fun y S => pI S fun x S => (y ≤ x → vc n d 156 313 L S M Q) ∧ (¬ (y ≤ x) → vc n d 156 227 L S M Q)) := nr rfl
set_option maxRecDepth 100000 in
theorem v156_227 (n d : Nat) (L : List (Option mL)) (S : List mV) (M : Mm) (Q : mQ) : vc (n + 1) d 156 227 L S M Q = (gR L 0 fun x => vc n d 156 228 L (.inr (.inr x) :: S) M Q) := nr rfl
set_option maxRecDepth 100000 in
theorem v156_228 (n d : Nat) (L : List (Option mL)) (S : List mV) (M : Mm) (Q : mQ) : vc (n + 1) d 156 228 L S M Q = (gR L 0 fun x => vc n d 156 229 L (.inr (.inr x) :: S) M Q) := nr rfl
set_option maxRecDepth 100000 in
theorem v156_229 (n d : Nat) (L : List (Option mL)) (S : List mV) (M : Mm) (Q : mQ) : vc (n + 1) d 156 229 L S M Q = (pA S fun a S => shO M a 10 (rrf M a 16 fun r => vc n d 156 232 L (.inr (.inr r) :: S) M Q)) := nr rfl
set_option maxRecDepth 100000 in
theorem v156_232 (n d : Nat) (L : List (Option mL)) (S : List mV) (M : Mm) (Q : mQ) : vc (n + 1) d 156 232 L S M Q = (gI L 2 fun x => vc n d 156 233 L (.inl x :: S) M Q) := nr rfl
set_option maxRecDepth 100000 in
theorem v156_233 (n d : Nat) (L : List (Option mL)) (S : List mV) (M : Mm) (Q : mQ) : vc (n + 1) d 156 233 L S M Q = (pI S fun i S => pA S fun a S => shA M a fun t k => (t = 40 ∨ t = 41) ∧ inB i k ∧ vc n d 156 234 L (.inl (M.it a i.toNatClampNeg) :: S) M Q) := nr rfl
set_option maxRecDepth 100000 in
theorem v156_234 (n d : Nat) (L : List (Option mL)) (S : List mV) (M : Mm) (Q : mQ) : vc (n + 1) d 156 234 L S M Q = (vc n d 156 235 L (.inl 2 :: S) M Q) := nr rfl
set_option maxRecDepth 100000 in
theorem v156_235 (n d : Nat) (L : List (Option mL)) (S : List mV) (M : Mm) (Q : mQ) : vc (n + 1) d 156 235 L S M Q = (vc n d 156 236 L (.inl 3 :: S) M Q) := nr rfl
set_option maxRecDepth 100000 in
theorem v156_236 (n d : Nat) (L : List (Option mL)) (S : List mV) (M : Mm) (Q : mQ) : vc (n + 1) d 156 236 L S M Q = (gI L 4 fun x => vc n d 156 238 L (.inl x :: S) M Q) := nr rfl
set_option maxRecDepth 100000 in
theorem v156_238 (n d : Nat) (L : List (Option mL)) (S : List mV) (M : Mm) (Q : mQ) : vc (n + 1) d 156 238 L S M Q = (pI S fun y S => pI S fun x S => vc n d 156 239 L (.inl (x * y) :: S) M Q) := nr rfl
set_option maxRecDepth 100000 in
theorem v156_239 (n d : Nat) (L : List (Option mL)) (S : List mV) (M : Mm) (Q : mQ) : vc (n + 1) d 156 239 L S M Q = (pI S fun y S => pI S fun x S => vc n d 156 240 L (.inl (x + y) :: S) M Q) := nr rfl
set_option maxRecDepth 100000 in
theorem v156_240 (n d : Nat) (L : List (Option mL)) (S : List mV) (M : Mm) (Q : mQ) : vc (n + 1) d 156 240 L S M Q = (pAs 2 S fun as S => pA S fun a S => shO M a 10 (stk S ≤ 8 ∧ XC d 134 (.inr (some a) :: as) M (fun r M => ∃ x : Int32, r = some (.inl x) ∧ X d 156 243 L (.inl x :: S) M Q))) := nr rfl
set_option maxRecDepth 100000 in
theorem v156_243 (n d : Nat) (L : List (Option mL)) (S : List mV) (M : Mm) (Q : mQ) : vc (n + 1) d 156 243 L S M Q = (pI S fun x S => sL L 5 (some (.inl x)) fun L => vc n d 156 245 L S M Q) := nr rfl
set_option maxRecDepth 100000 in
theorem v156_245 (n d : Nat) (L : List (Option mL)) (S : List mV) (M : Mm) (Q : mQ) : vc (n + 1) d 156 245 L S M Q = (gR L 0 fun x => vc n d 156 246 L (.inr (.inr x) :: S) M Q) := nr rfl
set_option maxRecDepth 100000 in
theorem v156_246 (n d : Nat) (L : List (Option mL)) (S : List mV) (M : Mm) (Q : mQ) : vc (n + 1) d 156 246 L S M Q = (pA S fun a S => shO M a 10 (rrf M a 18 fun r => vc n d 156 249 L (.inr (.inr r) :: S) M Q)) := nr rfl
set_option maxRecDepth 100000 in
theorem v156_249 (n d : Nat) (L : List (Option mL)) (S : List mV) (M : Mm) (Q : mQ) : vc (n + 1) d 156 249 L S M Q = (vc n d 156 251 L (.inl 48 :: S) M Q) := nr rfl
set_option maxRecDepth 100000 in
theorem v156_251 (n d : Nat) (L : List (Option mL)) (S : List mV) (M : Mm) (Q : mQ) : vc (n + 1) d 156 251 L S M Q = (gI L 2 fun x => vc n d 156 252 L (.inl x :: S) M Q) := nr rfl
set_option maxRecDepth 100000 in
theorem v156_252 (n d : Nat) (L : List (Option mL)) (S : List mV) (M : Mm) (Q : mQ) : vc (n + 1) d 156 252 L S M Q = (pI S fun y S => pI S fun x S => vc n d 156 253 L (.inl (x * y) :: S) M Q) := nr rfl
set_option maxRecDepth 100000 in
theorem v156_253 (n d : Nat) (L : List (Option mL)) (S : List mV) (M : Mm) (Q : mQ) : vc (n + 1) d 156 253 L S M Q = (gR L 0 fun x => vc n d 156 254 L (.inr (.inr x) :: S) M Q) := nr rfl
set_option maxRecDepth 100000 in
theorem v156_254 (n d : Nat) (L : List (Option mL)) (S : List mV) (M : Mm) (Q : mQ) : vc (n + 1) d 156 254 L S M Q = (gR L 0 fun x => vc n d 156 255 L (.inr (.inr x) :: S) M Q) := nr rfl
set_option maxRecDepth 100000 in
theorem v156_255 (n d : Nat) (L : List (Option mL)) (S : List mV) (M : Mm) (Q : mQ) : vc (n + 1) d 156 255 L S M Q = (pA S fun a S => shO M a 10 (rrf M a 16 fun r => vc n d 156 258 L (.inr (.inr r) :: S) M Q)) := nr rfl
set_option maxRecDepth 100000 in
theorem v156_258 (n d : Nat) (L : List (Option mL)) (S : List mV) (M : Mm) (Q : mQ) : vc (n + 1) d 156 258 L S M Q = (gI L 2 fun x => vc n d 156 259 L (.inl x :: S) M Q) := nr rfl
set_option maxRecDepth 100000 in
theorem v156_259 (n d : Nat) (L : List (Option mL)) (S : List mV) (M : Mm) (Q : mQ) : vc (n + 1) d 156 259 L S M Q = (pI S fun i S => pA S fun a S => shA M a fun t k => (t = 40 ∨ t = 41) ∧ inB i k ∧ vc n d 156 260 L (.inl (M.it a i.toNatClampNeg) :: S) M Q) := nr rfl
set_option maxRecDepth 100000 in
theorem v156_260 (n d : Nat) (L : List (Option mL)) (S : List mV) (M : Mm) (Q : mQ) : vc (n + 1) d 156 260 L S M Q = (vc n d 156 261 L (.inl 1 :: S) M Q) := nr rfl
set_option maxRecDepth 100000 in
theorem v156_261 (n d : Nat) (L : List (Option mL)) (S : List mV) (M : Mm) (Q : mQ) : vc (n + 1) d 156 261 L S M Q = (vc n d 156 262 L (.inl 3 :: S) M Q) := nr rfl
set_option maxRecDepth 100000 in
theorem v156_262 (n d : Nat) (L : List (Option mL)) (S : List mV) (M : Mm) (Q : mQ) : vc (n + 1) d 156 262 L S M Q = (gI L 4 fun x => vc n d 156 264 L (.inl x :: S) M Q) := nr rfl
set_option maxRecDepth 100000 in
theorem v156_264 (n d : Nat) (L : List (Option mL)) (S : List mV) (M : Mm) (Q : mQ) : vc (n + 1) d 156 264 L S M Q = (pI S fun y S => pI S fun x S => vc n d 156 265 L (.inl (x * y) :: S) M Q) := nr rfl
set_option maxRecDepth 100000 in
theorem v156_265 (n d : Nat) (L : List (Option mL)) (S : List mV) (M : Mm) (Q : mQ) : vc (n + 1) d 156 265 L S M Q = (pI S fun y S => pI S fun x S => vc n d 156 266 L (.inl (x + y) :: S) M Q) := nr rfl
set_option maxRecDepth 100000 in
theorem v156_266 (n d : Nat) (L : List (Option mL)) (S : List mV) (M : Mm) (Q : mQ) : vc (n + 1) d 156 266 L S M Q = (pAs 2 S fun as S => pA S fun a S => shO M a 10 (stk S ≤ 8 ∧ XC d 134 (.inr (some a) :: as) M (fun r M => ∃ x : Int32, r = some (.inl x) ∧ X d 156 269 L (.inl x :: S) M Q))) := nr rfl
set_option maxRecDepth 100000 in
theorem v156_269 (n d : Nat) (L : List (Option mL)) (S : List mV) (M : Mm) (Q : mQ) : vc (n + 1) d 156 269 L S M Q = (pI S fun y S => pI S fun x S => vc n d 156 270 L (.inl (x + y) :: S) M Q) := nr rfl
set_option maxRecDepth 100000 in
theorem v156_270 (n d : Nat) (L : List (Option mL)) (S : List mV) (M : Mm) (Q : mQ) : vc (n + 1) d 156 270 L S M Q = (gI L 5 fun x => vc n d 156 272 L (.inl x :: S) M Q) := nr rfl
set_option maxRecDepth 100000 in
theorem v156_272 (n d : Nat) (L : List (Option mL)) (S : List mV) (M : Mm) (Q : mQ) : vc (n + 1) d 156 272 L S M Q = (vc n d 156 275 L (.inl 255 :: S) M Q) := nr rfl
set_option maxRecDepth 100000 in
theorem v156_275 (n d : Nat) (L : List (Option mL)) (S : List mV) (M : Mm) (Q : mQ) : vc (n + 1) d 156 275 L S M Q = (pI S fun y S => pI S fun x S => (¬ x = y → vc n d 156 284 L S M Q) ∧ (¬ (¬ x = y) → vc n d 156 278 L S M Q)) := nr rfl
set_option maxRecDepth 100000 in
theorem v156_278 (n d : Nat) (L : List (Option mL)) (S : List mV) (M : Mm) (Q : mQ) : vc (n + 1) d 156 278 L S M Q = (vc n d 156 281 L (.inl 255 :: S) M Q) := nr rfl
set_option maxRecDepth 100000 in
theorem v156_281 (n d : Nat) (L : List (Option mL)) (S : List mV) (M : Mm) (Q : mQ) : vc (n + 1) d 156 281 L S M Q = (vc n d 156 306 L S M Q) := nr rfl
set_option maxRecDepth 100000 in
theorem v156_284 (n d : Nat) (L : List (Option mL)) (S : List mV) (M : Mm) (Q : mQ) : vc (n + 1) d 156 284 L S M Q = (vc n d 156 286 L (.inl 16 :: S) M Q) := nr rfl
set_option maxRecDepth 100000 in
theorem v156_286 (n d : Nat) (L : List (Option mL)) (S : List mV) (M : Mm) (Q : mQ) : vc (n + 1) d 156 286 L S M Q = (gI L 5 fun x => vc n d 156 288 L (.inl x :: S) M Q) := nr rfl
set_option maxRecDepth 100000 in
theorem v156_288 (n d : Nat) (L : List (Option mL)) (S : List mV) (M : Mm) (Q : mQ) : vc (n + 1) d 156 288 L S M Q = (pI S fun y S => pI S fun x S => vc n d 156 289 L (.inl (x * y) :: S) M Q) := nr rfl
set_option maxRecDepth 100000 in
theorem v156_289 (n d : Nat) (L : List (Option mL)) (S : List mV) (M : Mm) (Q : mQ) : vc (n + 1) d 156 289 L S M Q = (gR L 0 fun x => vc n d 156 290 L (.inr (.inr x) :: S) M Q) := nr rfl
set_option maxRecDepth 100000 in
theorem v156_290 (n d : Nat) (L : List (Option mL)) (S : List mV) (M : Mm) (Q : mQ) : vc (n + 1) d 156 290 L S M Q = (gR L 0 fun x => vc n d 156 291 L (.inr (.inr x) :: S) M Q) := nr rfl
set_option maxRecDepth 100000 in
theorem v156_291 (n d : Nat) (L : List (Option mL)) (S : List mV) (M : Mm) (Q : mQ) : vc (n + 1) d 156 291 L S M Q = (pA S fun a S => shO M a 10 (rrf M a 16 fun r => vc n d 156 294 L (.inr (.inr r) :: S) M Q)) := nr rfl
set_option maxRecDepth 100000 in
theorem v156_294 (n d : Nat) (L : List (Option mL)) (S : List mV) (M : Mm) (Q : mQ) : vc (n + 1) d 156 294 L S M Q = (gI L 2 fun x => vc n d 156 295 L (.inl x :: S) M Q) := nr rfl
set_option maxRecDepth 100000 in
theorem v156_295 (n d : Nat) (L : List (Option mL)) (S : List mV) (M : Mm) (Q : mQ) : vc (n + 1) d 156 295 L S M Q = (pI S fun i S => pA S fun a S => shA M a fun t k => (t = 40 ∨ t = 41) ∧ inB i k ∧ vc n d 156 296 L (.inl (M.it a i.toNatClampNeg) :: S) M Q) := nr rfl
set_option maxRecDepth 100000 in
theorem v156_296 (n d : Nat) (L : List (Option mL)) (S : List mV) (M : Mm) (Q : mQ) : vc (n + 1) d 156 296 L S M Q = (vc n d 156 297 L (.inl 3 :: S) M Q) := nr rfl
set_option maxRecDepth 100000 in
theorem v156_297 (n d : Nat) (L : List (Option mL)) (S : List mV) (M : Mm) (Q : mQ) : vc (n + 1) d 156 297 L S M Q = (vc n d 156 298 L (.inl 3 :: S) M Q) := nr rfl
set_option maxRecDepth 100000 in
theorem v156_298 (n d : Nat) (L : List (Option mL)) (S : List mV) (M : Mm) (Q : mQ) : vc (n + 1) d 156 298 L S M Q = (gI L 4 fun x => vc n d 156 300 L (.inl x :: S) M Q) := nr rfl
set_option maxRecDepth 100000 in
theorem v156_300 (n d : Nat) (L : List (Option mL)) (S : List mV) (M : Mm) (Q : mQ) : vc (n + 1) d 156 300 L S M Q = (pI S fun y S => pI S fun x S => vc n d 156 301 L (.inl (x * y) :: S) M Q) := nr rfl
set_option maxRecDepth 100000 in
theorem v156_301 (n d : Nat) (L : List (Option mL)) (S : List mV) (M : Mm) (Q : mQ) : vc (n + 1) d 156 301 L S M Q = (pI S fun y S => pI S fun x S => vc n d 156 302 L (.inl (x + y) :: S) M Q) := nr rfl
set_option maxRecDepth 100000 in
theorem v156_302 (n d : Nat) (L : List (Option mL)) (S : List mV) (M : Mm) (Q : mQ) : vc (n + 1) d 156 302 L S M Q = (pAs 2 S fun as S => pA S fun a S => shO M a 10 (stk S ≤ 8 ∧ XC d 134 (.inr (some a) :: as) M (fun r M => ∃ x : Int32, r = some (.inl x) ∧ X d 156 305 L (.inl x :: S) M Q))) := nr rfl
set_option maxRecDepth 100000 in
theorem v156_305 (n d : Nat) (L : List (Option mL)) (S : List mV) (M : Mm) (Q : mQ) : vc (n + 1) d 156 305 L S M Q = (pI S fun y S => pI S fun x S => vc n d 156 306 L (.inl (x + y) :: S) M Q) := nr rfl
set_option maxRecDepth 100000 in
theorem v156_306 (n d : Nat) (L : List (Option mL)) (S : List mV) (M : Mm) (Q : mQ) : vc (n + 1) d 156 306 L S M Q = (pI S fun x S => pI S fun i S => pA S fun a S => shA M a fun t k => t = 41 ∧ inB i k ∧ vc n d 156 307 L S (M.si a i.toNatClampNeg x) Q) := nr rfl
set_option maxRecDepth 100000 in
theorem v156_307 (n d : Nat) (L : List (Option mL)) (S : List mV) (M : Mm) (Q : mQ) : vc (n + 1) d 156 307 L S M Q = (gI L 4 fun x => sL L 4 (some (.inl (x + 1))) fun L => vc n d 156 310 L S M Q) := nr rfl
set_option maxRecDepth 100000 in
theorem v156_310 (n d : Nat) (L : List (Option mL)) (S : List mV) (M : Mm) (Q : mQ) : vc (n + 1) d 156 310 L S M Q = (X d 156 221 L S M Q) := nr rfl
set_option maxRecDepth 100000 in
theorem v156_313 (n d : Nat) (L : List (Option mL)) (S : List mV) (M : Mm) (Q : mQ) : vc (n + 1) d 156 313 L S M Q = (gI L 2 fun x => sL L 2 (some (.inl (x + 1))) fun L => vc n d 156 316 L S M Q) := nr rfl
set_option maxRecDepth 100000 in
theorem v156_316 (n d : Nat) (L : List (Option mL)) (S : List mV) (M : Mm) (Q : mQ) : vc (n + 1) d 156 316 L S M Q = (X d 156 126 L S M Q) := nr rfl
set_option maxRecDepth 100000 in
theorem v156_319 (n d : Nat) (L : List (Option mL)) (S : List mV) (M : Mm) (Q : mQ) : vc (n + 1) d 156 319 L S M Q = (vc n d 156 320 L (.inl 0 :: S) M Q) := nr rfl
set_option maxRecDepth 100000 in
theorem v156_320 (n d : Nat) (L : List (Option mL)) (S : List mV) (M : Mm) (Q : mQ) : vc (n + 1) d 156 320 L S M Q = (pI S fun x S => sL L 2 (some (.inl x)) fun L => vc n d 156 321 L S M Q) := nr rfl
set_option maxRecDepth 100000 in
theorem v156_321 (n d : Nat) (L : List (Option mL)) (S : List mV) (M : Mm) (Q : mQ) : vc (n + 1) d 156 321 L S M Q = (vc n d 156 322 L (.inl 0 :: S) M Q) := nr rfl
set_option maxRecDepth 100000 in
theorem v156_322 (n d : Nat) (L : List (Option mL)) (S : List mV) (M : Mm) (Q : mQ) : vc (n + 1) d 156 322 L S M Q = (pI S fun x S => sL L 3 (some (.inl x)) fun L => X d 156 323 L S M Q) := nr rfl
set_option maxRecDepth 100000 in
theorem v156_323 (n d : Nat) (L : List (Option mL)) (S : List mV) (M : Mm) (Q : mQ) : vc (n + 1) d 156 323 L S M Q = (gI L 3 fun x => vc n d 156 324 L (.inl x :: S) M Q) := nr rfl
set_option maxRecDepth 100000 in
theorem v156_324 (n d : Nat) (L : List (Option mL)) (S : List mV) (M : Mm) (Q : mQ) : vc (n + 1) d 156 324 L S M Q = (vc n d 156 326 L (.inl 48 :: S) M Q) := nr rfl
set_option maxRecDepth 100000 in
theorem v156_326 (n d : Nat) (L : List (Option mL)) (S : List mV) (M : Mm) (Q : mQ) : vc (n + 1) d 156 326 L S M Q = (pI S fun y S => pI S fun x S => (y ≤ x → vc n d 156 352 L S M Q) ∧ (¬ (y ≤ x) → vc n d 156 329 L S M Q)) := nr rfl
set_option maxRecDepth 100000 in
theorem v156_329 (n d : Nat) (L : List (Option mL)) (S : List mV) (M : Mm) (Q : mQ) : vc (n + 1) d 156 329 L S M Q = (gI L 2 fun x => vc n d 156 330 L (.inl x :: S) M Q) := nr rfl
set_option maxRecDepth 100000 in
theorem v156_330 (n d : Nat) (L : List (Option mL)) (S : List mV) (M : Mm) (Q : mQ) : vc (n + 1) d 156 330 L S M Q = (gR L 0 fun x => vc n d 156 331 L (.inr (.inr x) :: S) M Q) := nr rfl
set_option maxRecDepth 100000 in
theorem v156_331 (n d : Nat) (L : List (Option mL)) (S : List mV) (M : Mm) (Q : mQ) : vc (n + 1) d 156 331 L S M Q = (gI L 3 fun x => vc n d 156 332 L (.inl x :: S) M Q) := nr rfl
set_option maxRecDepth 100000 in
theorem v156_332 (n d : Nat) (L : List (Option mL)) (S : List mV) (M : Mm) (Q : mQ) : vc (n + 1) d 156 332 L S M Q = (pAs 1 S fun as S => pA S fun a S => shO M a 10 (stk S ≤ 8 ∧ XC d 129 (.inr (some a) :: as) M (fun r M => ∃ x : Int32, r = some (.inl x) ∧ X d 156 335 L (.inl x :: S) M Q))) := nr rfl
set_option maxRecDepth 100000 in
theorem v156_335 (n d : Nat) (L : List (Option mL)) (S : List mV) (M : Mm) (Q : mQ) : vc (n + 1) d 156 335 L S M Q = (vc n d 156 336 L (.inl (-1) :: S) M Q) := nr rfl
set_option maxRecDepth 100000 in
theorem v156_336 (n d : Nat) (L : List (Option mL)) (S : List mV) (M : Mm) (Q : mQ) : vc (n + 1) d 156 336 L S M Q = (pI S fun y S => pI S fun x S => (¬ x = y → vc n d 156 343 L S M Q) ∧ (¬ (¬ x = y) → vc n d 156 339 L S M Q)) := nr rfl
set_option maxRecDepth 100000 in
theorem v156_339 (n d : Nat) (L : List (Option mL)) (S : List mV) (M : Mm) (Q : mQ) : vc (n + 1) d 156 339 L S M Q = (vc n d 156 340 L (.inl 0 :: S) M Q) := nr rfl
set_option maxRecDepth 100000 in
theorem v156_340 (n d : Nat) (L : List (Option mL)) (S : List mV) (M : Mm) (Q : mQ) : vc (n + 1) d 156 340 L S M Q = (vc n d 156 344 L S M Q) := nr rfl
set_option maxRecDepth 100000 in
theorem v156_343 (n d : Nat) (L : List (Option mL)) (S : List mV) (M : Mm) (Q : mQ) : vc (n + 1) d 156 343 L S M Q = (vc n d 156 344 L (.inl 1 :: S) M Q) := nr rfl
set_option maxRecDepth 100000 in
theorem v156_344 (n d : Nat) (L : List (Option mL)) (S : List mV) (M : Mm) (Q : mQ) : vc (n + 1) d 156 344 L S M Q = (pI S fun y S => pI S fun x S => vc n d 156 345 L (.inl (x + y) :: S) M Q) := nr rfl
set_option maxRecDepth 100000 in
theorem v156_345 (n d : Nat) (L : List (Option mL)) (S : List mV) (M : Mm) (Q : mQ) : vc (n + 1) d 156 345 L S M Q = (pI S fun x S => sL L 2 (some (.inl x)) fun L => vc n d 156 346 L S M Q) := nr rfl
set_option maxRecDepth 100000 in
theorem v156_346 (n d : Nat) (L : List (Option mL)) (S : List mV) (M : Mm) (Q : mQ) : vc (n + 1) d 156 346 L S M Q = (gI L 3 fun x => sL L 3 (some (.inl (x + 1))) fun L => vc n d 156 349 L S M Q) := nr rfl
set_option maxRecDepth 100000 in
theorem v156_349 (n d : Nat) (L : List (Option mL)) (S : List mV) (M : Mm) (Q : mQ) : vc (n + 1) d 156 349 L S M Q = (X d 156 323 L S M Q) := nr rfl
set_option maxRecDepth 100000 in
theorem v156_352 (n d : Nat) (L : List (Option mL)) (S : List mV) (M : Mm) (Q : mQ) : vc (n + 1) d 156 352 L S M Q = (gI L 2 fun x => vc n d 156 353 L (.inl x :: S) M Q) := nr rfl
set_option maxRecDepth 100000 in
theorem v156_353 (n d : Nat) (L : List (Option mL)) (S : List mV) (M : Mm) (Q : mQ) : vc (n + 1) d 156 353 L S M Q = (pI S fun x S => S = [] ∧ (0 = 0 ∨ x = 0 ∨ x = 1) ∧ Q (some (.inl x)) M) := nr rfl
set_option maxRecDepth 100000 in
theorem v157_0 (n d : Nat) (L : List (Option mL)) (S : List mV) (M : Mm) (Q : mQ) : vc (n + 1) d 157 0 L S M Q = (gR L 0 fun x => vc n d 157 1 L (.inr (.inr x) :: S) M Q) := nr rfl
set_option maxRecDepth 100000 in
theorem v157_1 (n d : Nat) (L : List (Option mL)) (S : List mV) (M : Mm) (Q : mQ) : vc (n + 1) d 157 1 L S M Q = (vc n d 157 2 L (.inl 0 :: S) M Q) := nr rfl
set_option maxRecDepth 100000 in
theorem v157_2 (n d : Nat) (L : List (Option mL)) (S : List mV) (M : Mm) (Q : mQ) : vc (n + 1) d 157 2 L S M Q = (pI S fun x S => pA S fun a S => shO M a 10 (vc n d 157 5 L S (M.si a 0 x) Q)) := nr rfl
set_option maxRecDepth 100000 in
theorem v157_5 (n d : Nat) (L : List (Option mL)) (S : List mV) (M : Mm) (Q : mQ) : vc (n + 1) d 157 5 L S M Q = (vc n d 157 6 L (.inl 0 :: S) M Q) := nr rfl
set_option maxRecDepth 100000 in
theorem v157_6 (n d : Nat) (L : List (Option mL)) (S : List mV) (M : Mm) (Q : mQ) : vc (n + 1) d 157 6 L S M Q = (pI S fun x S => sL L 2 (some (.inl x)) fun L => vc n d 157 7 L S M Q) := nr rfl
set_option maxRecDepth 100000 in
theorem v157_7 (n d : Nat) (L : List (Option mL)) (S : List mV) (M : Mm) (Q : mQ) : vc (n + 1) d 157 7 L S M Q = (gI L 1 fun x => vc n d 157 8 L (.inl x :: S) M Q) := nr rfl
set_option maxRecDepth 100000 in
theorem v157_8 (n d : Nat) (L : List (Option mL)) (S : List mV) (M : Mm) (Q : mQ) : vc (n + 1) d 157 8 L S M Q = (pI S fun x S => (x.toInt = 0 → vc n d 157 72 L S M Q) ∧ (¬ x.toInt = 0 → (x.toInt = 1 → vc n d 157 77 L S M Q) ∧ (¬ x.toInt = 1 → (x.toInt = 2 → vc n d 157 82 L S M Q) ∧ (¬ x.toInt = 2 → (x.toInt = 3 → vc n d 157 116 L S M Q) ∧ (¬ x.toInt = 3 → (x.toInt = 4 → vc n d 157 132 L S M Q) ∧ (¬ x.toInt = 4 → (x.toInt = 5 → vc n d 157 148 L S M Q) ∧ (¬ x.toInt = 5 → (x.toInt = 6 → vc n d 157 153 L S M Q) ∧ (¬ x.toInt = 6 → (x.toInt = 7 → vc n d 157 169 L S M Q) ∧ (¬ x.toInt = 7 → (x.toInt = 8 → vc n d 157 184 L S M Q) ∧ (¬ x.toInt = 8 → (x.toInt = 9 → vc n d 157 200 L S M Q) ∧ (¬ x.toInt = 9 → (x.toInt = 10 → vc n d 157 216 L S M Q) ∧ (¬ x.toInt = 10 → (x.toInt = 11 → vc n d 157 232 L S M Q) ∧ (¬ x.toInt = 11 → vc n d 157 245 L S M Q))))))))))))) := nr rfl
set_option maxRecDepth 100000 in
theorem v157_72 (n d : Nat) (L : List (Option mL)) (S : List mV) (M : Mm) (Q : mQ) : vc (n + 1) d 157 72 L S M Q = (gR L 0 fun x => vc n d 157 73 L (.inr (.inr x) :: S) M Q) := nr rfl
set_option maxRecDepth 100000 in
theorem v157_73 (n d : Nat) (L : List (Option mL)) (S : List mV) (M : Mm) (Q : mQ) : vc (n + 1) d 157 73 L S M Q = (pA S fun a S => shO M a 10 (vc n d 157 76 L (.inl (M.it a 13) :: S) M Q)) := nr rfl
set_option maxRecDepth 100000 in
theorem v157_76 (n d : Nat) (L : List (Option mL)) (S : List mV) (M : Mm) (Q : mQ) : vc (n + 1) d 157 76 L S M Q = (pI S fun x S => S = [] ∧ (0 = 0 ∨ x = 0 ∨ x = 1) ∧ Q (some (.inl x)) M) := nr rfl
set_option maxRecDepth 100000 in
theorem v157_77 (n d : Nat) (L : List (Option mL)) (S : List mV) (M : Mm) (Q : mQ) : vc (n + 1) d 157 77 L S M Q = (gR L 0 fun x => vc n d 157 78 L (.inr (.inr x) :: S) M Q) := nr rfl
set_option maxRecDepth 100000 in
theorem v157_78 (n d : Nat) (L : List (Option mL)) (S : List mV) (M : Mm) (Q : mQ) : vc (n + 1) d 157 78 L S M Q = (pA S fun a S => shO M a 10 (vc n d 157 81 L (.inl (M.it a 14) :: S) M Q)) := nr rfl
set_option maxRecDepth 100000 in
theorem v157_81 (n d : Nat) (L : List (Option mL)) (S : List mV) (M : Mm) (Q : mQ) : vc (n + 1) d 157 81 L S M Q = (pI S fun x S => S = [] ∧ (0 = 0 ∨ x = 0 ∨ x = 1) ∧ Q (some (.inl x)) M) := nr rfl
set_option maxRecDepth 100000 in
theorem v157_82 (n d : Nat) (L : List (Option mL)) (S : List mV) (M : Mm) (Q : mQ) : vc (n + 1) d 157 82 L S M Q = (vc n d 157 83 L (.inl 0 :: S) M Q) := nr rfl
set_option maxRecDepth 100000 in
theorem v157_83 (n d : Nat) (L : List (Option mL)) (S : List mV) (M : Mm) (Q : mQ) : vc (n + 1) d 157 83 L S M Q = (pI S fun x S => sL L 3 (some (.inl x)) fun L => X d 157 84 L S M Q) := nr rfl
set_option maxRecDepth 100000 in
theorem v157_84 (n d : Nat) (L : List (Option mL)) (S : List mV) (M : Mm) (Q : mQ) : vc (n + 1) d 157 84 L S M Q = (gI L 3 fun x => vc n d 157 85 L (.inl x :: S) M Q) := nr rfl
set_option maxRecDepth 100000 in
theorem v157_85 (n d : Nat) (L : List (Option mL)) (S : List mV) (M : Mm) (Q : mQ) : vc (n + 1) d 157 85 L S M Q = (gR L 0 fun x => vc n d 157 86 L (.inr (.inr x) :: S) M Q) := nr rfl
set_option maxRecDepth 100000 in
theorem v157_86 (n d : Nat) (L : List (Option mL)) (S : List mV) (M : Mm) (Q : mQ) : vc (n + 1) d 157 86 L S M Q = (pA S fun a S => shO M a 10 (vc n d 157 89 L (.inl (M.it a 14) :: S) M Q)) := nr rfl
set_option maxRecDepth 100000 in
theorem v157_89 (n d : Nat) (L : List (Option mL)) (S : List mV) (M : Mm) (Q : mQ) : vc (n + 1) d 157 89 L S M Q = (pI S fun y S => pI S fun x S => (y ≤ x → vc n d 157 114 L S M Q) ∧ (¬ (y ≤ x) → vc n d 157 92 L S M Q)) := nr rfl
set_option maxRecDepth 100000 in
theorem v157_92 (n d : Nat) (L : List (Option mL)) (S : List mV) (M : Mm) (Q : mQ) : vc (n + 1) d 157 92 L S M Q = (gI L 2 fun x => vc n d 157 93 L (.inl x :: S) M Q) := nr rfl
set_option maxRecDepth 100000 in
theorem v157_93 (n d : Nat) (L : List (Option mL)) (S : List mV) (M : Mm) (Q : mQ) : vc (n + 1) d 157 93 L S M Q = (gR L 0 fun x => vc n d 157 94 L (.inr (.inr x) :: S) M Q) := nr rfl
set_option maxRecDepth 100000 in
theorem v157_94 (n d : Nat) (L : List (Option mL)) (S : List mV) (M : Mm) (Q : mQ) : vc (n + 1) d 157 94 L S M Q = (gI L 3 fun x => vc n d 157 95 L (.inl x :: S) M Q) := nr rfl
set_option maxRecDepth 100000 in
theorem v157_95 (n d : Nat) (L : List (Option mL)) (S : List mV) (M : Mm) (Q : mQ) : vc (n + 1) d 157 95 L S M Q = (pAs 1 S fun as S => pA S fun a S => shO M a 10 (stk S ≤ 8 ∧ XC d 151 (.inr (some a) :: as) M (fun r M => ∃ x : Int32, r = some (.inl x) ∧ X d 157 98 L (.inl x :: S) M Q))) := nr rfl
set_option maxRecDepth 100000 in
theorem v157_98 (n d : Nat) (L : List (Option mL)) (S : List mV) (M : Mm) (Q : mQ) : vc (n + 1) d 157 98 L S M Q = (pI S fun x S => (¬ x = 0 → vc n d 157 105 L S M Q) ∧ (¬ (¬ x = 0) → vc n d 157 101 L S M Q)) := nr rfl
set_option maxRecDepth 100000 in
theorem v157_101 (n d : Nat) (L : List (Option mL)) (S : List mV) (M : Mm) (Q : mQ) : vc (n + 1) d 157 101 L S M Q = (vc n d 157 102 L (.inl 1 :: S) M Q) := nr rfl
set_option maxRecDepth 100000 in
theorem v157_102 (n d : Nat) (L : List (Option mL)) (S : List mV) (M : Mm) (Q : mQ) : vc (n + 1) d 157 102 L S M Q = (vc n d 157 106 L S M Q) := nr rfl
set_option maxRecDepth 100000 in
theorem v157_105 (n d : Nat) (L : List (Option mL)) (S : List mV) (M : Mm) (Q : mQ) : vc (n + 1) d 157 105 L S M Q = (vc n d 157 106 L (.inl 0 :: S) M Q) := nr rfl
set_option maxRecDepth 100000 in
theorem v157_106 (n d : Nat) (L : List (Option mL)) (S : List mV) (M : Mm) (Q : mQ) : vc (n + 1) d 157 106 L S M Q = (pI S fun y S => pI S fun x S => vc n d 157 107 L (.inl (x + y) :: S) M Q) := nr rfl
set_option maxRecDepth 100000 in
theorem v157_107 (n d : Nat) (L : List (Option mL)) (S : List mV) (M : Mm) (Q : mQ) : vc (n + 1) d 157 107 L S M Q = (pI S fun x S => sL L 2 (some (.inl x)) fun L => vc n d 157 108 L S M Q) := nr rfl
set_option maxRecDepth 100000 in
theorem v157_108 (n d : Nat) (L : List (Option mL)) (S : List mV) (M : Mm) (Q : mQ) : vc (n + 1) d 157 108 L S M Q = (gI L 3 fun x => sL L 3 (some (.inl (x + 1))) fun L => vc n d 157 111 L S M Q) := nr rfl
set_option maxRecDepth 100000 in
theorem v157_111 (n d : Nat) (L : List (Option mL)) (S : List mV) (M : Mm) (Q : mQ) : vc (n + 1) d 157 111 L S M Q = (X d 157 84 L S M Q) := nr rfl
set_option maxRecDepth 100000 in
theorem v157_114 (n d : Nat) (L : List (Option mL)) (S : List mV) (M : Mm) (Q : mQ) : vc (n + 1) d 157 114 L S M Q = (gI L 2 fun x => vc n d 157 115 L (.inl x :: S) M Q) := nr rfl
set_option maxRecDepth 100000 in
theorem v157_115 (n d : Nat) (L : List (Option mL)) (S : List mV) (M : Mm) (Q : mQ) : vc (n + 1) d 157 115 L S M Q = (pI S fun x S => S = [] ∧ (0 = 0 ∨ x = 0 ∨ x = 1) ∧ Q (some (.inl x)) M) := nr rfl
set_option maxRecDepth 100000 in
theorem v157_116 (n d : Nat) (L : List (Option mL)) (S : List mV) (M : Mm) (Q : mQ) : vc (n + 1) d 157 116 L S M Q = (gR L 0 fun x => vc n d 157 117 L (.inr (.inr x) :: S) M Q) := nr rfl
set_option maxRecDepth 100000 in
theorem v157_117 (n d : Nat) (L : List (Option mL)) (S : List mV) (M : Mm) (Q : mQ) : vc (n + 1) d 157 117 L S M Q = (pA S fun a S => shO M a 10 (vc n d 157 120 L (.inl (M.it a 5) :: S) M Q)) := nr rfl
set_option maxRecDepth 100000 in
theorem v157_120 (n d : Nat) (L : List (Option mL)) (S : List mV) (M : Mm) (Q : mQ) : vc (n + 1) d 157 120 L S M Q = (pI S fun x S => (x = 0 → vc n d 157 127 L S M Q) ∧ (¬ (x = 0) → vc n d 157 123 L S M Q)) := nr rfl
set_option maxRecDepth 100000 in
theorem v157_123 (n d : Nat) (L : List (Option mL)) (S : List mV) (M : Mm) (Q : mQ) : vc (n + 1) d 157 123 L S M Q = (vc n d 157 124 L (.inl 0 :: S) M Q) := nr rfl
set_option maxRecDepth 100000 in
theorem v157_124 (n d : Nat) (L : List (Option mL)) (S : List mV) (M : Mm) (Q : mQ) : vc (n + 1) d 157 124 L S M Q = (X d 157 131 L S M Q) := nr rfl
set_option maxRecDepth 100000 in
theorem v157_127 (n d : Nat) (L : List (Option mL)) (S : List mV) (M : Mm) (Q : mQ) : vc (n + 1) d 157 127 L S M Q = (gR L 0 fun x => vc n d 157 128 L (.inr (.inr x) :: S) M Q) := nr rfl
set_option maxRecDepth 100000 in
theorem v157_128 (n d : Nat) (L : List (Option mL)) (S : List mV) (M : Mm) (Q : mQ) : vc (n + 1) d 157 128 L S M Q = (pAs 0 S fun as S => pA S fun a S => shO M a 10 (stk S ≤ 8 ∧ XC d 123 (.inr (some a) :: as) M (fun r M => ∃ x : Int32, r = some (.inl x) ∧ X d 157 131 L (.inl x :: S) M Q))) := nr rfl
set_option maxRecDepth 100000 in
theorem v157_131 (n d : Nat) (L : List (Option mL)) (S : List mV) (M : Mm) (Q : mQ) : vc (n + 1) d 157 131 L S M Q = (pI S fun x S => S = [] ∧ (0 = 0 ∨ x = 0 ∨ x = 1) ∧ Q (some (.inl x)) M) := nr rfl
set_option maxRecDepth 100000 in
theorem v157_132 (n d : Nat) (L : List (Option mL)) (S : List mV) (M : Mm) (Q : mQ) : vc (n + 1) d 157 132 L S M Q = (gR L 0 fun x => vc n d 157 133 L (.inr (.inr x) :: S) M Q) := nr rfl
set_option maxRecDepth 100000 in
theorem v157_133 (n d : Nat) (L : List (Option mL)) (S : List mV) (M : Mm) (Q : mQ) : vc (n + 1) d 157 133 L S M Q = (pA S fun a S => shO M a 10 (vc n d 157 136 L (.inl (M.it a 5) :: S) M Q)) := nr rfl
set_option maxRecDepth 100000 in
theorem v157_136 (n d : Nat) (L : List (Option mL)) (S : List mV) (M : Mm) (Q : mQ) : vc (n + 1) d 157 136 L S M Q = (pI S fun x S => (x = 0 → vc n d 157 143 L S M Q) ∧ (¬ (x = 0) → vc n d 157 139 L S M Q)) := nr rfl
set_option maxRecDepth 100000 in
theorem v157_139 (n d : Nat) (L : List (Option mL)) (S : List mV) (M : Mm) (Q : mQ) : vc (n + 1) d 157 139 L S M Q = (vc n d 157 140 L (.inl (-1) :: S) M Q) := nr rfl
set_option maxRecDepth 100000 in
theorem v157_140 (n d : Nat) (L : List (Option mL)) (S : List mV) (M : Mm) (Q : mQ) : vc (n + 1) d 157 140 L S M Q = (vc n d 157 147 L S M Q) := nr rfl
set_option maxRecDepth 100000 in
theorem v157_143 (n d : Nat) (L : List (Option mL)) (S : List mV) (M : Mm) (Q : mQ) : vc (n + 1) d 157 143 L S M Q = (gR L 0 fun x => vc n d 157 144 L (.inr (.inr x) :: S) M Q) := nr rfl
set_option maxRecDepth 100000 in
theorem v157_144 (n d : Nat) (L : List (Option mL)) (S : List mV) (M : Mm) (Q : mQ) : vc (n + 1) d 157 144 L S M Q = (pA S fun a S => shO M a 10 (vc n d 157 147 L (.inl (M.it a 9) :: S) M Q)) := nr rfl
set_option maxRecDepth 100000 in
theorem v157_147 (n d : Nat) (L : List (Option mL)) (S : List mV) (M : Mm) (Q : mQ) : vc (n + 1) d 157 147 L S M Q = (pI S fun x S => S = [] ∧ (0 = 0 ∨ x = 0 ∨ x = 1) ∧ Q (some (.inl x)) M) := nr rfl
set_option maxRecDepth 100000 in
theorem v157_148 (n d : Nat) (L : List (Option mL)) (S : List mV) (M : Mm) (Q : mQ) : vc (n + 1) d 157 148 L S M Q = (gR L 0 fun x => vc n d 157 149 L (.inr (.inr x) :: S) M Q) := nr rfl
set_option maxRecDepth 100000 in
theorem v157_149 (n d : Nat) (L : List (Option mL)) (S : List mV) (M : Mm) (Q : mQ) : vc (n + 1) d 157 149 L S M Q = (pA S fun a S => shO M a 10 (vc n d 157 152 L (.inl (M.it a 28) :: S) M Q)) := nr rfl
set_option maxRecDepth 100000 in
theorem v157_152 (n d : Nat) (L : List (Option mL)) (S : List mV) (M : Mm) (Q : mQ) : vc (n + 1) d 157 152 L S M Q = (pI S fun x S => S = [] ∧ (0 = 0 ∨ x = 0 ∨ x = 1) ∧ Q (some (.inl x)) M) := nr rfl
set_option maxRecDepth 100000 in
theorem v157_153 (n d : Nat) (L : List (Option mL)) (S : List mV) (M : Mm) (Q : mQ) : vc (n + 1) d 157 153 L S M Q = (gR L 0 fun x => vc n d 157 154 L (.inr (.inr x) :: S) M Q) := nr rfl
set_option maxRecDepth 100000 in
theorem v157_154 (n d : Nat) (L : List (Option mL)) (S : List mV) (M : Mm) (Q : mQ) : vc (n + 1) d 157 154 L S M Q = (pA S fun a S => shO M a 10 (vc n d 157 157 L (.inl (M.it a 5) :: S) M Q)) := nr rfl
set_option maxRecDepth 100000 in
theorem v157_157 (n d : Nat) (L : List (Option mL)) (S : List mV) (M : Mm) (Q : mQ) : vc (n + 1) d 157 157 L S M Q = (pI S fun x S => (x = 0 → vc n d 157 164 L S M Q) ∧ (¬ (x = 0) → vc n d 157 160 L S M Q)) := nr rfl
set_option maxRecDepth 100000 in
theorem v157_160 (n d : Nat) (L : List (Option mL)) (S : List mV) (M : Mm) (Q : mQ) : vc (n + 1) d 157 160 L S M Q = (vc n d 157 161 L (.inl 0 :: S) M Q) := nr rfl
set_option maxRecDepth 100000 in
theorem v157_161 (n d : Nat) (L : List (Option mL)) (S : List mV) (M : Mm) (Q : mQ) : vc (n + 1) d 157 161 L S M Q = (vc n d 157 168 L S M Q) := nr rfl
set_option maxRecDepth 100000 in
theorem v157_164 (n d : Nat) (L : List (Option mL)) (S : List mV) (M : Mm) (Q : mQ) : vc (n + 1) d 157 164 L S M Q = (gR L 0 fun x => vc n d 157 165 L (.inr (.inr x) :: S) M Q) := nr rfl
set_option maxRecDepth 100000 in
theorem v157_165 (n d : Nat) (L : List (Option mL)) (S : List mV) (M : Mm) (Q : mQ) : vc (n + 1) d 157 165 L S M Q = (pA S fun a S => shO M a 10 (vc n d 157 168 L (.inl (M.it a 10) :: S) M Q)) := nr rfl
set_option maxRecDepth 100000 in
theorem v157_168 (n d : Nat) (L : List (Option mL)) (S : List mV) (M : Mm) (Q : mQ) : vc (n + 1) d 157 168 L S M Q = (pI S fun x S => S = [] ∧ (0 = 0 ∨ x = 0 ∨ x = 1) ∧ Q (some (.inl x)) M) := nr rfl
set_option maxRecDepth 100000 in
theorem v157_169 (n d : Nat) (L : List (Option mL)) (S : List mV) (M : Mm) (Q : mQ) : vc (n + 1) d 157 169 L S M Q = (gR L 0 fun x => vc n d 157 170 L (.inr (.inr x) :: S) M Q) := nr rfl
set_option maxRecDepth 100000 in
theorem v157_170 (n d : Nat) (L : List (Option mL)) (S : List mV) (M : Mm) (Q : mQ) : vc (n + 1) d 157 170 L S M Q = (pA S fun a S => shO M a 10 (rrf M a 4 fun r => vc n d 157 173 L (.inr (.inr r) :: S) M Q)) := nr rfl
set_option maxRecDepth 100000 in
theorem v157_173 (n d : Nat) (L : List (Option mL)) (S : List mV) (M : Mm) (Q : mQ) : vc (n + 1) d 157 173 L S M Q = (vc n d 157 175 L (.inl 18 :: S) M Q) := nr rfl
set_option maxRecDepth 100000 in
theorem v157_175 (n d : Nat) (L : List (Option mL)) (S : List mV) (M : Mm) (Q : mQ) : vc (n + 1) d 157 175 L S M Q = (gR L 0 fun x => vc n d 157 176 L (.inr (.inr x) :: S) M Q) := nr rfl
set_option maxRecDepth 100000 in
theorem v157_176 (n d : Nat) (L : List (Option mL)) (S : List mV) (M : Mm) (Q : mQ) : vc (n + 1) d 157 176 L S M Q = (pAs 0 S fun as S => pA S fun a S => shO M a 10 (stk S ≤ 8 ∧ XC d 149 (.inr (some a) :: as) M (fun r M => ∃ x : Int32, r = some (.inl x) ∧ X d 157 179 L (.inl x :: S) M Q))) := nr rfl
set_option maxRecDepth 100000 in
theorem v157_179 (n d : Nat) (L : List (Option mL)) (S : List mV) (M : Mm) (Q : mQ) : vc (n + 1) d 157 179 L S M Q = (pI S fun y S => pI S fun x S => vc n d 157 180 L (.inl (x * y) :: S) M Q) := nr rfl
set_option maxRecDepth 100000 in
theorem v157_180 (n d : Nat) (L : List (Option mL)) (S : List mV) (M : Mm) (Q : mQ) : vc (n + 1) d 157 180 L S M Q = (vc n d 157 181 L (.inl 1 :: S) M Q) := nr rfl
set_option maxRecDepth 100000 in
theorem v157_181 (n d : Nat) (L : List (Option mL)) (S : List mV) (M : Mm) (Q : mQ) : vc (n + 1) d 157 181 L S M Q = (pI S fun y S => pI S fun x S => vc n d 157 182 L (.inl (x + y) :: S) M Q) := nr rfl
set_option maxRecDepth 100000 in
theorem v157_182 (n d : Nat) (L : List (Option mL)) (S : List mV) (M : Mm) (Q : mQ) : vc (n + 1) d 157 182 L S M Q = (pI S fun i S => pA S fun a S => shA M a fun t k => (t = 40 ∨ t = 41) ∧ inB i k ∧ vc n d 157 183 L (.inl (M.it a i.toNatClampNeg) :: S) M Q) := nr rfl
set_option maxRecDepth 100000 in
theorem v157_183 (n d : Nat) (L : List (Option mL)) (S : List mV) (M : Mm) (Q : mQ) : vc (n + 1) d 157 183 L S M Q = (pI S fun x S => S = [] ∧ (0 = 0 ∨ x = 0 ∨ x = 1) ∧ Q (some (.inl x)) M) := nr rfl
set_option maxRecDepth 100000 in
theorem v157_184 (n d : Nat) (L : List (Option mL)) (S : List mV) (M : Mm) (Q : mQ) : vc (n + 1) d 157 184 L S M Q = (gR L 0 fun x => vc n d 157 185 L (.inr (.inr x) :: S) M Q) := nr rfl
set_option maxRecDepth 100000 in
theorem v157_185 (n d : Nat) (L : List (Option mL)) (S : List mV) (M : Mm) (Q : mQ) : vc (n + 1) d 157 185 L S M Q = (pA S fun a S => shO M a 10 (vc n d 157 188 L (.inl (M.it a 5) :: S) M Q)) := nr rfl
set_option maxRecDepth 100000 in
theorem v157_188 (n d : Nat) (L : List (Option mL)) (S : List mV) (M : Mm) (Q : mQ) : vc (n + 1) d 157 188 L S M Q = (pI S fun x S => (x = 0 → vc n d 157 195 L S M Q) ∧ (¬ (x = 0) → vc n d 157 191 L S M Q)) := nr rfl
set_option maxRecDepth 100000 in
theorem v157_191 (n d : Nat) (L : List (Option mL)) (S : List mV) (M : Mm) (Q : mQ) : vc (n + 1) d 157 191 L S M Q = (vc n d 157 192 L (.inl 0 :: S) M Q) := nr rfl
set_option maxRecDepth 100000 in
theorem v157_192 (n d : Nat) (L : List (Option mL)) (S : List mV) (M : Mm) (Q : mQ) : vc (n + 1) d 157 192 L S M Q = (vc n d 157 199 L S M Q) := nr rfl
set_option maxRecDepth 100000 in
theorem v157_195 (n d : Nat) (L : List (Option mL)) (S : List mV) (M : Mm) (Q : mQ) : vc (n + 1) d 157 195 L S M Q = (gR L 0 fun x => vc n d 157 196 L (.inr (.inr x) :: S) M Q) := nr rfl
set_option maxRecDepth 100000 in
theorem v157_196 (n d : Nat) (L : List (Option mL)) (S : List mV) (M : Mm) (Q : mQ) : vc (n + 1) d 157 196 L S M Q = (pA S fun a S => shO M a 10 (vc n d 157 199 L (.inl (M.it a 11) :: S) M Q)) := nr rfl
set_option maxRecDepth 100000 in
theorem v157_199 (n d : Nat) (L : List (Option mL)) (S : List mV) (M : Mm) (Q : mQ) : vc (n + 1) d 157 199 L S M Q = (pI S fun x S => S = [] ∧ (0 = 0 ∨ x = 0 ∨ x = 1) ∧ Q (some (.inl x)) M) := nr rfl
set_option maxRecDepth 100000 in
theorem v157_200 (n d : Nat) (L : List (Option mL)) (S : List mV) (M : Mm) (Q : mQ) : vc (n + 1) d 157 200 L S M Q = (gR L 0 fun x => vc n d 157 201 L (.inr (.inr x) :: S) M Q) := nr rfl
set_option maxRecDepth 100000 in
theorem v157_201 (n d : Nat) (L : List (Option mL)) (S : List mV) (M : Mm) (Q : mQ) : vc (n + 1) d 157 201 L S M Q = (pA S fun a S => shO M a 10 (vc n d 157 204 L (.inl (M.it a 5) :: S) M Q)) := nr rfl
set_option maxRecDepth 100000 in
theorem v157_204 (n d : Nat) (L : List (Option mL)) (S : List mV) (M : Mm) (Q : mQ) : vc (n + 1) d 157 204 L S M Q = (pI S fun x S => (x = 0 → vc n d 157 211 L S M Q) ∧ (¬ (x = 0) → vc n d 157 207 L S M Q)) := nr rfl
set_option maxRecDepth 100000 in
theorem v157_207 (n d : Nat) (L : List (Option mL)) (S : List mV) (M : Mm) (Q : mQ) : vc (n + 1) d 157 207 L S M Q = (vc n d 157 208 L (.inl 0 :: S) M Q) := nr rfl
set_option maxRecDepth 100000 in
theorem v157_208 (n d : Nat) (L : List (Option mL)) (S : List mV) (M : Mm) (Q : mQ) : vc (n + 1) d 157 208 L S M Q = (X d 157 215 L S M Q) := nr rfl
set_option maxRecDepth 100000 in
theorem v157_211 (n d : Nat) (L : List (Option mL)) (S : List mV) (M : Mm) (Q : mQ) : vc (n + 1) d 157 211 L S M Q = (gR L 0 fun x => vc n d 157 212 L (.inr (.inr x) :: S) M Q) := nr rfl
set_option maxRecDepth 100000 in
theorem v157_212 (n d : Nat) (L : List (Option mL)) (S : List mV) (M : Mm) (Q : mQ) : vc (n + 1) d 157 212 L S M Q = (pAs 0 S fun as S => pA S fun a S => shO M a 10 (stk S ≤ 8 ∧ XC d 140 (.inr (some a) :: as) M (fun r M => ∃ x : Int32, r = some (.inl x) ∧ X d 157 215 L (.inl x :: S) M Q))) := nr rfl
set_option maxRecDepth 100000 in
theorem v157_215 (n d : Nat) (L : List (Option mL)) (S : List mV) (M : Mm) (Q : mQ) : vc (n + 1) d 157 215 L S M Q = (pI S fun x S => S = [] ∧ (0 = 0 ∨ x = 0 ∨ x = 1) ∧ Q (some (.inl x)) M) := nr rfl
set_option maxRecDepth 100000 in
theorem v157_216 (n d : Nat) (L : List (Option mL)) (S : List mV) (M : Mm) (Q : mQ) : vc (n + 1) d 157 216 L S M Q = (gR L 0 fun x => vc n d 157 217 L (.inr (.inr x) :: S) M Q) := nr rfl
set_option maxRecDepth 100000 in
theorem v157_217 (n d : Nat) (L : List (Option mL)) (S : List mV) (M : Mm) (Q : mQ) : vc (n + 1) d 157 217 L S M Q = (pA S fun a S => shO M a 10 (vc n d 157 220 L (.inl (M.it a 5) :: S) M Q)) := nr rfl
set_option maxRecDepth 100000 in
theorem v157_220 (n d : Nat) (L : List (Option mL)) (S : List mV) (M : Mm) (Q : mQ) : vc (n + 1) d 157 220 L S M Q = (pI S fun x S => (x = 0 → vc n d 157 227 L S M Q) ∧ (¬ (x = 0) → vc n d 157 223 L S M Q)) := nr rfl
set_option maxRecDepth 100000 in
theorem v157_223 (n d : Nat) (L : List (Option mL)) (S : List mV) (M : Mm) (Q : mQ) : vc (n + 1) d 157 223 L S M Q = (vc n d 157 224 L (.inl 0 :: S) M Q) := nr rfl
set_option maxRecDepth 100000 in
theorem v157_224 (n d : Nat) (L : List (Option mL)) (S : List mV) (M : Mm) (Q : mQ) : vc (n + 1) d 157 224 L S M Q = (vc n d 157 231 L S M Q) := nr rfl
set_option maxRecDepth 100000 in
theorem v157_227 (n d : Nat) (L : List (Option mL)) (S : List mV) (M : Mm) (Q : mQ) : vc (n + 1) d 157 227 L S M Q = (gR L 0 fun x => vc n d 157 228 L (.inr (.inr x) :: S) M Q) := nr rfl
set_option maxRecDepth 100000 in
theorem v157_228 (n d : Nat) (L : List (Option mL)) (S : List mV) (M : Mm) (Q : mQ) : vc (n + 1) d 157 228 L S M Q = (pA S fun a S => shO M a 10 (vc n d 157 231 L (.inl (M.it a 12) :: S) M Q)) := nr rfl
set_option maxRecDepth 100000 in
theorem v157_231 (n d : Nat) (L : List (Option mL)) (S : List mV) (M : Mm) (Q : mQ) : vc (n + 1) d 157 231 L S M Q = (pI S fun x S => S = [] ∧ (0 = 0 ∨ x = 0 ∨ x = 1) ∧ Q (some (.inl x)) M) := nr rfl
set_option maxRecDepth 100000 in
theorem v157_232 (n d : Nat) (L : List (Option mL)) (S : List mV) (M : Mm) (Q : mQ) : vc (n + 1) d 157 232 L S M Q = (gR L 0 fun x => vc n d 157 233 L (.inr (.inr x) :: S) M Q) := nr rfl
set_option maxRecDepth 100000 in
theorem v157_233 (n d : Nat) (L : List (Option mL)) (S : List mV) (M : Mm) (Q : mQ) : vc (n + 1) d 157 233 L S M Q = (pA S fun a S => shO M a 10 (vc n d 157 236 L (.inl (M.it a 5) :: S) M Q)) := nr rfl
set_option maxRecDepth 100000 in
theorem v157_236 (n d : Nat) (L : List (Option mL)) (S : List mV) (M : Mm) (Q : mQ) : vc (n + 1) d 157 236 L S M Q = (pI S fun x S => (x = 0 → vc n d 157 243 L S M Q) ∧ (¬ (x = 0) → vc n d 157 239 L S M Q)) := nr rfl
set_option maxRecDepth 100000 in
theorem v157_239 (n d : Nat) (L : List (Option mL)) (S : List mV) (M : Mm) (Q : mQ) : vc (n + 1) d 157 239 L S M Q = (vc n d 157 240 L (.inl 1 :: S) M Q) := nr rfl
set_option maxRecDepth 100000 in
theorem v157_240 (n d : Nat) (L : List (Option mL)) (S : List mV) (M : Mm) (Q : mQ) : vc (n + 1) d 157 240 L S M Q = (vc n d 157 244 L S M Q) := nr rfl
set_option maxRecDepth 100000 in
theorem v157_243 (n d : Nat) (L : List (Option mL)) (S : List mV) (M : Mm) (Q : mQ) : vc (n + 1) d 157 243 L S M Q = (vc n d 157 244 L (.inl 0 :: S) M Q) := nr rfl
set_option maxRecDepth 100000 in
theorem v157_244 (n d : Nat) (L : List (Option mL)) (S : List mV) (M : Mm) (Q : mQ) : vc (n + 1) d 157 244 L S M Q = (pI S fun x S => S = [] ∧ (0 = 0 ∨ x = 0 ∨ x = 1) ∧ Q (some (.inl x)) M) := nr rfl
set_option maxRecDepth 100000 in
theorem v157_245 (n d : Nat) (L : List (Option mL)) (S : List mV) (M : Mm) (Q : mQ) : vc (n + 1) d 157 245 L S M Q = (vc n d 157 246 L (.inl (-1) :: S) M Q) := nr rfl
set_option maxRecDepth 100000 in
theorem v157_246 (n d : Nat) (L : List (Option mL)) (S : List mV) (M : Mm) (Q : mQ) : vc (n + 1) d 157 246 L S M Q = (pI S fun x S => S = [] ∧ (0 = 0 ∨ x = 0 ∨ x = 1) ∧ Q (some (.inl x)) M) := nr rfl
set_option maxRecDepth 100000 in
theorem v158_0 (n d : Nat) (L : List (Option mL)) (S : List mV) (M : Mm) (Q : mQ) : vc (n + 1) d 158 0 L S M Q = (gR L 0 fun x => vc n d 158 1 L (.inr (.inr x) :: S) M Q) := nr rfl
set_option maxRecDepth 100000 in
theorem v158_1 (n d : Nat) (L : List (Option mL)) (S : List mV) (M : Mm) (Q : mQ) : vc (n + 1) d 158 1 L S M Q = (vc n d 158 2 L (.inl 0 :: S) M Q) := nr rfl
set_option maxRecDepth 100000 in
theorem v158_2 (n d : Nat) (L : List (Option mL)) (S : List mV) (M : Mm) (Q : mQ) : vc (n + 1) d 158 2 L S M Q = (pI S fun x S => pA S fun a S => shO M a 10 (vc n d 158 5 L S (M.si a 0 x) Q)) := nr rfl
set_option maxRecDepth 100000 in
theorem v158_5 (n d : Nat) (L : List (Option mL)) (S : List mV) (M : Mm) (Q : mQ) : vc (n + 1) d 158 5 L S M Q = (gI L 1 fun x => vc n d 158 6 L (.inl x :: S) M Q) := nr rfl
set_option maxRecDepth 100000 in
theorem v158_6 (n d : Nat) (L : List (Option mL)) (S : List mV) (M : Mm) (Q : mQ) : vc (n + 1) d 158 6 L S M Q = (pI S fun x S => (x < 0 → vc n d 158 17 L S M Q) ∧ (¬ (x < 0) → vc n d 158 9 L S M Q)) := nr rfl
set_option maxRecDepth 100000 in
theorem v158_9 (n d : Nat) (L : List (Option mL)) (S : List mV) (M : Mm) (Q : mQ) : vc (n + 1) d 158 9 L S M Q = (gI L 1 fun x => vc n d 158 10 L (.inl x :: S) M Q) := nr rfl
set_option maxRecDepth 100000 in
theorem v158_10 (n d : Nat) (L : List (Option mL)) (S : List mV) (M : Mm) (Q : mQ) : vc (n + 1) d 158 10 L S M Q = (gR L 0 fun x => vc n d 158 11 L (.inr (.inr x) :: S) M Q) := nr rfl
set_option maxRecDepth 100000 in
theorem v158_11 (n d : Nat) (L : List (Option mL)) (S : List mV) (M : Mm) (Q : mQ) : vc (n + 1) d 158 11 L S M Q = (pA S fun a S => shO M a 10 (vc n d 158 14 L (.inl (M.it a 14) :: S) M Q)) := nr rfl
set_option maxRecDepth 100000 in
theorem v158_14 (n d : Nat) (L : List (Option mL)) (S : List mV) (M : Mm) (Q : mQ) : vc (n + 1) d 158 14 L S M Q = (pI S fun y S => pI S fun x S => (x < y → vc n d 158 19 L S M Q) ∧ (¬ (x < y) → vc n d 158 17 L S M Q)) := nr rfl
set_option maxRecDepth 100000 in
theorem v158_17 (n d : Nat) (L : List (Option mL)) (S : List mV) (M : Mm) (Q : mQ) : vc (n + 1) d 158 17 L S M Q = (vc n d 158 18 L (.inl (-1) :: S) M Q) := nr rfl
set_option maxRecDepth 100000 in
theorem v158_18 (n d : Nat) (L : List (Option mL)) (S : List mV) (M : Mm) (Q : mQ) : vc (n + 1) d 158 18 L S M Q = (pI S fun x S => S = [] ∧ (0 = 0 ∨ x = 0 ∨ x = 1) ∧ Q (some (.inl x)) M) := nr rfl
set_option maxRecDepth 100000 in
theorem v158_19 (n d : Nat) (L : List (Option mL)) (S : List mV) (M : Mm) (Q : mQ) : vc (n + 1) d 158 19 L S M Q = (gI L 2 fun x => vc n d 158 20 L (.inl x :: S) M Q) := nr rfl
set_option maxRecDepth 100000 in
theorem v158_20 (n d : Nat) (L : List (Option mL)) (S : List mV) (M : Mm) (Q : mQ) : vc (n + 1) d 158 20 L S M Q = (pI S fun x S => (¬ x = 0 → vc n d 158 32 L S M Q) ∧ (¬ (¬ x = 0) → vc n d 158 23 L S M Q)) := nr rfl
set_option maxRecDepth 100000 in
theorem v158_23 (n d : Nat) (L : List (Option mL)) (S : List mV) (M : Mm) (Q : mQ) : vc (n + 1) d 158 23 L S M Q = (gR L 0 fun x => vc n d 158 24 L (.inr (.inr x) :: S) M Q) := nr rfl
set_option maxRecDepth 100000 in
theorem v158_24 (n d : Nat) (L : List (Option mL)) (S : List mV) (M : Mm) (Q : mQ) : vc (n + 1) d 158 24 L S M Q = (pA S fun a S => shO M a 10 (rrf M a 19 fun r => vc n d 158 27 L (.inr (.inr r) :: S) M Q)) := nr rfl
set_option maxRecDepth 100000 in
theorem v158_27 (n d : Nat) (L : List (Option mL)) (S : List mV) (M : Mm) (Q : mQ) : vc (n + 1) d 158 27 L S M Q = (gI L 1 fun x => vc n d 158 28 L (.inl x :: S) M Q) := nr rfl
set_option maxRecDepth 100000 in
theorem v158_28 (n d : Nat) (L : List (Option mL)) (S : List mV) (M : Mm) (Q : mQ) : vc (n + 1) d 158 28 L S M Q = (pI S fun i S => pA S fun a S => shA M a fun t k => (t = 40 ∨ t = 41) ∧ inB i k ∧ vc n d 158 29 L (.inl (M.it a i.toNatClampNeg) :: S) M Q) := nr rfl
set_option maxRecDepth 100000 in
theorem v158_29 (n d : Nat) (L : List (Option mL)) (S : List mV) (M : Mm) (Q : mQ) : vc (n + 1) d 158 29 L S M Q = (vc n d 158 60 L S M Q) := nr rfl
set_option maxRecDepth 100000 in
theorem v158_32 (n d : Nat) (L : List (Option mL)) (S : List mV) (M : Mm) (Q : mQ) : vc (n + 1) d 158 32 L S M Q = (gI L 2 fun x => vc n d 158 33 L (.inl x :: S) M Q) := nr rfl
set_option maxRecDepth 100000 in
theorem v158_33 (n d : Nat) (L : List (Option mL)) (S : List mV) (M : Mm) (Q : mQ) : vc (n + 1) d 158 33 L S M Q = (vc n d 158 34 L (.inl 1 :: S) M Q) := nr rfl
set_option maxRecDepth 100000 in
theorem v158_34 (n d : Nat) (L : List (Option mL)) (S : List mV) (M : Mm) (Q : mQ) : vc (n + 1) d 158 34 L S M Q = (pI S fun y S => pI S fun x S => (¬ x = y → vc n d 158 46 L S M Q) ∧ (¬ (¬ x = y) → vc n d 158 37 L S M Q)) := nr rfl
set_option maxRecDepth 100000 in
theorem v158_37 (n d : Nat) (L : List (Option mL)) (S : List mV) (M : Mm) (Q : mQ) : vc (n + 1) d 158 37 L S M Q = (gR L 0 fun x => vc n d 158 38 L (.inr (.inr x) :: S) M Q) := nr rfl
set_option maxRecDepth 100000 in
theorem v158_38 (n d : Nat) (L : List (Option mL)) (S : List mV) (M : Mm) (Q : mQ) : vc (n + 1) d 158 38 L S M Q = (pA S fun a S => shO M a 10 (rrf M a 20 fun r => vc n d 158 41 L (.inr (.inr r) :: S) M Q)) := nr rfl
set_option maxRecDepth 100000 in
theorem v158_41 (n d : Nat) (L : List (Option mL)) (S : List mV) (M : Mm) (Q : mQ) : vc (n + 1) d 158 41 L S M Q = (gI L 1 fun x => vc n d 158 42 L (.inl x :: S) M Q) := nr rfl
set_option maxRecDepth 100000 in
theorem v158_42 (n d : Nat) (L : List (Option mL)) (S : List mV) (M : Mm) (Q : mQ) : vc (n + 1) d 158 42 L S M Q = (pI S fun i S => pA S fun a S => shA M a fun t k => (t = 40 ∨ t = 41) ∧ inB i k ∧ vc n d 158 43 L (.inl (M.it a i.toNatClampNeg) :: S) M Q) := nr rfl
set_option maxRecDepth 100000 in
theorem v158_43 (n d : Nat) (L : List (Option mL)) (S : List mV) (M : Mm) (Q : mQ) : vc (n + 1) d 158 43 L S M Q = (vc n d 158 60 L S M Q) := nr rfl
set_option maxRecDepth 100000 in
theorem v158_46 (n d : Nat) (L : List (Option mL)) (S : List mV) (M : Mm) (Q : mQ) : vc (n + 1) d 158 46 L S M Q = (gI L 2 fun x => vc n d 158 47 L (.inl x :: S) M Q) := nr rfl
set_option maxRecDepth 100000 in
theorem v158_47 (n d : Nat) (L : List (Option mL)) (S : List mV) (M : Mm) (Q : mQ) : vc (n + 1) d 158 47 L S M Q = (vc n d 158 48 L (.inl 2 :: S) M Q) := nr rfl
set_option maxRecDepth 100000 in
theorem v158_48 (n d : Nat) (L : List (Option mL)) (S : List mV) (M : Mm) (Q : mQ) : vc (n + 1) d 158 48 L S M Q = (pI S fun y S => pI S fun x S => (¬ x = y → vc n d 158 59 L S M Q) ∧ (¬ (¬ x = y) → vc n d 158 51 L S M Q)) := nr rfl
set_option maxRecDepth 100000 in
theorem v158_51 (n d : Nat) (L : List (Option mL)) (S : List mV) (M : Mm) (Q : mQ) : vc (n + 1) d 158 51 L S M Q = (gR L 0 fun x => vc n d 158 52 L (.inr (.inr x) :: S) M Q) := nr rfl
set_option maxRecDepth 100000 in
theorem v158_52 (n d : Nat) (L : List (Option mL)) (S : List mV) (M : Mm) (Q : mQ) : vc (n + 1) d 158 52 L S M Q = (gI L 1 fun x => vc n d 158 53 L (.inl x :: S) M Q) := nr rfl
set_option maxRecDepth 100000 in
theorem v158_53 (n d : Nat) (L : List (Option mL)) (S : List mV) (M : Mm) (Q : mQ) : vc (n + 1) d 158 53 L S M Q = (pAs 1 S fun as S => pA S fun a S => shO M a 10 (stk S ≤ 8 ∧ XC d 151 (.inr (some a) :: as) M (fun r M => ∃ x : Int32, r = some (.inl x) ∧ X d 158 56 L (.inl x :: S) M Q))) := nr rfl
set_option maxRecDepth 100000 in
theorem v158_56 (n d : Nat) (L : List (Option mL)) (S : List mV) (M : Mm) (Q : mQ) : vc (n + 1) d 158 56 L S M Q = (vc n d 158 60 L S M Q) := nr rfl
set_option maxRecDepth 100000 in
theorem v158_59 (n d : Nat) (L : List (Option mL)) (S : List mV) (M : Mm) (Q : mQ) : vc (n + 1) d 158 59 L S M Q = (vc n d 158 60 L (.inl (-1) :: S) M Q) := nr rfl
set_option maxRecDepth 100000 in
theorem v158_60 (n d : Nat) (L : List (Option mL)) (S : List mV) (M : Mm) (Q : mQ) : vc (n + 1) d 158 60 L S M Q = (pI S fun x S => S = [] ∧ (0 = 0 ∨ x = 0 ∨ x = 1) ∧ Q (some (.inl x)) M) := nr rfl
set_option maxRecDepth 100000 in
theorem v159_0 (n d : Nat) (L : List (Option mL)) (S : List mV) (M : Mm) (Q : mQ) : vc (n + 1) d 159 0 L S M Q = (gR L 0 fun x => vc n d 159 1 L (.inr (.inr x) :: S) M Q) := nr rfl
set_option maxRecDepth 100000 in
theorem v159_1 (n d : Nat) (L : List (Option mL)) (S : List mV) (M : Mm) (Q : mQ) : vc (n + 1) d 159 1 L S M Q = (vc n d 159 2 L (.inl 0 :: S) M Q) := nr rfl
set_option maxRecDepth 100000 in
theorem v159_2 (n d : Nat) (L : List (Option mL)) (S : List mV) (M : Mm) (Q : mQ) : vc (n + 1) d 159 2 L S M Q = (pI S fun x S => pA S fun a S => shO M a 10 (vc n d 159 5 L S (M.si a 0 x) Q)) := nr rfl
set_option maxRecDepth 100000 in
theorem v159_5 (n d : Nat) (L : List (Option mL)) (S : List mV) (M : Mm) (Q : mQ) : vc (n + 1) d 159 5 L S M Q = (gR L 0 fun x => vc n d 159 6 L (.inr (.inr x) :: S) M Q) := nr rfl
set_option maxRecDepth 100000 in
theorem v159_6 (n d : Nat) (L : List (Option mL)) (S : List mV) (M : Mm) (Q : mQ) : vc (n + 1) d 159 6 L S M Q = (pA S fun a S => shO M a 10 (vc n d 159 9 L (.inl (M.it a 5) :: S) M Q)) := nr rfl
set_option maxRecDepth 100000 in
theorem v159_9 (n d : Nat) (L : List (Option mL)) (S : List mV) (M : Mm) (Q : mQ) : vc (n + 1) d 159 9 L S M Q = (pI S fun x S => (¬ x = 0 → vc n d 159 31 L S M Q) ∧ (¬ (¬ x = 0) → vc n d 159 12 L S M Q)) := nr rfl
set_option maxRecDepth 100000 in
theorem v159_12 (n d : Nat) (L : List (Option mL)) (S : List mV) (M : Mm) (Q : mQ) : vc (n + 1) d 159 12 L S M Q = (gI L 1 fun x => vc n d 159 13 L (.inl x :: S) M Q) := nr rfl
set_option maxRecDepth 100000 in
theorem v159_13 (n d : Nat) (L : List (Option mL)) (S : List mV) (M : Mm) (Q : mQ) : vc (n + 1) d 159 13 L S M Q = (pI S fun x S => (x < 0 → vc n d 159 31 L S M Q) ∧ (¬ (x < 0) → vc n d 159 16 L S M Q)) := nr rfl
set_option maxRecDepth 100000 in
theorem v159_16 (n d : Nat) (L : List (Option mL)) (S : List mV) (M : Mm) (Q : mQ) : vc (n + 1) d 159 16 L S M Q = (gI L 1 fun x => vc n d 159 17 L (.inl x :: S) M Q) := nr rfl
set_option maxRecDepth 100000 in
theorem v159_17 (n d : Nat) (L : List (Option mL)) (S : List mV) (M : Mm) (Q : mQ) : vc (n + 1) d 159 17 L S M Q = (vc n d 159 19 L (.inl 8 :: S) M Q) := nr rfl
set_option maxRecDepth 100000 in
theorem v159_19 (n d : Nat) (L : List (Option mL)) (S : List mV) (M : Mm) (Q : mQ) : vc (n + 1) d 159 19 L S M Q = (pI S fun y S => pI S fun x S => (y ≤ x → vc n d 159 31 L S M Q) ∧ (¬ (y ≤ x) → vc n d 159 22 L S M Q)) := nr rfl
set_option maxRecDepth 100000 in
theorem v159_22 (n d : Nat) (L : List (Option mL)) (S : List mV) (M : Mm) (Q : mQ) : vc (n + 1) d 159 22 L S M Q = (gI L 2 fun x => vc n d 159 23 L (.inl x :: S) M Q) := nr rfl
set_option maxRecDepth 100000 in
theorem v159_23 (n d : Nat) (L : List (Option mL)) (S : List mV) (M : Mm) (Q : mQ) : vc (n + 1) d 159 23 L S M Q = (pI S fun x S => (x = 0 → X d 159 33 L S M Q) ∧ (¬ (x = 0) → vc n d 159 26 L S M Q)) := nr rfl
set_option maxRecDepth 100000 in
theorem v159_26 (n d : Nat) (L : List (Option mL)) (S : List mV) (M : Mm) (Q : mQ) : vc (n + 1) d 159 26 L S M Q = (gI L 2 fun x => vc n d 159 27 L (.inl x :: S) M Q) := nr rfl
set_option maxRecDepth 100000 in
theorem v159_27 (n d : Nat) (L : List (Option mL)) (S : List mV) (M : Mm) (Q : mQ) : vc (n + 1) d 159 27 L S M Q = (vc n d 159 28 L (.inl 1 :: S) M Q) := nr rfl
set_option maxRecDepth 100000 in
theorem v159_28 (n d : Nat) (L : List (Option mL)) (S : List mV) (M : Mm) (Q : mQ) : vc (n + 1) d 159 28 L S M Q = (pI S fun y S => pI S fun x S => (x = y → X d 159 33 L S M Q) ∧ (¬ (x = y) → vc n d 159 31 L S M Q)) := nr rfl
set_option maxRecDepth 100000 in
theorem v159_31 (n d : Nat) (L : List (Option mL)) (S : List mV) (M : Mm) (Q : mQ) : vc (n + 1) d 159 31 L S M Q = (vc n d 159 32 L (.inl (-1) :: S) M Q) := nr rfl
set_option maxRecDepth 100000 in
theorem v159_32 (n d : Nat) (L : List (Option mL)) (S : List mV) (M : Mm) (Q : mQ) : vc (n + 1) d 159 32 L S M Q = (pI S fun x S => S = [] ∧ (0 = 0 ∨ x = 0 ∨ x = 1) ∧ Q (some (.inl x)) M) := nr rfl
set_option maxRecDepth 100000 in
theorem v159_33 (n d : Nat) (L : List (Option mL)) (S : List mV) (M : Mm) (Q : mQ) : vc (n + 1) d 159 33 L S M Q = (gI L 2 fun x => vc n d 159 34 L (.inl x :: S) M Q) := nr rfl
set_option maxRecDepth 100000 in
theorem v159_34 (n d : Nat) (L : List (Option mL)) (S : List mV) (M : Mm) (Q : mQ) : vc (n + 1) d 159 34 L S M Q = (pI S fun x S => (¬ x = 0 → vc n d 159 44 L S M Q) ∧ (¬ (¬ x = 0) → vc n d 159 37 L S M Q)) := nr rfl
set_option maxRecDepth 100000 in
theorem v159_37 (n d : Nat) (L : List (Option mL)) (S : List mV) (M : Mm) (Q : mQ) : vc (n + 1) d 159 37 L S M Q = (gR L 0 fun x => vc n d 159 38 L (.inr (.inr x) :: S) M Q) := nr rfl
set_option maxRecDepth 100000 in
theorem v159_38 (n d : Nat) (L : List (Option mL)) (S : List mV) (M : Mm) (Q : mQ) : vc (n + 1) d 159 38 L S M Q = (pA S fun a S => shO M a 10 (rrf M a 6 fun r => vc n d 159 41 L (.inr (.inr r) :: S) M Q)) := nr rfl
set_option maxRecDepth 100000 in
theorem v159_41 (n d : Nat) (L : List (Option mL)) (S : List mV) (M : Mm) (Q : mQ) : vc (n + 1) d 159 41 L S M Q = (gI L 1 fun x => vc n d 159 42 L (.inl x :: S) M Q) := nr rfl
set_option maxRecDepth 100000 in
theorem v159_42 (n d : Nat) (L : List (Option mL)) (S : List mV) (M : Mm) (Q : mQ) : vc (n + 1) d 159 42 L S M Q = (pI S fun i S => pA S fun a S => shA M a fun t k => (t = 40 ∨ t = 41) ∧ inB i k ∧ vc n d 159 43 L (.inl (M.it a i.toNatClampNeg) :: S) M Q) := nr rfl
set_option maxRecDepth 100000 in
theorem v159_43 (n d : Nat) (L : List (Option mL)) (S : List mV) (M : Mm) (Q : mQ) : vc (n + 1) d 159 43 L S M Q = (pI S fun x S => S = [] ∧ (0 = 0 ∨ x = 0 ∨ x = 1) ∧ Q (some (.inl x)) M) := nr rfl
set_option maxRecDepth 100000 in
theorem v159_44 (n d : Nat) (L : List (Option mL)) (S : List mV) (M : Mm) (Q : mQ) : vc (n + 1) d 159 44 L S M Q = (vc n d 159 45 L (.inl 0 :: S) M Q) := nr rfl
set_option maxRecDepth 100000 in
theorem v159_45 (n d : Nat) (L : List (Option mL)) (S : List mV) (M : Mm) (Q : mQ) : vc (n + 1) d 159 45 L S M Q = (pI S fun x S => sL L 3 (some (.inl x)) fun L => vc n d 159 46 L S M Q) := nr rfl
set_option maxRecDepth 100000 in
theorem v159_46 (n d : Nat) (L : List (Option mL)) (S : List mV) (M : Mm) (Q : mQ) : vc (n + 1) d 159 46 L S M Q = (vc n d 159 48 L (.inl 16 :: S) M Q) := nr rfl
set_option maxRecDepth 100000 in
theorem v159_48 (n d : Nat) (L : List (Option mL)) (S : List mV) (M : Mm) (Q : mQ) : vc (n + 1) d 159 48 L S M Q = (gI L 1 fun x => vc n d 159 49 L (.inl x :: S) M Q) := nr rfl
set_option maxRecDepth 100000 in
theorem v159_49 (n d : Nat) (L : List (Option mL)) (S : List mV) (M : Mm) (Q : mQ) : vc (n + 1) d 159 49 L S M Q = (pI S fun y S => pI S fun x S => vc n d 159 50 L (.inl (x * y) :: S) M Q) := nr rfl
set_option maxRecDepth 100000 in
theorem v159_50 (n d : Nat) (L : List (Option mL)) (S : List mV) (M : Mm) (Q : mQ) : vc (n + 1) d 159 50 L S M Q = (pI S fun x S => sL L 4 (some (.inl x)) fun L => X d 159 52 L S M Q) := nr rfl
set_option maxRecDepth 100000 in
theorem v159_52 (n d : Nat) (L : List (Option mL)) (S : List mV) (M : Mm) (Q : mQ) : vc (n + 1) d 159 52 L S M Q = (gI L 4 fun x => vc n d 159 54 L (.inl x :: S) M Q) := nr rfl
set_option maxRecDepth 100000 in
theorem v159_54 (n d : Nat) (L : List (Option mL)) (S : List mV) (M : Mm) (Q : mQ) : vc (n + 1) d 159 54 L S M Q = (vc n d 159 56 L (.inl 16 :: S) M Q) := nr rfl
set_option maxRecDepth 100000 in
theorem v159_56 (n d : Nat) (L : List (Option mL)) (S : List mV) (M : Mm) (Q : mQ) : vc (n + 1) d 159 56 L S M Q = (gI L 1 fun x => vc n d 159 57 L (.inl x :: S) M Q) := nr rfl
set_option maxRecDepth 100000 in
theorem v159_57 (n d : Nat) (L : List (Option mL)) (S : List mV) (M : Mm) (Q : mQ) : vc (n + 1) d 159 57 L S M Q = (pI S fun y S => pI S fun x S => vc n d 159 58 L (.inl (x * y) :: S) M Q) := nr rfl
set_option maxRecDepth 100000 in
theorem v159_58 (n d : Nat) (L : List (Option mL)) (S : List mV) (M : Mm) (Q : mQ) : vc (n + 1) d 159 58 L S M Q = (vc n d 159 60 L (.inl 16 :: S) M Q) := nr rfl
set_option maxRecDepth 100000 in
theorem v159_60 (n d : Nat) (L : List (Option mL)) (S : List mV) (M : Mm) (Q : mQ) : vc (n + 1) d 159 60 L S M Q = (pI S fun y S => pI S fun x S => vc n d 159 61 L (.inl (x + y) :: S) M Q) := nr rfl
set_option maxRecDepth 100000 in
theorem v159_61 (n d : Nat) (L : List (Option mL)) (S : List mV) (M : Mm) (Q : mQ) : vc (n + 1) d 159 61 L S M Q = (pI S fun y S => pI S fun x S => (y ≤ x → vc n d 159 101 L S M Q) ∧ (¬ (y ≤ x) → vc n d 159 64 L S M Q)) := nr rfl
set_option maxRecDepth 100000 in
theorem v159_64 (n d : Nat) (L : List (Option mL)) (S : List mV) (M : Mm) (Q : mQ) : vc (n + 1) d 159 64 L S M Q = (gR L 0 fun x => vc n d 159 65 L (.inr (.inr x) :: S) M Q) := nr rfl
set_option maxRecDepth 100000 in
theorem v159_65 (n d : Nat) (L : List (Option mL)) (S : List mV) (M : Mm) (Q : mQ) : vc (n + 1) d 159 65 L S M Q = (gI L 4 fun x => vc n d 159 67 L (.inl x :: S) M Q) := nr rfl
set_option maxRecDepth 100000 in
theorem v159_67 (n d : Nat) (L : List (Option mL)) (S : List mV) (M : Mm) (Q : mQ) : vc (n + 1) d 159 67 L S M Q = (pAs 1 S fun as S => pA S fun a S => shO M a 10 (stk S ≤ 8 ∧ XC d 147 (.inr (some a) :: as) M (fun r M => ∃ x : Int32, r = some (.inl x) ∧ X d 159 70 L (.inl x :: S) M Q))) := nr rfl
set_option maxRecDepth 100000 in
theorem v159_70 (n d : Nat) (L : List (Option mL)) (S : List mV) (M : Mm) (Q : mQ) : vc (n + 1) d 159 70 L S M Q = (vc n d 159 71 L (.inl (-1) :: S) M Q) := nr rfl
set_option maxRecDepth 100000 in
theorem v159_71 (n d : Nat) (L : List (Option mL)) (S : List mV) (M : Mm) (Q : mQ) : vc (n + 1) d 159 71 L S M Q = (pI S fun y S => pI S fun x S => (¬ x = y → X d 159 83 L S M Q) ∧ (¬ (¬ x = y) → vc n d 159 74 L S M Q)) := nr rfl
set_option maxRecDepth 100000 in
theorem v159_74 (n d : Nat) (L : List (Option mL)) (S : List mV) (M : Mm) (Q : mQ) : vc (n + 1) d 159 74 L S M Q = (gR L 0 fun x => vc n d 159 75 L (.inr (.inr x) :: S) M Q) := nr rfl
set_option maxRecDepth 100000 in
theorem v159_75 (n d : Nat) (L : List (Option mL)) (S : List mV) (M : Mm) (Q : mQ) : vc (n + 1) d 159 75 L S M Q = (gI L 4 fun x => vc n d 159 77 L (.inl x :: S) M Q) := nr rfl
set_option maxRecDepth 100000 in
theorem v159_77 (n d : Nat) (L : List (Option mL)) (S : List mV) (M : Mm) (Q : mQ) : vc (n + 1) d 159 77 L S M Q = (pAs 1 S fun as S => pA S fun a S => shO M a 10 (stk S ≤ 8 ∧ XC d 146 (.inr (some a) :: as) M (fun r M => ∃ x : Int32, r = some (.inl x) ∧ X d 159 80 L (.inl x :: S) M Q))) := nr rfl
set_option maxRecDepth 100000 in
theorem v159_80 (n d : Nat) (L : List (Option mL)) (S : List mV) (M : Mm) (Q : mQ) : vc (n + 1) d 159 80 L S M Q = (pI S fun x S => (x = 0 → vc n d 159 95 L S M Q) ∧ (¬ (x = 0) → X d 159 83 L S M Q)) := nr rfl
set_option maxRecDepth 100000 in
theorem v159_83 (n d : Nat) (L : List (Option mL)) (S : List mV) (M : Mm) (Q : mQ) : vc (n + 1) d 159 83 L S M Q = (gI L 3 fun x => vc n d 159 84 L (.inl x :: S) M Q) := nr rfl
set_option maxRecDepth 100000 in
theorem v159_84 (n d : Nat) (L : List (Option mL)) (S : List mV) (M : Mm) (Q : mQ) : vc (n + 1) d 159 84 L S M Q = (gR L 0 fun x => vc n d 159 85 L (.inr (.inr x) :: S) M Q) := nr rfl
set_option maxRecDepth 100000 in
theorem v159_85 (n d : Nat) (L : List (Option mL)) (S : List mV) (M : Mm) (Q : mQ) : vc (n + 1) d 159 85 L S M Q = (gI L 4 fun x => vc n d 159 87 L (.inl x :: S) M Q) := nr rfl
set_option maxRecDepth 100000 in
theorem v159_87 (n d : Nat) (L : List (Option mL)) (S : List mV) (M : Mm) (Q : mQ) : vc (n + 1) d 159 87 L S M Q = (pAs 1 S fun as S => pA S fun a S => shO M a 10 (stk S ≤ 8 ∧ XC d 131 (.inr (some a) :: as) M (fun r M => ∃ x : Int32, r = some (.inl x) ∧ X d 159 90 L (.inl x :: S) M Q))) := nr rfl
set_option maxRecDepth 100000 in
theorem v159_90 (n d : Nat) (L : List (Option mL)) (S : List mV) (M : Mm) (Q : mQ) : vc (n + 1) d 159 90 L S M Q = (pAs 1 S fun as S => stk S ≤ 8 ∧ XC d 122 as M (fun r M => ∃ x : Int32, r = some (.inl x) ∧ X d 159 93 L (.inl x :: S) M Q)) := nr rfl
set_option maxRecDepth 100000 in
theorem v159_93 (n d : Nat) (L : List (Option mL)) (S : List mV) (M : Mm) (Q : mQ) : vc (n + 1) d 159 93 L S M Q = (pI S fun y S => pI S fun x S => vc n d 159 94 L (.inl (x + y) :: S) M Q) := nr rfl
set_option maxRecDepth 100000 in
theorem v159_94 (n d : Nat) (L : List (Option mL)) (S : List mV) (M : Mm) (Q : mQ) : vc (n + 1) d 159 94 L S M Q = (pI S fun x S => sL L 3 (some (.inl x)) fun L => vc n d 159 95 L S M Q) := nr rfl
set_option maxRecDepth 100000 in
theorem v159_95 (n d : Nat) (L : List (Option mL)) (S : List mV) (M : Mm) (Q : mQ) : vc (n + 1) d 159 95 L S M Q = (gI L 4 fun x => sL L 4 (some (.inl (x + 1))) fun L => vc n d 159 98 L S M Q) := nr rfl
set_option maxRecDepth 100000 in
theorem v159_98 (n d : Nat) (L : List (Option mL)) (S : List mV) (M : Mm) (Q : mQ) : vc (n + 1) d 159 98 L S M Q = (X d 159 52 L S M Q) := nr rfl
set_option maxRecDepth 100000 in
theorem v159_101 (n d : Nat) (L : List (Option mL)) (S : List mV) (M : Mm) (Q : mQ) : vc (n + 1) d 159 101 L S M Q = (gI L 3 fun x => vc n d 159 102 L (.inl x :: S) M Q) := nr rfl
set_option maxRecDepth 100000 in
theorem v159_102 (n d : Nat) (L : List (Option mL)) (S : List mV) (M : Mm) (Q : mQ) : vc (n + 1) d 159 102 L S M Q = (pI S fun x S => S = [] ∧ (0 = 0 ∨ x = 0 ∨ x = 1) ∧ Q (some (.inl x)) M) := nr rfl
set_option maxRecDepth 100000 in
theorem v160_0 (n d : Nat) (L : List (Option mL)) (S : List mV) (M : Mm) (Q : mQ) : vc (n + 1) d 160 0 L S M Q = (gR L 0 fun x => vc n d 160 1 L (.inr (.inr x) :: S) M Q) := nr rfl
set_option maxRecDepth 100000 in
theorem v160_1 (n d : Nat) (L : List (Option mL)) (S : List mV) (M : Mm) (Q : mQ) : vc (n + 1) d 160 1 L S M Q = (vc n d 160 2 L (.inl 0 :: S) M Q) := nr rfl
set_option maxRecDepth 100000 in
theorem v160_2 (n d : Nat) (L : List (Option mL)) (S : List mV) (M : Mm) (Q : mQ) : vc (n + 1) d 160 2 L S M Q = (pI S fun x S => pA S fun a S => shO M a 10 (vc n d 160 5 L S (M.si a 0 x) Q)) := nr rfl
set_option maxRecDepth 100000 in
theorem v160_5 (n d : Nat) (L : List (Option mL)) (S : List mV) (M : Mm) (Q : mQ) : vc (n + 1) d 160 5 L S M Q = (gI L 1 fun x => vc n d 160 6 L (.inl x :: S) M Q) := nr rfl
set_option maxRecDepth 100000 in
theorem v160_6 (n d : Nat) (L : List (Option mL)) (S : List mV) (M : Mm) (Q : mQ) : vc (n + 1) d 160 6 L S M Q = (pI S fun x S => (x < 0 → vc n d 160 35 L S M Q) ∧ (¬ (x < 0) → vc n d 160 9 L S M Q)) := nr rfl
set_option maxRecDepth 100000 in
theorem v160_9 (n d : Nat) (L : List (Option mL)) (S : List mV) (M : Mm) (Q : mQ) : vc (n + 1) d 160 9 L S M Q = (gI L 1 fun x => vc n d 160 10 L (.inl x :: S) M Q) := nr rfl
set_option maxRecDepth 100000 in
theorem v160_10 (n d : Nat) (L : List (Option mL)) (S : List mV) (M : Mm) (Q : mQ) : vc (n + 1) d 160 10 L S M Q = (vc n d 160 12 L (.inl 8 :: S) M Q) := nr rfl
set_option maxRecDepth 100000 in
theorem v160_12 (n d : Nat) (L : List (Option mL)) (S : List mV) (M : Mm) (Q : mQ) : vc (n + 1) d 160 12 L S M Q = (pI S fun y S => pI S fun x S => (y ≤ x → vc n d 160 35 L S M Q) ∧ (¬ (y ≤ x) → vc n d 160 15 L S M Q)) := nr rfl
set_option maxRecDepth 100000 in
theorem v160_15 (n d : Nat) (L : List (Option mL)) (S : List mV) (M : Mm) (Q : mQ) : vc (n + 1) d 160 15 L S M Q = (gI L 2 fun x => vc n d 160 16 L (.inl x :: S) M Q) := nr rfl
set_option maxRecDepth 100000 in
theorem v160_16 (n d : Nat) (L : List (Option mL)) (S : List mV) (M : Mm) (Q : mQ) : vc (n + 1) d 160 16 L S M Q = (pI S fun x S => (x < 0 → vc n d 160 35 L S M Q) ∧ (¬ (x < 0) → vc n d 160 19 L S M Q)) := nr rfl
set_option maxRecDepth 100000 in
theorem v160_19 (n d : Nat) (L : List (Option mL)) (S : List mV) (M : Mm) (Q : mQ) : vc (n + 1) d 160 19 L S M Q = (gI L 2 fun x => vc n d 160 20 L (.inl x :: S) M Q) := nr rfl
set_option maxRecDepth 100000 in
theorem v160_20 (n d : Nat) (L : List (Option mL)) (S : List mV) (M : Mm) (Q : mQ) : vc (n + 1) d 160 20 L S M Q = (vc n d 160 22 L (.inl 16 :: S) M Q) := nr rfl
set_option maxRecDepth 100000 in
theorem v160_22 (n d : Nat) (L : List (Option mL)) (S : List mV) (M : Mm) (Q : mQ) : vc (n + 1) d 160 22 L S M Q = (pI S fun y S => pI S fun x S => (y ≤ x → vc n d 160 35 L S M Q) ∧ (¬ (y ≤ x) → vc n d 160 25 L S M Q)) := nr rfl
set_option maxRecDepth 100000 in
theorem v160_25 (n d : Nat) (L : List (Option mL)) (S : List mV) (M : Mm) (Q : mQ) : vc (n + 1) d 160 25 L S M Q = (gI L 3 fun x => vc n d 160 26 L (.inl x :: S) M Q) := nr rfl
set_option maxRecDepth 100000 in
theorem v160_26 (n d : Nat) (L : List (Option mL)) (S : List mV) (M : Mm) (Q : mQ) : vc (n + 1) d 160 26 L S M Q = (pI S fun x S => (x < 0 → vc n d 160 35 L S M Q) ∧ (¬ (x < 0) → vc n d 160 29 L S M Q)) := nr rfl
set_option maxRecDepth 100000 in
theorem v160_29 (n d : Nat) (L : List (Option mL)) (S : List mV) (M : Mm) (Q : mQ) : vc (n + 1) d 160 29 L S M Q = (gI L 3 fun x => vc n d 160 30 L (.inl x :: S) M Q) := nr rfl
set_option maxRecDepth 100000 in
theorem v160_30 (n d : Nat) (L : List (Option mL)) (S : List mV) (M : Mm) (Q : mQ) : vc (n + 1) d 160 30 L S M Q = (vc n d 160 32 L (.inl 16 :: S) M Q) := nr rfl
set_option maxRecDepth 100000 in
theorem v160_32 (n d : Nat) (L : List (Option mL)) (S : List mV) (M : Mm) (Q : mQ) : vc (n + 1) d 160 32 L S M Q = (pI S fun y S => pI S fun x S => (x < y → vc n d 160 37 L S M Q) ∧ (¬ (x < y) → vc n d 160 35 L S M Q)) := nr rfl
set_option maxRecDepth 100000 in
theorem v160_35 (n d : Nat) (L : List (Option mL)) (S : List mV) (M : Mm) (Q : mQ) : vc (n + 1) d 160 35 L S M Q = (vc n d 160 36 L (.inl (-1) :: S) M Q) := nr rfl
set_option maxRecDepth 100000 in
theorem v160_36 (n d : Nat) (L : List (Option mL)) (S : List mV) (M : Mm) (Q : mQ) : vc (n + 1) d 160 36 L S M Q = (pI S fun x S => S = [] ∧ (0 = 0 ∨ x = 0 ∨ x = 1) ∧ Q (some (.inl x)) M) := nr rfl
set_option maxRecDepth 100000 in
theorem v160_37 (n d : Nat) (L : List (Option mL)) (S : List mV) (M : Mm) (Q : mQ) : vc (n + 1) d 160 37 L S M Q = (gR L 0 fun x => vc n d 160 38 L (.inr (.inr x) :: S) M Q) := nr rfl
set_option maxRecDepth 100000 in
theorem v160_38 (n d : Nat) (L : List (Option mL)) (S : List mV) (M : Mm) (Q : mQ) : vc (n + 1) d 160 38 L S M Q = (pA S fun a S => shO M a 10 (rrf M a 3 fun r => vc n d 160 41 L (.inr (.inr r) :: S) M Q)) := nr rfl
set_option maxRecDepth 100000 in
theorem v160_41 (n d : Nat) (L : List (Option mL)) (S : List mV) (M : Mm) (Q : mQ) : vc (n + 1) d 160 41 L S M Q = (vc n d 160 43 L (.inl 16 :: S) M Q) := nr rfl
set_option maxRecDepth 100000 in
theorem v160_43 (n d : Nat) (L : List (Option mL)) (S : List mV) (M : Mm) (Q : mQ) : vc (n + 1) d 160 43 L S M Q = (vc n d 160 45 L (.inl 16 :: S) M Q) := nr rfl
set_option maxRecDepth 100000 in
theorem v160_45 (n d : Nat) (L : List (Option mL)) (S : List mV) (M : Mm) (Q : mQ) : vc (n + 1) d 160 45 L S M Q = (gI L 1 fun x => vc n d 160 46 L (.inl x :: S) M Q) := nr rfl
set_option maxRecDepth 100000 in
theorem v160_46 (n d : Nat) (L : List (Option mL)) (S : List mV) (M : Mm) (Q : mQ) : vc (n + 1) d 160 46 L S M Q = (pI S fun y S => pI S fun x S => vc n d 160 47 L (.inl (x * y) :: S) M Q) := nr rfl
set_option maxRecDepth 100000 in
theorem v160_47 (n d : Nat) (L : List (Option mL)) (S : List mV) (M : Mm) (Q : mQ) : vc (n + 1) d 160 47 L S M Q = (gI L 2 fun x => vc n d 160 48 L (.inl x :: S) M Q) := nr rfl
set_option maxRecDepth 100000 in
theorem v160_48 (n d : Nat) (L : List (Option mL)) (S : List mV) (M : Mm) (Q : mQ) : vc (n + 1) d 160 48 L S M Q = (pI S fun y S => pI S fun x S => vc n d 160 49 L (.inl (x + y) :: S) M Q) := nr rfl
set_option maxRecDepth 100000 in
theorem v160_49 (n d : Nat) (L : List (Option mL)) (S : List mV) (M : Mm) (Q : mQ) : vc (n + 1) d 160 49 L S M Q = (pI S fun y S => pI S fun x S => vc n d 160 50 L (.inl (x * y) :: S) M Q) := nr rfl
set_option maxRecDepth 100000 in
theorem v160_50 (n d : Nat) (L : List (Option mL)) (S : List mV) (M : Mm) (Q : mQ) : vc (n + 1) d 160 50 L S M Q = (gI L 3 fun x => vc n d 160 51 L (.inl x :: S) M Q) := nr rfl
set_option maxRecDepth 100000 in
theorem v160_51 (n d : Nat) (L : List (Option mL)) (S : List mV) (M : Mm) (Q : mQ) : vc (n + 1) d 160 51 L S M Q = (pI S fun y S => pI S fun x S => vc n d 160 52 L (.inl (x + y) :: S) M Q) := nr rfl
set_option maxRecDepth 100000 in
theorem v160_52 (n d : Nat) (L : List (Option mL)) (S : List mV) (M : Mm) (Q : mQ) : vc (n + 1) d 160 52 L S M Q = (pI S fun i S => pA S fun a S => shA M a fun t k => (t = 42 ∨ t = 44) ∧ inB i k ∧ vc n d 160 53 L (.inl (M.it a i.toNatClampNeg) :: S) M Q) := nr rfl
set_option maxRecDepth 100000 in
theorem v160_53 (n d : Nat) (L : List (Option mL)) (S : List mV) (M : Mm) (Q : mQ) : vc (n + 1) d 160 53 L S M Q = (vc n d 160 56 L (.inl 255 :: S) M Q) := nr rfl
set_option maxRecDepth 100000 in
theorem v160_56 (n d : Nat) (L : List (Option mL)) (S : List mV) (M : Mm) (Q : mQ) : vc (n + 1) d 160 56 L S M Q = (pI S fun y S => pI S fun x S => vc n d 160 57 L (.inl (x &&& y) :: S) M Q) := nr rfl
set_option maxRecDepth 100000 in
theorem v160_57 (n d : Nat) (L : List (Option mL)) (S : List mV) (M : Mm) (Q : mQ) : vc (n + 1) d 160 57 L S M Q = (pI S fun x S => S = [] ∧ (0 = 0 ∨ x = 0 ∨ x = 1) ∧ Q (some (.inl x)) M) := nr rfl
set_option maxRecDepth 100000 in
theorem v161_0 (n d : Nat) (L : List (Option mL)) (S : List mV) (M : Mm) (Q : mQ) : vc (n + 1) d 161 0 L S M Q = (gR L 0 fun x => vc n d 161 1 L (.inr (.inr x) :: S) M Q) := nr rfl
set_option maxRecDepth 100000 in
theorem v161_1 (n d : Nat) (L : List (Option mL)) (S : List mV) (M : Mm) (Q : mQ) : vc (n + 1) d 161 1 L S M Q = (vc n d 161 2 L (.inl 0 :: S) M Q) := nr rfl
set_option maxRecDepth 100000 in
theorem v161_2 (n d : Nat) (L : List (Option mL)) (S : List mV) (M : Mm) (Q : mQ) : vc (n + 1) d 161 2 L S M Q = (pI S fun x S => pA S fun a S => shO M a 10 (vc n d 161 5 L S (M.si a 0 x) Q)) := nr rfl
set_option maxRecDepth 100000 in
theorem v161_5 (n d : Nat) (L : List (Option mL)) (S : List mV) (M : Mm) (Q : mQ) : vc (n + 1) d 161 5 L S M Q = (gI L 1 fun x => vc n d 161 6 L (.inl x :: S) M Q) := nr rfl
set_option maxRecDepth 100000 in
theorem v161_6 (n d : Nat) (L : List (Option mL)) (S : List mV) (M : Mm) (Q : mQ) : vc (n + 1) d 161 6 L S M Q = (pI S fun x S => (x = 0 → X d 161 14 L S M Q) ∧ (¬ (x = 0) → vc n d 161 9 L S M Q)) := nr rfl
set_option maxRecDepth 100000 in
theorem v161_9 (n d : Nat) (L : List (Option mL)) (S : List mV) (M : Mm) (Q : mQ) : vc (n + 1) d 161 9 L S M Q = (gI L 1 fun x => vc n d 161 10 L (.inl x :: S) M Q) := nr rfl
set_option maxRecDepth 100000 in
theorem v161_10 (n d : Nat) (L : List (Option mL)) (S : List mV) (M : Mm) (Q : mQ) : vc (n + 1) d 161 10 L S M Q = (vc n d 161 11 L (.inl 1 :: S) M Q) := nr rfl
set_option maxRecDepth 100000 in
theorem v161_11 (n d : Nat) (L : List (Option mL)) (S : List mV) (M : Mm) (Q : mQ) : vc (n + 1) d 161 11 L S M Q = (pI S fun y S => pI S fun x S => (¬ x = y → vc n d 161 37 L S M Q) ∧ (¬ (¬ x = y) → X d 161 14 L S M Q)) := nr rfl
set_option maxRecDepth 100000 in
theorem v161_14 (n d : Nat) (L : List (Option mL)) (S : List mV) (M : Mm) (Q : mQ) : vc (n + 1) d 161 14 L S M Q = (gR L 0 fun x => vc n d 161 15 L (.inr (.inr x) :: S) M Q) := nr rfl
set_option maxRecDepth 100000 in
theorem v161_15 (n d : Nat) (L : List (Option mL)) (S : List mV) (M : Mm) (Q : mQ) : vc (n + 1) d 161 15 L S M Q = (pA S fun a S => shO M a 10 (rrf M a 4 fun r => vc n d 161 18 L (.inr (.inr r) :: S) M Q)) := nr rfl
set_option maxRecDepth 100000 in
theorem v161_18 (n d : Nat) (L : List (Option mL)) (S : List mV) (M : Mm) (Q : mQ) : vc (n + 1) d 161 18 L S M Q = (vc n d 161 20 L (.inl 18 :: S) M Q) := nr rfl
set_option maxRecDepth 100000 in
theorem v161_20 (n d : Nat) (L : List (Option mL)) (S : List mV) (M : Mm) (Q : mQ) : vc (n + 1) d 161 20 L S M Q = (gI L 1 fun x => vc n d 161 21 L (.inl x :: S) M Q) := nr rfl
set_option maxRecDepth 100000 in
theorem v161_21 (n d : Nat) (L : List (Option mL)) (S : List mV) (M : Mm) (Q : mQ) : vc (n + 1) d 161 21 L S M Q = (pI S fun y S => pI S fun x S => vc n d 161 22 L (.inl (x * y) :: S) M Q) := nr rfl
set_option maxRecDepth 100000 in
theorem v161_22 (n d : Nat) (L : List (Option mL)) (S : List mV) (M : Mm) (Q : mQ) : vc (n + 1) d 161 22 L S M Q = (pI S fun i S => pA S fun a S => shA M a fun t k => (t = 40 ∨ t = 41) ∧ inB i k ∧ vc n d 161 23 L (.inl (M.it a i.toNatClampNeg) :: S) M Q) := nr rfl
set_option maxRecDepth 100000 in
theorem v161_23 (n d : Nat) (L : List (Option mL)) (S : List mV) (M : Mm) (Q : mQ) : vc (n + 1) d 161 23 L S M Q = (vc n d 161 24 L (.inl (-1) :: S) M Q) := nr rfl
set_option maxRecDepth 100000 in
theorem v161_24 (n d : Nat) (L : List (Option mL)) (S : List mV) (M : Mm) (Q : mQ) : vc (n + 1) d 161 24 L S M Q = (pI S fun y S => pI S fun x S => (x = y → vc n d 161 37 L S M Q) ∧ (¬ (x = y) → vc n d 161 27 L S M Q)) := nr rfl
set_option maxRecDepth 100000 in
theorem v161_27 (n d : Nat) (L : List (Option mL)) (S : List mV) (M : Mm) (Q : mQ) : vc (n + 1) d 161 27 L S M Q = (gI L 2 fun x => vc n d 161 28 L (.inl x :: S) M Q) := nr rfl
set_option maxRecDepth 100000 in
theorem v161_28 (n d : Nat) (L : List (Option mL)) (S : List mV) (M : Mm) (Q : mQ) : vc (n + 1) d 161 28 L S M Q = (pI S fun x S => (x < 0 → vc n d 161 37 L S M Q) ∧ (¬ (x < 0) → vc n d 161 31 L S M Q)) := nr rfl
set_option maxRecDepth 100000 in
theorem v161_31 (n d : Nat) (L : List (Option mL)) (S : List mV) (M : Mm) (Q : mQ) : vc (n + 1) d 161 31 L S M Q = (gI L 2 fun x => vc n d 161 32 L (.inl x :: S) M Q) := nr rfl
set_option maxRecDepth 100000 in
theorem v161_32 (n d : Nat) (L : List (Option mL)) (S : List mV) (M : Mm) (Q : mQ) : vc (n + 1) d 161 32 L S M Q = (vc n d 161 34 L (.inl 17 :: S) M Q) := nr rfl
set_option maxRecDepth 100000 in
theorem v161_34 (n d : Nat) (L : List (Option mL)) (S : List mV) (M : Mm) (Q : mQ) : vc (n + 1) d 161 34 L S M Q = (pI S fun y S => pI S fun x S => (x ≤ y → vc n d 161 39 L S M Q) ∧ (¬ (x ≤ y) → vc n d 161 37 L S M Q)) := nr rfl
set_option maxRecDepth 100000 in
theorem v161_37 (n d : Nat) (L : List (Option mL)) (S : List mV) (M : Mm) (Q : mQ) : vc (n + 1) d 161 37 L S M Q = (vc n d 161 38 L (.inl (-1) :: S) M Q) := nr rfl
set_option maxRecDepth 100000 in
theorem v161_38 (n d : Nat) (L : List (Option mL)) (S : List mV) (M : Mm) (Q : mQ) : vc (n + 1) d 161 38 L S M Q = (pI S fun x S => S = [] ∧ (0 = 0 ∨ x = 0 ∨ x = 1) ∧ Q (some (.inl x)) M) := nr rfl
set_option maxRecDepth 100000 in
theorem v161_39 (n d : Nat) (L : List (Option mL)) (S : List mV) (M : Mm) (Q : mQ) : vc (n + 1) d 161 39 L S M Q = (gI L 2 fun x => vc n d 161 40 L (.inl x :: S) M Q) := nr rfl
set_option maxRecDepth 100000 in
theorem v161_40 (n d : Nat) (L : List (Option mL)) (S : List mV) (M : Mm) (Q : mQ) : vc (n + 1) d 161 40 L S M Q = (vc n d 161 42 L (.inl 12 :: S) M Q) := nr rfl
set_option maxRecDepth 100000 in
theorem v161_42 (n d : Nat) (L : List (Option mL)) (S : List mV) (M : Mm) (Q : mQ) : vc (n + 1) d 161 42 L S M Q = (pI S fun y S => pI S fun x S => (x < y → vc n d 161 69 L S M Q) ∧ (¬ (x < y) → vc n d 161 45 L S M Q)) := nr rfl
set_option maxRecDepth 100000 in
theorem v161_45 (n d : Nat) (L : List (Option mL)) (S : List mV) (M : Mm) (Q : mQ) : vc (n + 1) d 161 45 L S M Q = (gI L 2 fun x => vc n d 161 46 L (.inl x :: S) M Q) := nr rfl
set_option maxRecDepth 100000 in
theorem v161_46 (n d : Nat) (L : List (Option mL)) (S : List mV) (M : Mm) (Q : mQ) : vc (n + 1) d 161 46 L S M Q = (vc n d 161 48 L (.inl 12 :: S) M Q) := nr rfl
set_option maxRecDepth 100000 in
theorem v161_48 (n d : Nat) (L : List (Option mL)) (S : List mV) (M : Mm) (Q : mQ) : vc (n + 1) d 161 48 L S M Q = (pI S fun y S => pI S fun x S => vc n d 161 49 L (.inl (x - y) :: S) M Q) := nr rfl
set_option maxRecDepth 100000 in
theorem v161_49 (n d : Nat) (L : List (Option mL)) (S : List mV) (M : Mm) (Q : mQ) : vc (n + 1) d 161 49 L S M Q = (vc n d 161 50 L (.inl 2 :: S) M Q) := nr rfl
set_option maxRecDepth 100000 in
theorem v161_50 (n d : Nat) (L : List (Option mL)) (S : List mV) (M : Mm) (Q : mQ) : vc (n + 1) d 161 50 L S M Q = (pI S fun y S => pI S fun x S => ¬ y = 0 ∧ vc n d 161 51 L (.inl (x / y) :: S) M Q) := nr rfl
set_option maxRecDepth 100000 in
theorem v161_51 (n d : Nat) (L : List (Option mL)) (S : List mV) (M : Mm) (Q : mQ) : vc (n + 1) d 161 51 L S M Q = (gR L 0 fun x => vc n d 161 52 L (.inr (.inr x) :: S) M Q) := nr rfl
set_option maxRecDepth 100000 in
theorem v161_52 (n d : Nat) (L : List (Option mL)) (S : List mV) (M : Mm) (Q : mQ) : vc (n + 1) d 161 52 L S M Q = (pA S fun a S => shO M a 10 (rrf M a 4 fun r => vc n d 161 55 L (.inr (.inr r) :: S) M Q)) := nr rfl
set_option maxRecDepth 100000 in
theorem v161_55 (n d : Nat) (L : List (Option mL)) (S : List mV) (M : Mm) (Q : mQ) : vc (n + 1) d 161 55 L S M Q = (vc n d 161 57 L (.inl 18 :: S) M Q) := nr rfl
set_option maxRecDepth 100000 in
theorem v161_57 (n d : Nat) (L : List (Option mL)) (S : List mV) (M : Mm) (Q : mQ) : vc (n + 1) d 161 57 L S M Q = (gI L 1 fun x => vc n d 161 58 L (.inl x :: S) M Q) := nr rfl
set_option maxRecDepth 100000 in
theorem v161_58 (n d : Nat) (L : List (Option mL)) (S : List mV) (M : Mm) (Q : mQ) : vc (n + 1) d 161 58 L S M Q = (pI S fun y S => pI S fun x S => vc n d 161 59 L (.inl (x * y) :: S) M Q) := nr rfl
set_option maxRecDepth 100000 in
theorem v161_59 (n d : Nat) (L : List (Option mL)) (S : List mV) (M : Mm) (Q : mQ) : vc (n + 1) d 161 59 L S M Q = (vc n d 161 60 L (.inl 3 :: S) M Q) := nr rfl
set_option maxRecDepth 100000 in
theorem v161_60 (n d : Nat) (L : List (Option mL)) (S : List mV) (M : Mm) (Q : mQ) : vc (n + 1) d 161 60 L S M Q = (pI S fun y S => pI S fun x S => vc n d 161 61 L (.inl (x + y) :: S) M Q) := nr rfl
set_option maxRecDepth 100000 in
theorem v161_61 (n d : Nat) (L : List (Option mL)) (S : List mV) (M : Mm) (Q : mQ) : vc (n + 1) d 161 61 L S M Q = (pI S fun i S => pA S fun a S => shA M a fun t k => (t = 40 ∨ t = 41) ∧ inB i k ∧ vc n d 161 62 L (.inl (M.it a i.toNatClampNeg) :: S) M Q) := nr rfl
set_option maxRecDepth 100000 in
theorem v161_62 (n d : Nat) (L : List (Option mL)) (S : List mV) (M : Mm) (Q : mQ) : vc (n + 1) d 161 62 L S M Q = (pI S fun y S => pI S fun x S => (x < y → vc n d 161 69 L S M Q) ∧ (¬ (x < y) → vc n d 161 65 L S M Q)) := nr rfl
set_option maxRecDepth 100000 in
theorem v161_65 (n d : Nat) (L : List (Option mL)) (S : List mV) (M : Mm) (Q : mQ) : vc (n + 1) d 161 65 L S M Q = (vc n d 161 66 L (.inl (-1) :: S) M Q) := nr rfl
set_option maxRecDepth 100000 in
theorem v161_66 (n d : Nat) (L : List (Option mL)) (S : List mV) (M : Mm) (Q : mQ) : vc (n + 1) d 161 66 L S M Q = (vc n d 161 80 L S M Q) := nr rfl
set_option maxRecDepth 100000 in
theorem v161_69 (n d : Nat) (L : List (Option mL)) (S : List mV) (M : Mm) (Q : mQ) : vc (n + 1) d 161 69 L S M Q = (gR L 0 fun x => vc n d 161 70 L (.inr (.inr x) :: S) M Q) := nr rfl
set_option maxRecDepth 100000 in
theorem v161_70 (n d : Nat) (L : List (Option mL)) (S : List mV) (M : Mm) (Q : mQ) : vc (n + 1) d 161 70 L S M Q = (pA S fun a S => shO M a 10 (rrf M a 4 fun r => vc n d 161 73 L (.inr (.inr r) :: S) M Q)) := nr rfl
set_option maxRecDepth 100000 in
theorem v161_73 (n d : Nat) (L : List (Option mL)) (S : List mV) (M : Mm) (Q : mQ) : vc (n + 1) d 161 73 L S M Q = (vc n d 161 75 L (.inl 18 :: S) M Q) := nr rfl
set_option maxRecDepth 100000 in
theorem v161_75 (n d : Nat) (L : List (Option mL)) (S : List mV) (M : Mm) (Q : mQ) : vc (n + 1) d 161 75 L S M Q = (gI L 1 fun x => vc n d 161 76 L (.inl x :: S) M Q) := nr rfl
set_option maxRecDepth 100000 in
theorem v161_76 (n d : Nat) (L : List (Option mL)) (S : List mV) (M : Mm) (Q : mQ) : vc (n + 1) d 161 76 L S M Q = (pI S fun y S => pI S fun x S => vc n d 161 77 L (.inl (x * y) :: S) M Q) := nr rfl
set_option maxRecDepth 100000 in
theorem v161_77 (n d : Nat) (L : List (Option mL)) (S : List mV) (M : Mm) (Q : mQ) : vc (n + 1) d 161 77 L S M Q = (gI L 2 fun x => vc n d 161 78 L (.inl x :: S) M Q) := nr rfl
set_option maxRecDepth 100000 in
theorem v161_78 (n d : Nat) (L : List (Option mL)) (S : List mV) (M : Mm) (Q : mQ) : vc (n + 1) d 161 78 L S M Q = (pI S fun y S => pI S fun x S => vc n d 161 79 L (.inl (x + y) :: S) M Q) := nr rfl
set_option maxRecDepth 100000 in
theorem v161_79 (n d : Nat) (L : List (Option mL)) (S : List mV) (M : Mm) (Q : mQ) : vc (n + 1) d 161 79 L S M Q = (pI S fun i S => pA S fun a S => shA M a fun t k => (t = 40 ∨ t = 41) ∧ inB i k ∧ vc n d 161 80 L (.inl (M.it a i.toNatClampNeg) :: S) M Q) := nr rfl
set_option maxRecDepth 100000 in
theorem v161_80 (n d : Nat) (L : List (Option mL)) (S : List mV) (M : Mm) (Q : mQ) : vc (n + 1) d 161 80 L S M Q = (pI S fun x S => S = [] ∧ (0 = 0 ∨ x = 0 ∨ x = 1) ∧ Q (some (.inl x)) M) := nr rfl
