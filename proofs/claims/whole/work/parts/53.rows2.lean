/-! what each instruction leaves to show, printed by gen_rows.py -/
set_option maxRecDepth 100000 in
theorem v32_0 (n d : Nat) (L : List (Option mL)) (S : List mV) (M : Mm) (Q : mQ) : vc (n + 1) d 32 0 L S M Q = (gR L 0 fun x => vc n d 32 1 L (.inr (.inr x) :: S) M Q) := nr rfl
set_option maxRecDepth 100000 in
theorem v32_1 (n d : Nat) (L : List (Option mL)) (S : List mV) (M : Mm) (Q : mQ) : vc (n + 1) d 32 1 L S M Q = (vc n d 32 2 L (.inl 0 :: S) M Q) := nr rfl
set_option maxRecDepth 100000 in
theorem v32_2 (n d : Nat) (L : List (Option mL)) (S : List mV) (M : Mm) (Q : mQ) : vc (n + 1) d 32 2 L S M Q = (pI S fun x S => pA S fun a S => shO M a 1 (vc n d 32 5 L S (M.si a 1 x) Q)) := nr rfl
set_option maxRecDepth 100000 in
theorem v32_5 (n d : Nat) (L : List (Option mL)) (S : List mV) (M : Mm) (Q : mQ) : vc (n + 1) d 32 5 L S M Q = (S = [] ∧ Q none M) := nr rfl
set_option maxRecDepth 100000 in
theorem v33_0 (n d : Nat) (L : List (Option mL)) (S : List mV) (M : Mm) (Q : mQ) : vc (n + 1) d 33 0 L S M Q = (gR L 0 fun x => vc n d 33 1 L (.inr (.inr x) :: S) M Q) := nr rfl
set_option maxRecDepth 100000 in
theorem v33_1 (n d : Nat) (L : List (Option mL)) (S : List mV) (M : Mm) (Q : mQ) : vc (n + 1) d 33 1 L S M Q = (pA S fun a S => shO M a 1 (vc n d 33 4 L (.inl (M.it a 1) :: S) M Q)) := nr rfl
set_option maxRecDepth 100000 in
theorem v33_4 (n d : Nat) (L : List (Option mL)) (S : List mV) (M : Mm) (Q : mQ) : vc (n + 1) d 33 4 L S M Q = (gR L 0 fun x => vc n d 33 5 L (.inr (.inr x) :: S) M Q) := nr rfl
set_option maxRecDepth 100000 in
theorem v33_5 (n d : Nat) (L : List (Option mL)) (S : List mV) (M : Mm) (Q : mQ) : vc (n + 1) d 33 5 L S M Q = (pA S fun a S => shO M a 1 (rrf M a 0 fun r => vc n d 33 8 L (.inr (.inr r) :: S) M Q)) := nr rfl
set_option maxRecDepth 100000 in
theorem v33_8 (n d : Nat) (L : List (Option mL)) (S : List mV) (M : Mm) (Q : mQ) : vc (n + 1) d 33 8 L S M Q = (pA S fun a S => shA M a fun t k => aTyB t = true ∧ vc n d 33 9 L (.inl (nI k) :: S) M Q) := nr rfl
set_option maxRecDepth 100000 in
theorem v33_9 (n d : Nat) (L : List (Option mL)) (S : List mV) (M : Mm) (Q : mQ) : vc (n + 1) d 33 9 L S M Q = (pI S fun y S => pI S fun x S => (y ≤ x → vc n d 33 36 L S M Q) ∧ (¬ (y ≤ x) → vc n d 33 12 L S M Q)) := nr rfl
set_option maxRecDepth 100000 in
theorem v33_12 (n d : Nat) (L : List (Option mL)) (S : List mV) (M : Mm) (Q : mQ) : vc (n + 1) d 33 12 L S M Q = (gR L 0 fun x => vc n d 33 13 L (.inr (.inr x) :: S) M Q) := nr rfl
set_option maxRecDepth 100000 in
theorem v33_13 (n d : Nat) (L : List (Option mL)) (S : List mV) (M : Mm) (Q : mQ) : vc (n + 1) d 33 13 L S M Q = (pA S fun a S => shO M a 1 (rrf M a 0 fun r => vc n d 33 16 L (.inr (.inr r) :: S) M Q)) := nr rfl
set_option maxRecDepth 100000 in
theorem v33_16 (n d : Nat) (L : List (Option mL)) (S : List mV) (M : Mm) (Q : mQ) : vc (n + 1) d 33 16 L S M Q = (gR L 0 fun x => vc n d 33 17 L (.inr (.inr x) :: S) M Q) := nr rfl
set_option maxRecDepth 100000 in
theorem v33_17 (n d : Nat) (L : List (Option mL)) (S : List mV) (M : Mm) (Q : mQ) : vc (n + 1) d 33 17 L S M Q = (pA S fun a S => shO M a 1 (vc n d 33 20 L (.inl (M.it a 1) :: S) M Q)) := nr rfl
set_option maxRecDepth 100000 in
theorem v33_20 (n d : Nat) (L : List (Option mL)) (S : List mV) (M : Mm) (Q : mQ) : vc (n + 1) d 33 20 L S M Q = (gI L 1 fun x => vc n d 33 21 L (.inl x :: S) M Q) := nr rfl
set_option maxRecDepth 100000 in
theorem v33_21 (n d : Nat) (L : List (Option mL)) (S : List mV) (M : Mm) (Q : mQ) : vc (n + 1) d 33 21 L S M Q = (vc n d 33 24 L (.inl 255 :: S) M Q) := nr rfl
set_option maxRecDepth 100000 in
theorem v33_24 (n d : Nat) (L : List (Option mL)) (S : List mV) (M : Mm) (Q : mQ) : vc (n + 1) d 33 24 L S M Q = (pI S fun y S => pI S fun x S => vc n d 33 25 L (.inl (x &&& y) :: S) M Q) := nr rfl
set_option maxRecDepth 100000 in
theorem v33_25 (n d : Nat) (L : List (Option mL)) (S : List mV) (M : Mm) (Q : mQ) : vc (n + 1) d 33 25 L S M Q = (pI S fun x S => pI S fun i S => pA S fun a S => shA M a fun t k => t = 41 ∧ inB i k ∧ vc n d 33 26 L S (M.si a i.toNatClampNeg x) Q) := nr rfl
set_option maxRecDepth 100000 in
theorem v33_26 (n d : Nat) (L : List (Option mL)) (S : List mV) (M : Mm) (Q : mQ) : vc (n + 1) d 33 26 L S M Q = (gR L 0 fun x => vc n d 33 27 L (.inr (.inr x) :: S) M Q) := nr rfl
set_option maxRecDepth 100000 in
theorem v33_27 (n d : Nat) (L : List (Option mL)) (S : List mV) (M : Mm) (Q : mQ) : vc (n + 1) d 33 27 L S M Q = (pC S fun v S => vc n d 33 28 L (v :: v :: S) M Q) := nr rfl
set_option maxRecDepth 100000 in
theorem v33_28 (n d : Nat) (L : List (Option mL)) (S : List mV) (M : Mm) (Q : mQ) : vc (n + 1) d 33 28 L S M Q = (pA S fun a S => shO M a 1 (vc n d 33 31 L (.inl (M.it a 1) :: S) M Q)) := nr rfl
set_option maxRecDepth 100000 in
theorem v33_31 (n d : Nat) (L : List (Option mL)) (S : List mV) (M : Mm) (Q : mQ) : vc (n + 1) d 33 31 L S M Q = (vc n d 33 32 L (.inl 1 :: S) M Q) := nr rfl
set_option maxRecDepth 100000 in
theorem v33_32 (n d : Nat) (L : List (Option mL)) (S : List mV) (M : Mm) (Q : mQ) : vc (n + 1) d 33 32 L S M Q = (pI S fun y S => pI S fun x S => vc n d 33 33 L (.inl (x + y) :: S) M Q) := nr rfl
set_option maxRecDepth 100000 in
theorem v33_33 (n d : Nat) (L : List (Option mL)) (S : List mV) (M : Mm) (Q : mQ) : vc (n + 1) d 33 33 L S M Q = (pI S fun x S => pA S fun a S => shO M a 1 (vc n d 33 36 L S (M.si a 1 x) Q)) := nr rfl
set_option maxRecDepth 100000 in
theorem v33_36 (n d : Nat) (L : List (Option mL)) (S : List mV) (M : Mm) (Q : mQ) : vc (n + 1) d 33 36 L S M Q = (S = [] ∧ Q none M) := nr rfl
set_option maxRecDepth 100000 in
theorem v34_0 (n d : Nat) (L : List (Option mL)) (S : List mV) (M : Mm) (Q : mQ) : vc (n + 1) d 34 0 L S M Q = (gR L 0 fun x => vc n d 34 1 L (.inr (.inr x) :: S) M Q) := nr rfl
set_option maxRecDepth 100000 in
theorem v34_1 (n d : Nat) (L : List (Option mL)) (S : List mV) (M : Mm) (Q : mQ) : vc (n + 1) d 34 1 L S M Q = (pA S fun a S => shO M a 5 (vc n d 34 4 L (.inl (M.it a 2) :: S) M Q)) := nr rfl
set_option maxRecDepth 100000 in
theorem v34_4 (n d : Nat) (L : List (Option mL)) (S : List mV) (M : Mm) (Q : mQ) : vc (n + 1) d 34 4 L S M Q = (vc n d 34 5 L (.inl 3 :: S) M Q) := nr rfl
set_option maxRecDepth 100000 in
theorem v34_5 (n d : Nat) (L : List (Option mL)) (S : List mV) (M : Mm) (Q : mQ) : vc (n + 1) d 34 5 L S M Q = (pI S fun y S => pI S fun x S => (y ≤ x → vc n d 34 44 L S M Q) ∧ (¬ (y ≤ x) → vc n d 34 8 L S M Q)) := nr rfl
set_option maxRecDepth 100000 in
theorem v34_8 (n d : Nat) (L : List (Option mL)) (S : List mV) (M : Mm) (Q : mQ) : vc (n + 1) d 34 8 L S M Q = (gR L 0 fun x => vc n d 34 9 L (.inr (.inr x) :: S) M Q) := nr rfl
set_option maxRecDepth 100000 in
theorem v34_9 (n d : Nat) (L : List (Option mL)) (S : List mV) (M : Mm) (Q : mQ) : vc (n + 1) d 34 9 L S M Q = (pA S fun a S => shO M a 5 (rrf M a 1 fun r => vc n d 34 12 L (.inr (.inr r) :: S) M Q)) := nr rfl
set_option maxRecDepth 100000 in
theorem v34_12 (n d : Nat) (L : List (Option mL)) (S : List mV) (M : Mm) (Q : mQ) : vc (n + 1) d 34 12 L S M Q = (gR L 0 fun x => vc n d 34 13 L (.inr (.inr x) :: S) M Q) := nr rfl
set_option maxRecDepth 100000 in
theorem v34_13 (n d : Nat) (L : List (Option mL)) (S : List mV) (M : Mm) (Q : mQ) : vc (n + 1) d 34 13 L S M Q = (pA S fun a S => shO M a 5 (vc n d 34 16 L (.inl (M.it a 2) :: S) M Q)) := nr rfl
set_option maxRecDepth 100000 in
theorem v34_16 (n d : Nat) (L : List (Option mL)) (S : List mV) (M : Mm) (Q : mQ) : vc (n + 1) d 34 16 L S M Q = (pI S fun i S => pA S fun a S => shA M a fun t k => rTyB t = true ∧ inB i k ∧ rrf M a i.toNatClampNeg fun r => vc n d 34 17 L (.inr (.inr r) :: S) M Q) := nr rfl
set_option maxRecDepth 100000 in
theorem v34_17 (n d : Nat) (L : List (Option mL)) (S : List mV) (M : Mm) (Q : mQ) : vc (n + 1) d 34 17 L S M Q = (gR L 1 fun x => vc n d 34 18 L (.inr (.inr x) :: S) M Q) := nr rfl
set_option maxRecDepth 100000 in
theorem v34_18 (n d : Nat) (L : List (Option mL)) (S : List mV) (M : Mm) (Q : mQ) : vc (n + 1) d 34 18 L S M Q = (pAs 1 S fun as S => pA S fun a S => shO M a 4 (stk S ≤ 8 ∧ XC d 35 (.inr (some a) :: as) M (fun r M => r = none ∧ X d 34 21 L S M Q))) := nr rfl
set_option maxRecDepth 100000 in
theorem v34_21 (n d : Nat) (L : List (Option mL)) (S : List mV) (M : Mm) (Q : mQ) : vc (n + 1) d 34 21 L S M Q = (gR L 0 fun x => vc n d 34 22 L (.inr (.inr x) :: S) M Q) := nr rfl
set_option maxRecDepth 100000 in
theorem v34_22 (n d : Nat) (L : List (Option mL)) (S : List mV) (M : Mm) (Q : mQ) : vc (n + 1) d 34 22 L S M Q = (pA S fun a S => shO M a 5 (rrf M a 1 fun r => vc n d 34 25 L (.inr (.inr r) :: S) M Q)) := nr rfl
set_option maxRecDepth 100000 in
theorem v34_25 (n d : Nat) (L : List (Option mL)) (S : List mV) (M : Mm) (Q : mQ) : vc (n + 1) d 34 25 L S M Q = (gR L 0 fun x => vc n d 34 26 L (.inr (.inr x) :: S) M Q) := nr rfl
set_option maxRecDepth 100000 in
theorem v34_26 (n d : Nat) (L : List (Option mL)) (S : List mV) (M : Mm) (Q : mQ) : vc (n + 1) d 34 26 L S M Q = (pA S fun a S => shO M a 5 (vc n d 34 29 L (.inl (M.it a 2) :: S) M Q)) := nr rfl
set_option maxRecDepth 100000 in
theorem v34_29 (n d : Nat) (L : List (Option mL)) (S : List mV) (M : Mm) (Q : mQ) : vc (n + 1) d 34 29 L S M Q = (pI S fun i S => pA S fun a S => shA M a fun t k => rTyB t = true ∧ inB i k ∧ rrf M a i.toNatClampNeg fun r => vc n d 34 30 L (.inr (.inr r) :: S) M Q) := nr rfl
set_option maxRecDepth 100000 in
theorem v34_30 (n d : Nat) (L : List (Option mL)) (S : List mV) (M : Mm) (Q : mQ) : vc (n + 1) d 34 30 L S M Q = (gI L 2 fun x => vc n d 34 31 L (.inl x :: S) M Q) := nr rfl
set_option maxRecDepth 100000 in
theorem v34_31 (n d : Nat) (L : List (Option mL)) (S : List mV) (M : Mm) (Q : mQ) : vc (n + 1) d 34 31 L S M Q = (pI S fun x S => pA S fun a S => shO M a 4 (vc n d 34 34 L S (M.si a 2 x) Q)) := nr rfl
set_option maxRecDepth 100000 in
theorem v34_34 (n d : Nat) (L : List (Option mL)) (S : List mV) (M : Mm) (Q : mQ) : vc (n + 1) d 34 34 L S M Q = (gR L 0 fun x => vc n d 34 35 L (.inr (.inr x) :: S) M Q) := nr rfl
set_option maxRecDepth 100000 in
theorem v34_35 (n d : Nat) (L : List (Option mL)) (S : List mV) (M : Mm) (Q : mQ) : vc (n + 1) d 34 35 L S M Q = (pC S fun v S => vc n d 34 36 L (v :: v :: S) M Q) := nr rfl
set_option maxRecDepth 100000 in
theorem v34_36 (n d : Nat) (L : List (Option mL)) (S : List mV) (M : Mm) (Q : mQ) : vc (n + 1) d 34 36 L S M Q = (pA S fun a S => shO M a 5 (vc n d 34 39 L (.inl (M.it a 2) :: S) M Q)) := nr rfl
set_option maxRecDepth 100000 in
theorem v34_39 (n d : Nat) (L : List (Option mL)) (S : List mV) (M : Mm) (Q : mQ) : vc (n + 1) d 34 39 L S M Q = (vc n d 34 40 L (.inl 1 :: S) M Q) := nr rfl
set_option maxRecDepth 100000 in
theorem v34_40 (n d : Nat) (L : List (Option mL)) (S : List mV) (M : Mm) (Q : mQ) : vc (n + 1) d 34 40 L S M Q = (pI S fun y S => pI S fun x S => vc n d 34 41 L (.inl (x + y) :: S) M Q) := nr rfl
set_option maxRecDepth 100000 in
theorem v34_41 (n d : Nat) (L : List (Option mL)) (S : List mV) (M : Mm) (Q : mQ) : vc (n + 1) d 34 41 L S M Q = (pI S fun x S => pA S fun a S => shO M a 5 (vc n d 34 44 L S (M.si a 2 x) Q)) := nr rfl
set_option maxRecDepth 100000 in
theorem v34_44 (n d : Nat) (L : List (Option mL)) (S : List mV) (M : Mm) (Q : mQ) : vc (n + 1) d 34 44 L S M Q = (S = [] ∧ Q none M) := nr rfl
set_option maxRecDepth 100000 in
theorem v35_0 (n d : Nat) (L : List (Option mL)) (S : List mV) (M : Mm) (Q : mQ) : vc (n + 1) d 35 0 L S M Q = (gR L 0 fun x => vc n d 35 1 L (.inr (.inr x) :: S) M Q) := nr rfl
set_option maxRecDepth 100000 in
theorem v35_1 (n d : Nat) (L : List (Option mL)) (S : List mV) (M : Mm) (Q : mQ) : vc (n + 1) d 35 1 L S M Q = (pAs 0 S fun as S => pA S fun a S => shO M a 4 (stk S ≤ 8 ∧ XC d 11 (.inr (some a) :: as) M (fun r M => r = none ∧ X d 35 4 L S M Q))) := nr rfl
set_option maxRecDepth 100000 in
theorem v35_4 (n d : Nat) (L : List (Option mL)) (S : List mV) (M : Mm) (Q : mQ) : vc (n + 1) d 35 4 L S M Q = (gR L 1 fun x => vc n d 35 5 L (.inr (.inr x) :: S) M Q) := nr rfl
set_option maxRecDepth 100000 in
theorem v35_5 (n d : Nat) (L : List (Option mL)) (S : List mV) (M : Mm) (Q : mQ) : vc (n + 1) d 35 5 L S M Q = (vc n d 35 6 L (.inl 0 :: S) M Q) := nr rfl
set_option maxRecDepth 100000 in
theorem v35_6 (n d : Nat) (L : List (Option mL)) (S : List mV) (M : Mm) (Q : mQ) : vc (n + 1) d 35 6 L S M Q = (pAs 1 S fun as S => pA S fun a S => shO M a 1 (stk S ≤ 8 ∧ XC d 36 (.inr (some a) :: as) M (fun r M => ∃ x : Int32, r = some (.inl x) ∧ X d 35 9 L (.inl x :: S) M Q))) := nr rfl
set_option maxRecDepth 100000 in
theorem v35_9 (n d : Nat) (L : List (Option mL)) (S : List mV) (M : Mm) (Q : mQ) : vc (n + 1) d 35 9 L S M Q = (vc n d 35 11 L (.inl 48 :: S) M Q) := nr rfl
set_option maxRecDepth 100000 in
theorem v35_11 (n d : Nat) (L : List (Option mL)) (S : List mV) (M : Mm) (Q : mQ) : vc (n + 1) d 35 11 L S M Q = (pI S fun y S => pI S fun x S => 0 < d ∧ stk S ≤ 8 ∧ vc n d 35 14 L (.inl (imin x y) :: S) M Q) := nr rfl
set_option maxRecDepth 100000 in
theorem v35_14 (n d : Nat) (L : List (Option mL)) (S : List mV) (M : Mm) (Q : mQ) : vc (n + 1) d 35 14 L S M Q = (pI S fun x S => sL L 2 (some (.inl x)) fun L => vc n d 35 15 L S M Q) := nr rfl
set_option maxRecDepth 100000 in
theorem v35_15 (n d : Nat) (L : List (Option mL)) (S : List mV) (M : Mm) (Q : mQ) : vc (n + 1) d 35 15 L S M Q = (vc n d 35 16 L (.inl 0 :: S) M Q) := nr rfl
set_option maxRecDepth 100000 in
theorem v35_16 (n d : Nat) (L : List (Option mL)) (S : List mV) (M : Mm) (Q : mQ) : vc (n + 1) d 35 16 L S M Q = (pI S fun x S => sL L 3 (some (.inl x)) fun L => X d 35 17 L S M Q) := nr rfl
set_option maxRecDepth 100000 in
theorem v35_17 (n d : Nat) (L : List (Option mL)) (S : List mV) (M : Mm) (Q : mQ) : vc (n + 1) d 35 17 L S M Q = (gI L 3 fun x => vc n d 35 18 L (.inl x :: S) M Q) := nr rfl
set_option maxRecDepth 100000 in
theorem v35_18 (n d : Nat) (L : List (Option mL)) (S : List mV) (M : Mm) (Q : mQ) : vc (n + 1) d 35 18 L S M Q = (gI L 2 fun x => vc n d 35 19 L (.inl x :: S) M Q) := nr rfl
set_option maxRecDepth 100000 in
theorem v35_19 (n d : Nat) (L : List (Option mL)) (S : List mV) (M : Mm) (Q : mQ) : vc (n + 1) d 35 19 L S M Q = (pI S fun y S => pI S fun x S => (y ≤ x → vc n d 35 117 L S M Q) ∧ (¬ (y ≤ x) → vc n d 35 22 L S M Q)) := nr rfl
set_option maxRecDepth 100000 in
theorem v35_22 (n d : Nat) (L : List (Option mL)) (S : List mV) (M : Mm) (Q : mQ) : vc (n + 1) d 35 22 L S M Q = (gR L 1 fun x => vc n d 35 23 L (.inr (.inr x) :: S) M Q) := nr rfl
set_option maxRecDepth 100000 in
theorem v35_23 (n d : Nat) (L : List (Option mL)) (S : List mV) (M : Mm) (Q : mQ) : vc (n + 1) d 35 23 L S M Q = (vc n d 35 24 L (.inl 2 :: S) M Q) := nr rfl
set_option maxRecDepth 100000 in
theorem v35_24 (n d : Nat) (L : List (Option mL)) (S : List mV) (M : Mm) (Q : mQ) : vc (n + 1) d 35 24 L S M Q = (vc n d 35 25 L (.inl 3 :: S) M Q) := nr rfl
set_option maxRecDepth 100000 in
theorem v35_25 (n d : Nat) (L : List (Option mL)) (S : List mV) (M : Mm) (Q : mQ) : vc (n + 1) d 35 25 L S M Q = (gI L 3 fun x => vc n d 35 26 L (.inl x :: S) M Q) := nr rfl
set_option maxRecDepth 100000 in
theorem v35_26 (n d : Nat) (L : List (Option mL)) (S : List mV) (M : Mm) (Q : mQ) : vc (n + 1) d 35 26 L S M Q = (pI S fun y S => pI S fun x S => vc n d 35 27 L (.inl (x * y) :: S) M Q) := nr rfl
set_option maxRecDepth 100000 in
theorem v35_27 (n d : Nat) (L : List (Option mL)) (S : List mV) (M : Mm) (Q : mQ) : vc (n + 1) d 35 27 L S M Q = (pI S fun y S => pI S fun x S => vc n d 35 28 L (.inl (x + y) :: S) M Q) := nr rfl
set_option maxRecDepth 100000 in
theorem v35_28 (n d : Nat) (L : List (Option mL)) (S : List mV) (M : Mm) (Q : mQ) : vc (n + 1) d 35 28 L S M Q = (pAs 1 S fun as S => pA S fun a S => shO M a 1 (stk S ≤ 8 ∧ XC d 36 (.inr (some a) :: as) M (fun r M => ∃ x : Int32, r = some (.inl x) ∧ X d 35 31 L (.inl x :: S) M Q))) := nr rfl
set_option maxRecDepth 100000 in
theorem v35_31 (n d : Nat) (L : List (Option mL)) (S : List mV) (M : Mm) (Q : mQ) : vc (n + 1) d 35 31 L S M Q = (pI S fun x S => sL L 4 (some (.inl x)) fun L => vc n d 35 33 L S M Q) := nr rfl
set_option maxRecDepth 100000 in
theorem v35_33 (n d : Nat) (L : List (Option mL)) (S : List mV) (M : Mm) (Q : mQ) : vc (n + 1) d 35 33 L S M Q = (gR L 1 fun x => vc n d 35 34 L (.inr (.inr x) :: S) M Q) := nr rfl
set_option maxRecDepth 100000 in
theorem v35_34 (n d : Nat) (L : List (Option mL)) (S : List mV) (M : Mm) (Q : mQ) : vc (n + 1) d 35 34 L S M Q = (vc n d 35 35 L (.inl 3 :: S) M Q) := nr rfl
set_option maxRecDepth 100000 in
theorem v35_35 (n d : Nat) (L : List (Option mL)) (S : List mV) (M : Mm) (Q : mQ) : vc (n + 1) d 35 35 L S M Q = (vc n d 35 36 L (.inl 3 :: S) M Q) := nr rfl
set_option maxRecDepth 100000 in
theorem v35_36 (n d : Nat) (L : List (Option mL)) (S : List mV) (M : Mm) (Q : mQ) : vc (n + 1) d 35 36 L S M Q = (gI L 3 fun x => vc n d 35 37 L (.inl x :: S) M Q) := nr rfl
set_option maxRecDepth 100000 in
theorem v35_37 (n d : Nat) (L : List (Option mL)) (S : List mV) (M : Mm) (Q : mQ) : vc (n + 1) d 35 37 L S M Q = (pI S fun y S => pI S fun x S => vc n d 35 38 L (.inl (x * y) :: S) M Q) := nr rfl
set_option maxRecDepth 100000 in
theorem v35_38 (n d : Nat) (L : List (Option mL)) (S : List mV) (M : Mm) (Q : mQ) : vc (n + 1) d 35 38 L S M Q = (pI S fun y S => pI S fun x S => vc n d 35 39 L (.inl (x + y) :: S) M Q) := nr rfl
set_option maxRecDepth 100000 in
theorem v35_39 (n d : Nat) (L : List (Option mL)) (S : List mV) (M : Mm) (Q : mQ) : vc (n + 1) d 35 39 L S M Q = (pAs 1 S fun as S => pA S fun a S => shO M a 1 (stk S ≤ 8 ∧ XC d 36 (.inr (some a) :: as) M (fun r M => ∃ x : Int32, r = some (.inl x) ∧ X d 35 42 L (.inl x :: S) M Q))) := nr rfl
set_option maxRecDepth 100000 in
theorem v35_42 (n d : Nat) (L : List (Option mL)) (S : List mV) (M : Mm) (Q : mQ) : vc (n + 1) d 35 42 L S M Q = (pI S fun x S => sL L 5 (some (.inl x)) fun L => vc n d 35 44 L S M Q) := nr rfl
set_option maxRecDepth 100000 in
theorem v35_44 (n d : Nat) (L : List (Option mL)) (S : List mV) (M : Mm) (Q : mQ) : vc (n + 1) d 35 44 L S M Q = (gI L 4 fun x => vc n d 35 46 L (.inl x :: S) M Q) := nr rfl
set_option maxRecDepth 100000 in
theorem v35_46 (n d : Nat) (L : List (Option mL)) (S : List mV) (M : Mm) (Q : mQ) : vc (n + 1) d 35 46 L S M Q = (vc n d 35 49 L (.inl 255 :: S) M Q) := nr rfl
set_option maxRecDepth 100000 in
theorem v35_49 (n d : Nat) (L : List (Option mL)) (S : List mV) (M : Mm) (Q : mQ) : vc (n + 1) d 35 49 L S M Q = (pI S fun y S => pI S fun x S => (¬ x = y → vc n d 35 70 L S M Q) ∧ (¬ (¬ x = y) → vc n d 35 52 L S M Q)) := nr rfl
set_option maxRecDepth 100000 in
theorem v35_52 (n d : Nat) (L : List (Option mL)) (S : List mV) (M : Mm) (Q : mQ) : vc (n + 1) d 35 52 L S M Q = (gR L 0 fun x => vc n d 35 53 L (.inr (.inr x) :: S) M Q) := nr rfl
set_option maxRecDepth 100000 in
theorem v35_53 (n d : Nat) (L : List (Option mL)) (S : List mV) (M : Mm) (Q : mQ) : vc (n + 1) d 35 53 L S M Q = (gR L 1 fun x => vc n d 35 54 L (.inr (.inr x) :: S) M Q) := nr rfl
set_option maxRecDepth 100000 in
theorem v35_54 (n d : Nat) (L : List (Option mL)) (S : List mV) (M : Mm) (Q : mQ) : vc (n + 1) d 35 54 L S M Q = (vc n d 35 55 L (.inl 1 :: S) M Q) := nr rfl
set_option maxRecDepth 100000 in
theorem v35_55 (n d : Nat) (L : List (Option mL)) (S : List mV) (M : Mm) (Q : mQ) : vc (n + 1) d 35 55 L S M Q = (vc n d 35 56 L (.inl 3 :: S) M Q) := nr rfl
set_option maxRecDepth 100000 in
theorem v35_56 (n d : Nat) (L : List (Option mL)) (S : List mV) (M : Mm) (Q : mQ) : vc (n + 1) d 35 56 L S M Q = (gI L 3 fun x => vc n d 35 57 L (.inl x :: S) M Q) := nr rfl
set_option maxRecDepth 100000 in
theorem v35_57 (n d : Nat) (L : List (Option mL)) (S : List mV) (M : Mm) (Q : mQ) : vc (n + 1) d 35 57 L S M Q = (pI S fun y S => pI S fun x S => vc n d 35 58 L (.inl (x * y) :: S) M Q) := nr rfl
set_option maxRecDepth 100000 in
theorem v35_58 (n d : Nat) (L : List (Option mL)) (S : List mV) (M : Mm) (Q : mQ) : vc (n + 1) d 35 58 L S M Q = (pI S fun y S => pI S fun x S => vc n d 35 59 L (.inl (x + y) :: S) M Q) := nr rfl
set_option maxRecDepth 100000 in
theorem v35_59 (n d : Nat) (L : List (Option mL)) (S : List mV) (M : Mm) (Q : mQ) : vc (n + 1) d 35 59 L S M Q = (pAs 1 S fun as S => pA S fun a S => shO M a 1 (stk S ≤ 8 ∧ XC d 36 (.inr (some a) :: as) M (fun r M => ∃ x : Int32, r = some (.inl x) ∧ X d 35 62 L (.inl x :: S) M Q))) := nr rfl
set_option maxRecDepth 100000 in
theorem v35_62 (n d : Nat) (L : List (Option mL)) (S : List mV) (M : Mm) (Q : mQ) : vc (n + 1) d 35 62 L S M Q = (vc n d 35 64 L (.inl (-2) :: S) M Q) := nr rfl
set_option maxRecDepth 100000 in
theorem v35_64 (n d : Nat) (L : List (Option mL)) (S : List mV) (M : Mm) (Q : mQ) : vc (n + 1) d 35 64 L S M Q = (pAs 2 S fun as S => pA S fun a S => shO M a 4 (stk S ≤ 8 ∧ XC d 38 (.inr (some a) :: as) M (fun r M => r = none ∧ X d 35 67 L S M Q))) := nr rfl
set_option maxRecDepth 100000 in
theorem v35_67 (n d : Nat) (L : List (Option mL)) (S : List mV) (M : Mm) (Q : mQ) : vc (n + 1) d 35 67 L S M Q = (X d 35 111 L S M Q) := nr rfl
set_option maxRecDepth 100000 in
theorem v35_70 (n d : Nat) (L : List (Option mL)) (S : List mV) (M : Mm) (Q : mQ) : vc (n + 1) d 35 70 L S M Q = (gI L 4 fun x => vc n d 35 72 L (.inl x :: S) M Q) := nr rfl
set_option maxRecDepth 100000 in
theorem v35_72 (n d : Nat) (L : List (Option mL)) (S : List mV) (M : Mm) (Q : mQ) : vc (n + 1) d 35 72 L S M Q = (pAs 1 S fun as S => stk S ≤ 8 ∧ XC d 40 as M (fun r M => ∃ x : Int32, r = some (.inl x) ∧ X d 35 75 L (.inl x :: S) M Q)) := nr rfl
set_option maxRecDepth 100000 in
theorem v35_75 (n d : Nat) (L : List (Option mL)) (S : List mV) (M : Mm) (Q : mQ) : vc (n + 1) d 35 75 L S M Q = (pI S fun x S => (x = 0 → X d 35 111 L S M Q) ∧ (¬ (x = 0) → vc n d 35 78 L S M Q)) := nr rfl
set_option maxRecDepth 100000 in
theorem v35_78 (n d : Nat) (L : List (Option mL)) (S : List mV) (M : Mm) (Q : mQ) : vc (n + 1) d 35 78 L S M Q = (gI L 5 fun x => vc n d 35 80 L (.inl x :: S) M Q) := nr rfl
set_option maxRecDepth 100000 in
theorem v35_80 (n d : Nat) (L : List (Option mL)) (S : List mV) (M : Mm) (Q : mQ) : vc (n + 1) d 35 80 L S M Q = (pI S fun x S => (x < 0 → X d 35 111 L S M Q) ∧ (¬ (x < 0) → vc n d 35 83 L S M Q)) := nr rfl
set_option maxRecDepth 100000 in
theorem v35_83 (n d : Nat) (L : List (Option mL)) (S : List mV) (M : Mm) (Q : mQ) : vc (n + 1) d 35 83 L S M Q = (gI L 5 fun x => vc n d 35 85 L (.inl x :: S) M Q) := nr rfl
set_option maxRecDepth 100000 in
theorem v35_85 (n d : Nat) (L : List (Option mL)) (S : List mV) (M : Mm) (Q : mQ) : vc (n + 1) d 35 85 L S M Q = (vc n d 35 87 L (.inl 16 :: S) M Q) := nr rfl
set_option maxRecDepth 100000 in
theorem v35_87 (n d : Nat) (L : List (Option mL)) (S : List mV) (M : Mm) (Q : mQ) : vc (n + 1) d 35 87 L S M Q = (pI S fun y S => pI S fun x S => (y ≤ x → X d 35 111 L S M Q) ∧ (¬ (y ≤ x) → vc n d 35 90 L S M Q)) := nr rfl
set_option maxRecDepth 100000 in
theorem v35_90 (n d : Nat) (L : List (Option mL)) (S : List mV) (M : Mm) (Q : mQ) : vc (n + 1) d 35 90 L S M Q = (gR L 0 fun x => vc n d 35 91 L (.inr (.inr x) :: S) M Q) := nr rfl
set_option maxRecDepth 100000 in
theorem v35_91 (n d : Nat) (L : List (Option mL)) (S : List mV) (M : Mm) (Q : mQ) : vc (n + 1) d 35 91 L S M Q = (gR L 1 fun x => vc n d 35 92 L (.inr (.inr x) :: S) M Q) := nr rfl
set_option maxRecDepth 100000 in
theorem v35_92 (n d : Nat) (L : List (Option mL)) (S : List mV) (M : Mm) (Q : mQ) : vc (n + 1) d 35 92 L S M Q = (vc n d 35 93 L (.inl 1 :: S) M Q) := nr rfl
set_option maxRecDepth 100000 in
theorem v35_93 (n d : Nat) (L : List (Option mL)) (S : List mV) (M : Mm) (Q : mQ) : vc (n + 1) d 35 93 L S M Q = (vc n d 35 94 L (.inl 3 :: S) M Q) := nr rfl
set_option maxRecDepth 100000 in
theorem v35_94 (n d : Nat) (L : List (Option mL)) (S : List mV) (M : Mm) (Q : mQ) : vc (n + 1) d 35 94 L S M Q = (gI L 3 fun x => vc n d 35 95 L (.inl x :: S) M Q) := nr rfl
set_option maxRecDepth 100000 in
theorem v35_95 (n d : Nat) (L : List (Option mL)) (S : List mV) (M : Mm) (Q : mQ) : vc (n + 1) d 35 95 L S M Q = (pI S fun y S => pI S fun x S => vc n d 35 96 L (.inl (x * y) :: S) M Q) := nr rfl
set_option maxRecDepth 100000 in
theorem v35_96 (n d : Nat) (L : List (Option mL)) (S : List mV) (M : Mm) (Q : mQ) : vc (n + 1) d 35 96 L S M Q = (pI S fun y S => pI S fun x S => vc n d 35 97 L (.inl (x + y) :: S) M Q) := nr rfl
set_option maxRecDepth 100000 in
theorem v35_97 (n d : Nat) (L : List (Option mL)) (S : List mV) (M : Mm) (Q : mQ) : vc (n + 1) d 35 97 L S M Q = (pAs 1 S fun as S => pA S fun a S => shO M a 1 (stk S ≤ 8 ∧ XC d 36 (.inr (some a) :: as) M (fun r M => ∃ x : Int32, r = some (.inl x) ∧ X d 35 100 L (.inl x :: S) M Q))) := nr rfl
set_option maxRecDepth 100000 in
theorem v35_100 (n d : Nat) (L : List (Option mL)) (S : List mV) (M : Mm) (Q : mQ) : vc (n + 1) d 35 100 L S M Q = (gI L 4 fun x => vc n d 35 102 L (.inl x :: S) M Q) := nr rfl
set_option maxRecDepth 100000 in
theorem v35_102 (n d : Nat) (L : List (Option mL)) (S : List mV) (M : Mm) (Q : mQ) : vc (n + 1) d 35 102 L S M Q = (vc n d 35 104 L (.inl 16 :: S) M Q) := nr rfl
set_option maxRecDepth 100000 in
theorem v35_104 (n d : Nat) (L : List (Option mL)) (S : List mV) (M : Mm) (Q : mQ) : vc (n + 1) d 35 104 L S M Q = (pI S fun y S => pI S fun x S => vc n d 35 105 L (.inl (x * y) :: S) M Q) := nr rfl
set_option maxRecDepth 100000 in
theorem v35_105 (n d : Nat) (L : List (Option mL)) (S : List mV) (M : Mm) (Q : mQ) : vc (n + 1) d 35 105 L S M Q = (gI L 5 fun x => vc n d 35 107 L (.inl x :: S) M Q) := nr rfl
set_option maxRecDepth 100000 in
theorem v35_107 (n d : Nat) (L : List (Option mL)) (S : List mV) (M : Mm) (Q : mQ) : vc (n + 1) d 35 107 L S M Q = (pI S fun y S => pI S fun x S => vc n d 35 108 L (.inl (x + y) :: S) M Q) := nr rfl
set_option maxRecDepth 100000 in
theorem v35_108 (n d : Nat) (L : List (Option mL)) (S : List mV) (M : Mm) (Q : mQ) : vc (n + 1) d 35 108 L S M Q = (pAs 2 S fun as S => pA S fun a S => shO M a 4 (stk S ≤ 8 ∧ XC d 38 (.inr (some a) :: as) M (fun r M => r = none ∧ X d 35 111 L S M Q))) := nr rfl
set_option maxRecDepth 100000 in
theorem v35_111 (n d : Nat) (L : List (Option mL)) (S : List mV) (M : Mm) (Q : mQ) : vc (n + 1) d 35 111 L S M Q = (gI L 3 fun x => sL L 3 (some (.inl (x + 1))) fun L => vc n d 35 114 L S M Q) := nr rfl
set_option maxRecDepth 100000 in
theorem v35_114 (n d : Nat) (L : List (Option mL)) (S : List mV) (M : Mm) (Q : mQ) : vc (n + 1) d 35 114 L S M Q = (X d 35 17 L S M Q) := nr rfl
set_option maxRecDepth 100000 in
theorem v35_117 (n d : Nat) (L : List (Option mL)) (S : List mV) (M : Mm) (Q : mQ) : vc (n + 1) d 35 117 L S M Q = (S = [] ∧ Q none M) := nr rfl
set_option maxRecDepth 100000 in
theorem v36_0 (n d : Nat) (L : List (Option mL)) (S : List mV) (M : Mm) (Q : mQ) : vc (n + 1) d 36 0 L S M Q = (gI L 1 fun x => vc n d 36 1 L (.inl x :: S) M Q) := nr rfl
set_option maxRecDepth 100000 in
theorem v36_1 (n d : Nat) (L : List (Option mL)) (S : List mV) (M : Mm) (Q : mQ) : vc (n + 1) d 36 1 L S M Q = (pI S fun x S => (x < 0 → vc n d 36 21 L S M Q) ∧ (¬ (x < 0) → vc n d 36 4 L S M Q)) := nr rfl
set_option maxRecDepth 100000 in
theorem v36_4 (n d : Nat) (L : List (Option mL)) (S : List mV) (M : Mm) (Q : mQ) : vc (n + 1) d 36 4 L S M Q = (gI L 1 fun x => vc n d 36 5 L (.inl x :: S) M Q) := nr rfl
set_option maxRecDepth 100000 in
theorem v36_5 (n d : Nat) (L : List (Option mL)) (S : List mV) (M : Mm) (Q : mQ) : vc (n + 1) d 36 5 L S M Q = (gR L 0 fun x => vc n d 36 6 L (.inr (.inr x) :: S) M Q) := nr rfl
set_option maxRecDepth 100000 in
theorem v36_6 (n d : Nat) (L : List (Option mL)) (S : List mV) (M : Mm) (Q : mQ) : vc (n + 1) d 36 6 L S M Q = (pA S fun a S => shO M a 1 (vc n d 36 9 L (.inl (M.it a 1) :: S) M Q)) := nr rfl
set_option maxRecDepth 100000 in
theorem v36_9 (n d : Nat) (L : List (Option mL)) (S : List mV) (M : Mm) (Q : mQ) : vc (n + 1) d 36 9 L S M Q = (pI S fun y S => pI S fun x S => (y ≤ x → vc n d 36 21 L S M Q) ∧ (¬ (y ≤ x) → vc n d 36 12 L S M Q)) := nr rfl
set_option maxRecDepth 100000 in
theorem v36_12 (n d : Nat) (L : List (Option mL)) (S : List mV) (M : Mm) (Q : mQ) : vc (n + 1) d 36 12 L S M Q = (gR L 0 fun x => vc n d 36 13 L (.inr (.inr x) :: S) M Q) := nr rfl
set_option maxRecDepth 100000 in
theorem v36_13 (n d : Nat) (L : List (Option mL)) (S : List mV) (M : Mm) (Q : mQ) : vc (n + 1) d 36 13 L S M Q = (pA S fun a S => shO M a 1 (rrf M a 0 fun r => vc n d 36 16 L (.inr (.inr r) :: S) M Q)) := nr rfl
set_option maxRecDepth 100000 in
theorem v36_16 (n d : Nat) (L : List (Option mL)) (S : List mV) (M : Mm) (Q : mQ) : vc (n + 1) d 36 16 L S M Q = (gI L 1 fun x => vc n d 36 17 L (.inl x :: S) M Q) := nr rfl
set_option maxRecDepth 100000 in
theorem v36_17 (n d : Nat) (L : List (Option mL)) (S : List mV) (M : Mm) (Q : mQ) : vc (n + 1) d 36 17 L S M Q = (pI S fun i S => pA S fun a S => shA M a fun t k => (t = 40 ∨ t = 41) ∧ inB i k ∧ vc n d 36 18 L (.inl (M.it a i.toNatClampNeg) :: S) M Q) := nr rfl
set_option maxRecDepth 100000 in
theorem v36_18 (n d : Nat) (L : List (Option mL)) (S : List mV) (M : Mm) (Q : mQ) : vc (n + 1) d 36 18 L S M Q = (vc n d 36 22 L S M Q) := nr rfl
set_option maxRecDepth 100000 in
theorem v36_21 (n d : Nat) (L : List (Option mL)) (S : List mV) (M : Mm) (Q : mQ) : vc (n + 1) d 36 21 L S M Q = (vc n d 36 22 L (.inl (-1) :: S) M Q) := nr rfl
set_option maxRecDepth 100000 in
theorem v36_22 (n d : Nat) (L : List (Option mL)) (S : List mV) (M : Mm) (Q : mQ) : vc (n + 1) d 36 22 L S M Q = (pI S fun x S => S = [] ∧ (0 = 0 ∨ x = 0 ∨ x = 1) ∧ Q (some (.inl x)) M) := nr rfl
set_option maxRecDepth 100000 in
theorem v37_0 (n d : Nat) (L : List (Option mL)) (S : List mV) (M : Mm) (Q : mQ) : vc (n + 1) d 37 0 L S M Q = (gI L 0 fun x => vc n d 37 1 L (.inl x :: S) M Q) := nr rfl
set_option maxRecDepth 100000 in
theorem v37_1 (n d : Nat) (L : List (Option mL)) (S : List mV) (M : Mm) (Q : mQ) : vc (n + 1) d 37 1 L S M Q = (gI L 1 fun x => vc n d 37 2 L (.inl x :: S) M Q) := nr rfl
set_option maxRecDepth 100000 in
theorem v37_2 (n d : Nat) (L : List (Option mL)) (S : List mV) (M : Mm) (Q : mQ) : vc (n + 1) d 37 2 L S M Q = (pI S fun y S => pI S fun x S => (y < x → vc n d 37 9 L S M Q) ∧ (¬ (y < x) → vc n d 37 5 L S M Q)) := nr rfl
set_option maxRecDepth 100000 in
theorem v37_5 (n d : Nat) (L : List (Option mL)) (S : List mV) (M : Mm) (Q : mQ) : vc (n + 1) d 37 5 L S M Q = (gI L 0 fun x => vc n d 37 6 L (.inl x :: S) M Q) := nr rfl
set_option maxRecDepth 100000 in
theorem v37_6 (n d : Nat) (L : List (Option mL)) (S : List mV) (M : Mm) (Q : mQ) : vc (n + 1) d 37 6 L S M Q = (vc n d 37 10 L S M Q) := nr rfl
set_option maxRecDepth 100000 in
theorem v37_9 (n d : Nat) (L : List (Option mL)) (S : List mV) (M : Mm) (Q : mQ) : vc (n + 1) d 37 9 L S M Q = (gI L 1 fun x => vc n d 37 10 L (.inl x :: S) M Q) := nr rfl
set_option maxRecDepth 100000 in
theorem v37_10 (n d : Nat) (L : List (Option mL)) (S : List mV) (M : Mm) (Q : mQ) : vc (n + 1) d 37 10 L S M Q = (pI S fun x S => S = [] ∧ (0 = 0 ∨ x = 0 ∨ x = 1) ∧ Q (some (.inl x)) M) := nr rfl
set_option maxRecDepth 100000 in
theorem v38_0 (n d : Nat) (L : List (Option mL)) (S : List mV) (M : Mm) (Q : mQ) : vc (n + 1) d 38 0 L S M Q = (gI L 1 fun x => vc n d 38 1 L (.inl x :: S) M Q) := nr rfl
set_option maxRecDepth 100000 in
theorem v38_1 (n d : Nat) (L : List (Option mL)) (S : List mV) (M : Mm) (Q : mQ) : vc (n + 1) d 38 1 L S M Q = (pAs 1 S fun as S => stk S ≤ 8 ∧ XC d 39 as M (fun r M => ∃ x : Int32, r = some (.inl x) ∧ X d 38 4 L (.inl x :: S) M Q)) := nr rfl
set_option maxRecDepth 100000 in
theorem v38_4 (n d : Nat) (L : List (Option mL)) (S : List mV) (M : Mm) (Q : mQ) : vc (n + 1) d 38 4 L S M Q = (pI S fun x S => (x = 0 → vc n d 38 12 L S M Q) ∧ (¬ (x = 0) → vc n d 38 7 L S M Q)) := nr rfl
set_option maxRecDepth 100000 in
theorem v38_7 (n d : Nat) (L : List (Option mL)) (S : List mV) (M : Mm) (Q : mQ) : vc (n + 1) d 38 7 L S M Q = (gI L 2 fun x => vc n d 38 8 L (.inl x :: S) M Q) := nr rfl
set_option maxRecDepth 100000 in
theorem v38_8 (n d : Nat) (L : List (Option mL)) (S : List mV) (M : Mm) (Q : mQ) : vc (n + 1) d 38 8 L S M Q = (vc n d 38 9 L (.inl (-1) :: S) M Q) := nr rfl
set_option maxRecDepth 100000 in
theorem v38_9 (n d : Nat) (L : List (Option mL)) (S : List mV) (M : Mm) (Q : mQ) : vc (n + 1) d 38 9 L S M Q = (pI S fun y S => pI S fun x S => (¬ x = y → vc n d 38 13 L S M Q) ∧ (¬ (¬ x = y) → vc n d 38 12 L S M Q)) := nr rfl
set_option maxRecDepth 100000 in
theorem v38_12 (n d : Nat) (L : List (Option mL)) (S : List mV) (M : Mm) (Q : mQ) : vc (n + 1) d 38 12 L S M Q = (S = [] ∧ Q none M) := nr rfl
set_option maxRecDepth 100000 in
theorem v38_13 (n d : Nat) (L : List (Option mL)) (S : List mV) (M : Mm) (Q : mQ) : vc (n + 1) d 38 13 L S M Q = (gR L 0 fun x => vc n d 38 14 L (.inr (.inr x) :: S) M Q) := nr rfl
set_option maxRecDepth 100000 in
theorem v38_14 (n d : Nat) (L : List (Option mL)) (S : List mV) (M : Mm) (Q : mQ) : vc (n + 1) d 38 14 L S M Q = (pA S fun a S => shO M a 4 (rrf M a 0 fun r => vc n d 38 17 L (.inr (.inr r) :: S) M Q)) := nr rfl
set_option maxRecDepth 100000 in
theorem v38_17 (n d : Nat) (L : List (Option mL)) (S : List mV) (M : Mm) (Q : mQ) : vc (n + 1) d 38 17 L S M Q = (gI L 1 fun x => vc n d 38 18 L (.inl x :: S) M Q) := nr rfl
set_option maxRecDepth 100000 in
theorem v38_18 (n d : Nat) (L : List (Option mL)) (S : List mV) (M : Mm) (Q : mQ) : vc (n + 1) d 38 18 L S M Q = (pI S fun i S => pA S fun a S => shA M a fun t k => (t = 40 ∨ t = 41) ∧ inB i k ∧ vc n d 38 19 L (.inl (M.it a i.toNatClampNeg) :: S) M Q) := nr rfl
set_option maxRecDepth 100000 in
theorem v38_19 (n d : Nat) (L : List (Option mL)) (S : List mV) (M : Mm) (Q : mQ) : vc (n + 1) d 38 19 L S M Q = (vc n d 38 20 L (.inl (-1) :: S) M Q) := nr rfl
set_option maxRecDepth 100000 in
theorem v38_20 (n d : Nat) (L : List (Option mL)) (S : List mV) (M : Mm) (Q : mQ) : vc (n + 1) d 38 20 L S M Q = (pI S fun y S => pI S fun x S => (¬ x = y → vc n d 38 33 L S M Q) ∧ (¬ (¬ x = y) → vc n d 38 23 L S M Q)) := nr rfl
set_option maxRecDepth 100000 in
theorem v38_23 (n d : Nat) (L : List (Option mL)) (S : List mV) (M : Mm) (Q : mQ) : vc (n + 1) d 38 23 L S M Q = (gR L 0 fun x => vc n d 38 24 L (.inr (.inr x) :: S) M Q) := nr rfl
set_option maxRecDepth 100000 in
theorem v38_24 (n d : Nat) (L : List (Option mL)) (S : List mV) (M : Mm) (Q : mQ) : vc (n + 1) d 38 24 L S M Q = (pC S fun v S => vc n d 38 25 L (v :: v :: S) M Q) := nr rfl
set_option maxRecDepth 100000 in
theorem v38_25 (n d : Nat) (L : List (Option mL)) (S : List mV) (M : Mm) (Q : mQ) : vc (n + 1) d 38 25 L S M Q = (pA S fun a S => shO M a 4 (vc n d 38 28 L (.inl (M.it a 1) :: S) M Q)) := nr rfl
set_option maxRecDepth 100000 in
theorem v38_28 (n d : Nat) (L : List (Option mL)) (S : List mV) (M : Mm) (Q : mQ) : vc (n + 1) d 38 28 L S M Q = (vc n d 38 29 L (.inl 1 :: S) M Q) := nr rfl
set_option maxRecDepth 100000 in
theorem v38_29 (n d : Nat) (L : List (Option mL)) (S : List mV) (M : Mm) (Q : mQ) : vc (n + 1) d 38 29 L S M Q = (pI S fun y S => pI S fun x S => vc n d 38 30 L (.inl (x + y) :: S) M Q) := nr rfl
set_option maxRecDepth 100000 in
theorem v38_30 (n d : Nat) (L : List (Option mL)) (S : List mV) (M : Mm) (Q : mQ) : vc (n + 1) d 38 30 L S M Q = (pI S fun x S => pA S fun a S => shO M a 4 (vc n d 38 33 L S (M.si a 1 x) Q)) := nr rfl
set_option maxRecDepth 100000 in
theorem v38_33 (n d : Nat) (L : List (Option mL)) (S : List mV) (M : Mm) (Q : mQ) : vc (n + 1) d 38 33 L S M Q = (gR L 0 fun x => vc n d 38 34 L (.inr (.inr x) :: S) M Q) := nr rfl
set_option maxRecDepth 100000 in
theorem v38_34 (n d : Nat) (L : List (Option mL)) (S : List mV) (M : Mm) (Q : mQ) : vc (n + 1) d 38 34 L S M Q = (pA S fun a S => shO M a 4 (rrf M a 0 fun r => vc n d 38 37 L (.inr (.inr r) :: S) M Q)) := nr rfl
set_option maxRecDepth 100000 in
theorem v38_37 (n d : Nat) (L : List (Option mL)) (S : List mV) (M : Mm) (Q : mQ) : vc (n + 1) d 38 37 L S M Q = (gI L 1 fun x => vc n d 38 38 L (.inl x :: S) M Q) := nr rfl
set_option maxRecDepth 100000 in
theorem v38_38 (n d : Nat) (L : List (Option mL)) (S : List mV) (M : Mm) (Q : mQ) : vc (n + 1) d 38 38 L S M Q = (gI L 2 fun x => vc n d 38 39 L (.inl x :: S) M Q) := nr rfl
set_option maxRecDepth 100000 in
theorem v38_39 (n d : Nat) (L : List (Option mL)) (S : List mV) (M : Mm) (Q : mQ) : vc (n + 1) d 38 39 L S M Q = (pI S fun x S => pI S fun i S => pA S fun a S => shA M a fun t k => t = 41 ∧ inB i k ∧ vc n d 38 40 L S (M.si a i.toNatClampNeg x) Q) := nr rfl
set_option maxRecDepth 100000 in
theorem v38_40 (n d : Nat) (L : List (Option mL)) (S : List mV) (M : Mm) (Q : mQ) : vc (n + 1) d 38 40 L S M Q = (S = [] ∧ Q none M) := nr rfl
set_option maxRecDepth 100000 in
theorem v39_0 (n d : Nat) (L : List (Option mL)) (S : List mV) (M : Mm) (Q : mQ) : vc (n + 1) d 39 0 L S M Q = (gI L 0 fun x => vc n d 39 1 L (.inl x :: S) M Q) := nr rfl
set_option maxRecDepth 100000 in
theorem v39_1 (n d : Nat) (L : List (Option mL)) (S : List mV) (M : Mm) (Q : mQ) : vc (n + 1) d 39 1 L S M Q = (pI S fun x S => (x < 0 → vc n d 39 14 L S M Q) ∧ (¬ (x < 0) → vc n d 39 4 L S M Q)) := nr rfl
set_option maxRecDepth 100000 in
theorem v39_4 (n d : Nat) (L : List (Option mL)) (S : List mV) (M : Mm) (Q : mQ) : vc (n + 1) d 39 4 L S M Q = (gI L 0 fun x => vc n d 39 5 L (.inl x :: S) M Q) := nr rfl
set_option maxRecDepth 100000 in
theorem v39_5 (n d : Nat) (L : List (Option mL)) (S : List mV) (M : Mm) (Q : mQ) : vc (n + 1) d 39 5 L S M Q = (vc n d 39 7 L (.inl 48 :: S) M Q) := nr rfl
set_option maxRecDepth 100000 in
theorem v39_7 (n d : Nat) (L : List (Option mL)) (S : List mV) (M : Mm) (Q : mQ) : vc (n + 1) d 39 7 L S M Q = (pI S fun y S => pI S fun x S => (y ≤ x → vc n d 39 14 L S M Q) ∧ (¬ (y ≤ x) → vc n d 39 10 L S M Q)) := nr rfl
set_option maxRecDepth 100000 in
theorem v39_10 (n d : Nat) (L : List (Option mL)) (S : List mV) (M : Mm) (Q : mQ) : vc (n + 1) d 39 10 L S M Q = (vc n d 39 11 L (.inl 1 :: S) M Q) := nr rfl
set_option maxRecDepth 100000 in
theorem v39_11 (n d : Nat) (L : List (Option mL)) (S : List mV) (M : Mm) (Q : mQ) : vc (n + 1) d 39 11 L S M Q = (vc n d 39 15 L S M Q) := nr rfl
set_option maxRecDepth 100000 in
theorem v39_14 (n d : Nat) (L : List (Option mL)) (S : List mV) (M : Mm) (Q : mQ) : vc (n + 1) d 39 14 L S M Q = (vc n d 39 15 L (.inl 0 :: S) M Q) := nr rfl
set_option maxRecDepth 100000 in
theorem v39_15 (n d : Nat) (L : List (Option mL)) (S : List mV) (M : Mm) (Q : mQ) : vc (n + 1) d 39 15 L S M Q = (pI S fun x S => S = [] ∧ (1 = 0 ∨ x = 0 ∨ x = 1) ∧ Q (some (.inl x)) M) := nr rfl
set_option maxRecDepth 100000 in
theorem v40_0 (n d : Nat) (L : List (Option mL)) (S : List mV) (M : Mm) (Q : mQ) : vc (n + 1) d 40 0 L S M Q = (gI L 0 fun x => vc n d 40 1 L (.inl x :: S) M Q) := nr rfl
set_option maxRecDepth 100000 in
theorem v40_1 (n d : Nat) (L : List (Option mL)) (S : List mV) (M : Mm) (Q : mQ) : vc (n + 1) d 40 1 L S M Q = (pI S fun x S => (x < 0 → vc n d 40 14 L S M Q) ∧ (¬ (x < 0) → vc n d 40 4 L S M Q)) := nr rfl
set_option maxRecDepth 100000 in
theorem v40_4 (n d : Nat) (L : List (Option mL)) (S : List mV) (M : Mm) (Q : mQ) : vc (n + 1) d 40 4 L S M Q = (gI L 0 fun x => vc n d 40 5 L (.inl x :: S) M Q) := nr rfl
set_option maxRecDepth 100000 in
theorem v40_5 (n d : Nat) (L : List (Option mL)) (S : List mV) (M : Mm) (Q : mQ) : vc (n + 1) d 40 5 L S M Q = (vc n d 40 7 L (.inl 8 :: S) M Q) := nr rfl
set_option maxRecDepth 100000 in
theorem v40_7 (n d : Nat) (L : List (Option mL)) (S : List mV) (M : Mm) (Q : mQ) : vc (n + 1) d 40 7 L S M Q = (pI S fun y S => pI S fun x S => (y ≤ x → vc n d 40 14 L S M Q) ∧ (¬ (y ≤ x) → vc n d 40 10 L S M Q)) := nr rfl
set_option maxRecDepth 100000 in
theorem v40_10 (n d : Nat) (L : List (Option mL)) (S : List mV) (M : Mm) (Q : mQ) : vc (n + 1) d 40 10 L S M Q = (vc n d 40 11 L (.inl 1 :: S) M Q) := nr rfl
set_option maxRecDepth 100000 in
theorem v40_11 (n d : Nat) (L : List (Option mL)) (S : List mV) (M : Mm) (Q : mQ) : vc (n + 1) d 40 11 L S M Q = (vc n d 40 15 L S M Q) := nr rfl
set_option maxRecDepth 100000 in
theorem v40_14 (n d : Nat) (L : List (Option mL)) (S : List mV) (M : Mm) (Q : mQ) : vc (n + 1) d 40 14 L S M Q = (vc n d 40 15 L (.inl 0 :: S) M Q) := nr rfl
set_option maxRecDepth 100000 in
theorem v40_15 (n d : Nat) (L : List (Option mL)) (S : List mV) (M : Mm) (Q : mQ) : vc (n + 1) d 40 15 L S M Q = (pI S fun x S => S = [] ∧ (1 = 0 ∨ x = 0 ∨ x = 1) ∧ Q (some (.inl x)) M) := nr rfl
set_option maxRecDepth 100000 in
theorem v41_0 (n d : Nat) (L : List (Option mL)) (S : List mV) (M : Mm) (Q : mQ) : vc (n + 1) d 41 0 L S M Q = (gR L 0 fun x => vc n d 41 1 L (.inr (.inr x) :: S) M Q) := nr rfl
set_option maxRecDepth 100000 in
theorem v41_1 (n d : Nat) (L : List (Option mL)) (S : List mV) (M : Mm) (Q : mQ) : vc (n + 1) d 41 1 L S M Q = (pA S fun a S => shO M a 0 (rrf M a 6 fun r => vc n d 41 4 L (.inr (.inr r) :: S) M Q)) := nr rfl
set_option maxRecDepth 100000 in
theorem v41_4 (n d : Nat) (L : List (Option mL)) (S : List mV) (M : Mm) (Q : mQ) : vc (n + 1) d 41 4 L S M Q = (pA S fun a S => shO M a 1 (vc n d 41 7 L (.inl (M.it a 1) :: S) M Q)) := nr rfl
set_option maxRecDepth 100000 in
theorem v41_7 (n d : Nat) (L : List (Option mL)) (S : List mV) (M : Mm) (Q : mQ) : vc (n + 1) d 41 7 L S M Q = (vc n d 41 9 L (.inl 20 :: S) M Q) := nr rfl
set_option maxRecDepth 100000 in
theorem v41_9 (n d : Nat) (L : List (Option mL)) (S : List mV) (M : Mm) (Q : mQ) : vc (n + 1) d 41 9 L S M Q = (pI S fun y S => pI S fun x S => vc n d 41 10 L (.inl (x + y) :: S) M Q) := nr rfl
set_option maxRecDepth 100000 in
theorem v41_10 (n d : Nat) (L : List (Option mL)) (S : List mV) (M : Mm) (Q : mQ) : vc (n + 1) d 41 10 L S M Q = (vc n d 41 13 L (.inl 200 :: S) M Q) := nr rfl
set_option maxRecDepth 100000 in
theorem v41_13 (n d : Nat) (L : List (Option mL)) (S : List mV) (M : Mm) (Q : mQ) : vc (n + 1) d 41 13 L S M Q = (pI S fun y S => pI S fun x S => (x ≤ y → vc n d 41 18 L S M Q) ∧ (¬ (x ≤ y) → vc n d 41 16 L S M Q)) := nr rfl
set_option maxRecDepth 100000 in
theorem v41_16 (n d : Nat) (L : List (Option mL)) (S : List mV) (M : Mm) (Q : mQ) : vc (n + 1) d 41 16 L S M Q = (vc n d 41 17 L (.inl (-1) :: S) M Q) := nr rfl
set_option maxRecDepth 100000 in
theorem v41_17 (n d : Nat) (L : List (Option mL)) (S : List mV) (M : Mm) (Q : mQ) : vc (n + 1) d 41 17 L S M Q = (pI S fun x S => S = [] ∧ (0 = 0 ∨ x = 0 ∨ x = 1) ∧ Q (some (.inl x)) M) := nr rfl
set_option maxRecDepth 100000 in
theorem v41_18 (n d : Nat) (L : List (Option mL)) (S : List mV) (M : Mm) (Q : mQ) : vc (n + 1) d 41 18 L S M Q = (gR L 0 fun x => vc n d 41 19 L (.inr (.inr x) :: S) M Q) := nr rfl
set_option maxRecDepth 100000 in
theorem v41_19 (n d : Nat) (L : List (Option mL)) (S : List mV) (M : Mm) (Q : mQ) : vc (n + 1) d 41 19 L S M Q = (pA S fun a S => shO M a 0 (rrf M a 6 fun r => vc n d 41 22 L (.inr (.inr r) :: S) M Q)) := nr rfl
set_option maxRecDepth 100000 in
theorem v41_22 (n d : Nat) (L : List (Option mL)) (S : List mV) (M : Mm) (Q : mQ) : vc (n + 1) d 41 22 L S M Q = (gI L 1 fun x => vc n d 41 23 L (.inl x :: S) M Q) := nr rfl
set_option maxRecDepth 100000 in
theorem v41_23 (n d : Nat) (L : List (Option mL)) (S : List mV) (M : Mm) (Q : mQ) : vc (n + 1) d 41 23 L S M Q = (pAs 1 S fun as S => pA S fun a S => shO M a 1 (stk S ≤ 8 ∧ XC d 42 (.inr (some a) :: as) M (fun r M => r = none ∧ X d 41 26 L S M Q))) := nr rfl
set_option maxRecDepth 100000 in
theorem v41_26 (n d : Nat) (L : List (Option mL)) (S : List mV) (M : Mm) (Q : mQ) : vc (n + 1) d 41 26 L S M Q = (gR L 0 fun x => vc n d 41 27 L (.inr (.inr x) :: S) M Q) := nr rfl
set_option maxRecDepth 100000 in
theorem v41_27 (n d : Nat) (L : List (Option mL)) (S : List mV) (M : Mm) (Q : mQ) : vc (n + 1) d 41 27 L S M Q = (pA S fun a S => shO M a 0 (rrf M a 6 fun r => vc n d 41 30 L (.inr (.inr r) :: S) M Q)) := nr rfl
set_option maxRecDepth 100000 in
theorem v41_30 (n d : Nat) (L : List (Option mL)) (S : List mV) (M : Mm) (Q : mQ) : vc (n + 1) d 41 30 L S M Q = (gI L 2 fun x => vc n d 41 31 L (.inl x :: S) M Q) := nr rfl
set_option maxRecDepth 100000 in
theorem v41_31 (n d : Nat) (L : List (Option mL)) (S : List mV) (M : Mm) (Q : mQ) : vc (n + 1) d 41 31 L S M Q = (pAs 1 S fun as S => pA S fun a S => shO M a 1 (stk S ≤ 8 ∧ XC d 42 (.inr (some a) :: as) M (fun r M => r = none ∧ X d 41 34 L S M Q))) := nr rfl
set_option maxRecDepth 100000 in
theorem v41_34 (n d : Nat) (L : List (Option mL)) (S : List mV) (M : Mm) (Q : mQ) : vc (n + 1) d 41 34 L S M Q = (gR L 0 fun x => vc n d 41 35 L (.inr (.inr x) :: S) M Q) := nr rfl
set_option maxRecDepth 100000 in
theorem v41_35 (n d : Nat) (L : List (Option mL)) (S : List mV) (M : Mm) (Q : mQ) : vc (n + 1) d 41 35 L S M Q = (pA S fun a S => shO M a 0 (rrf M a 6 fun r => vc n d 41 38 L (.inr (.inr r) :: S) M Q)) := nr rfl
set_option maxRecDepth 100000 in
theorem v41_38 (n d : Nat) (L : List (Option mL)) (S : List mV) (M : Mm) (Q : mQ) : vc (n + 1) d 41 38 L S M Q = (gI L 3 fun x => vc n d 41 39 L (.inl x :: S) M Q) := nr rfl
set_option maxRecDepth 100000 in
theorem v41_39 (n d : Nat) (L : List (Option mL)) (S : List mV) (M : Mm) (Q : mQ) : vc (n + 1) d 41 39 L S M Q = (pAs 1 S fun as S => pA S fun a S => shO M a 1 (stk S ≤ 8 ∧ XC d 42 (.inr (some a) :: as) M (fun r M => r = none ∧ X d 41 42 L S M Q))) := nr rfl
set_option maxRecDepth 100000 in
theorem v41_42 (n d : Nat) (L : List (Option mL)) (S : List mV) (M : Mm) (Q : mQ) : vc (n + 1) d 41 42 L S M Q = (gR L 0 fun x => vc n d 41 43 L (.inr (.inr x) :: S) M Q) := nr rfl
set_option maxRecDepth 100000 in
theorem v41_43 (n d : Nat) (L : List (Option mL)) (S : List mV) (M : Mm) (Q : mQ) : vc (n + 1) d 41 43 L S M Q = (pA S fun a S => shO M a 0 (rrf M a 6 fun r => vc n d 41 46 L (.inr (.inr r) :: S) M Q)) := nr rfl
set_option maxRecDepth 100000 in
theorem v41_46 (n d : Nat) (L : List (Option mL)) (S : List mV) (M : Mm) (Q : mQ) : vc (n + 1) d 41 46 L S M Q = (gI L 4 fun x => vc n d 41 48 L (.inl x :: S) M Q) := nr rfl
set_option maxRecDepth 100000 in
theorem v41_48 (n d : Nat) (L : List (Option mL)) (S : List mV) (M : Mm) (Q : mQ) : vc (n + 1) d 41 48 L S M Q = (pAs 1 S fun as S => pA S fun a S => shO M a 1 (stk S ≤ 8 ∧ XC d 42 (.inr (some a) :: as) M (fun r M => r = none ∧ X d 41 51 L S M Q))) := nr rfl
set_option maxRecDepth 100000 in
theorem v41_51 (n d : Nat) (L : List (Option mL)) (S : List mV) (M : Mm) (Q : mQ) : vc (n + 1) d 41 51 L S M Q = (gR L 0 fun x => vc n d 41 52 L (.inr (.inr x) :: S) M Q) := nr rfl
set_option maxRecDepth 100000 in
theorem v41_52 (n d : Nat) (L : List (Option mL)) (S : List mV) (M : Mm) (Q : mQ) : vc (n + 1) d 41 52 L S M Q = (pA S fun a S => shO M a 0 (rrf M a 6 fun r => vc n d 41 55 L (.inr (.inr r) :: S) M Q)) := nr rfl
set_option maxRecDepth 100000 in
theorem v41_55 (n d : Nat) (L : List (Option mL)) (S : List mV) (M : Mm) (Q : mQ) : vc (n + 1) d 41 55 L S M Q = (gI L 5 fun x => vc n d 41 57 L (.inl x :: S) M Q) := nr rfl
set_option maxRecDepth 100000 in
theorem v41_57 (n d : Nat) (L : List (Option mL)) (S : List mV) (M : Mm) (Q : mQ) : vc (n + 1) d 41 57 L S M Q = (pAs 1 S fun as S => pA S fun a S => shO M a 1 (stk S ≤ 8 ∧ XC d 42 (.inr (some a) :: as) M (fun r M => r = none ∧ X d 41 60 L S M Q))) := nr rfl
set_option maxRecDepth 100000 in
theorem v41_60 (n d : Nat) (L : List (Option mL)) (S : List mV) (M : Mm) (Q : mQ) : vc (n + 1) d 41 60 L S M Q = (gR L 0 fun x => vc n d 41 61 L (.inr (.inr x) :: S) M Q) := nr rfl
set_option maxRecDepth 100000 in
theorem v41_61 (n d : Nat) (L : List (Option mL)) (S : List mV) (M : Mm) (Q : mQ) : vc (n + 1) d 41 61 L S M Q = (pA S fun a S => shO M a 0 (rrf M a 6 fun r => vc n d 41 64 L (.inr (.inr r) :: S) M Q)) := nr rfl
set_option maxRecDepth 100000 in
theorem v41_64 (n d : Nat) (L : List (Option mL)) (S : List mV) (M : Mm) (Q : mQ) : vc (n + 1) d 41 64 L S M Q = (pA S fun a S => shO M a 1 (vc n d 41 67 L (.inl (M.it a 1) :: S) M Q)) := nr rfl
set_option maxRecDepth 100000 in
theorem v41_67 (n d : Nat) (L : List (Option mL)) (S : List mV) (M : Mm) (Q : mQ) : vc (n + 1) d 41 67 L S M Q = (pI S fun x S => S = [] ∧ (0 = 0 ∨ x = 0 ∨ x = 1) ∧ Q (some (.inl x)) M) := nr rfl
set_option maxRecDepth 100000 in
theorem v42_0 (n d : Nat) (L : List (Option mL)) (S : List mV) (M : Mm) (Q : mQ) : vc (n + 1) d 42 0 L S M Q = (gR L 0 fun x => vc n d 42 1 L (.inr (.inr x) :: S) M Q) := nr rfl
set_option maxRecDepth 100000 in
theorem v42_1 (n d : Nat) (L : List (Option mL)) (S : List mV) (M : Mm) (Q : mQ) : vc (n + 1) d 42 1 L S M Q = (gI L 1 fun x => vc n d 42 2 L (.inl x :: S) M Q) := nr rfl
set_option maxRecDepth 100000 in
theorem v42_2 (n d : Nat) (L : List (Option mL)) (S : List mV) (M : Mm) (Q : mQ) : vc (n + 1) d 42 2 L S M Q = (vc n d 42 4 L (.inl 16 :: S) M Q) := nr rfl
set_option maxRecDepth 100000 in
theorem v42_4 (n d : Nat) (L : List (Option mL)) (S : List mV) (M : Mm) (Q : mQ) : vc (n + 1) d 42 4 L S M Q = (pI S fun y S => pI S fun x S => vc n d 42 5 L (.inl (x.toUInt32 >>> (y.toUInt32 &&& Int32.toUInt32 31)).toInt32 :: S) M Q) := nr rfl
set_option maxRecDepth 100000 in
theorem v42_5 (n d : Nat) (L : List (Option mL)) (S : List mV) (M : Mm) (Q : mQ) : vc (n + 1) d 42 5 L S M Q = (pAs 1 S fun as S => pA S fun a S => shO M a 1 (stk S ≤ 8 ∧ XC d 43 (.inr (some a) :: as) M (fun r M => r = none ∧ X d 42 8 L S M Q))) := nr rfl
set_option maxRecDepth 100000 in
theorem v42_8 (n d : Nat) (L : List (Option mL)) (S : List mV) (M : Mm) (Q : mQ) : vc (n + 1) d 42 8 L S M Q = (gR L 0 fun x => vc n d 42 9 L (.inr (.inr x) :: S) M Q) := nr rfl
set_option maxRecDepth 100000 in
theorem v42_9 (n d : Nat) (L : List (Option mL)) (S : List mV) (M : Mm) (Q : mQ) : vc (n + 1) d 42 9 L S M Q = (gI L 1 fun x => vc n d 42 10 L (.inl x :: S) M Q) := nr rfl
set_option maxRecDepth 100000 in
theorem v42_10 (n d : Nat) (L : List (Option mL)) (S : List mV) (M : Mm) (Q : mQ) : vc (n + 1) d 42 10 L S M Q = (pAs 1 S fun as S => pA S fun a S => shO M a 1 (stk S ≤ 8 ∧ XC d 43 (.inr (some a) :: as) M (fun r M => r = none ∧ X d 42 13 L S M Q))) := nr rfl
set_option maxRecDepth 100000 in
theorem v42_13 (n d : Nat) (L : List (Option mL)) (S : List mV) (M : Mm) (Q : mQ) : vc (n + 1) d 42 13 L S M Q = (S = [] ∧ Q none M) := nr rfl
set_option maxRecDepth 100000 in
theorem v43_0 (n d : Nat) (L : List (Option mL)) (S : List mV) (M : Mm) (Q : mQ) : vc (n + 1) d 43 0 L S M Q = (gR L 0 fun x => vc n d 43 1 L (.inr (.inr x) :: S) M Q) := nr rfl
set_option maxRecDepth 100000 in
theorem v43_1 (n d : Nat) (L : List (Option mL)) (S : List mV) (M : Mm) (Q : mQ) : vc (n + 1) d 43 1 L S M Q = (gI L 1 fun x => vc n d 43 2 L (.inl x :: S) M Q) := nr rfl
set_option maxRecDepth 100000 in
theorem v43_2 (n d : Nat) (L : List (Option mL)) (S : List mV) (M : Mm) (Q : mQ) : vc (n + 1) d 43 2 L S M Q = (vc n d 43 4 L (.inl 8 :: S) M Q) := nr rfl
set_option maxRecDepth 100000 in
theorem v43_4 (n d : Nat) (L : List (Option mL)) (S : List mV) (M : Mm) (Q : mQ) : vc (n + 1) d 43 4 L S M Q = (pI S fun y S => pI S fun x S => vc n d 43 5 L (.inl (x.toUInt32 >>> (y.toUInt32 &&& Int32.toUInt32 31)).toInt32 :: S) M Q) := nr rfl
set_option maxRecDepth 100000 in
theorem v43_5 (n d : Nat) (L : List (Option mL)) (S : List mV) (M : Mm) (Q : mQ) : vc (n + 1) d 43 5 L S M Q = (pAs 1 S fun as S => pA S fun a S => shO M a 1 (stk S ≤ 8 ∧ XC d 33 (.inr (some a) :: as) M (fun r M => r = none ∧ X d 43 8 L S M Q))) := nr rfl
set_option maxRecDepth 100000 in
theorem v43_8 (n d : Nat) (L : List (Option mL)) (S : List mV) (M : Mm) (Q : mQ) : vc (n + 1) d 43 8 L S M Q = (gR L 0 fun x => vc n d 43 9 L (.inr (.inr x) :: S) M Q) := nr rfl
set_option maxRecDepth 100000 in
theorem v43_9 (n d : Nat) (L : List (Option mL)) (S : List mV) (M : Mm) (Q : mQ) : vc (n + 1) d 43 9 L S M Q = (gI L 1 fun x => vc n d 43 10 L (.inl x :: S) M Q) := nr rfl
set_option maxRecDepth 100000 in
theorem v43_10 (n d : Nat) (L : List (Option mL)) (S : List mV) (M : Mm) (Q : mQ) : vc (n + 1) d 43 10 L S M Q = (pAs 1 S fun as S => pA S fun a S => shO M a 1 (stk S ≤ 8 ∧ XC d 33 (.inr (some a) :: as) M (fun r M => r = none ∧ X d 43 13 L S M Q))) := nr rfl
set_option maxRecDepth 100000 in
theorem v43_13 (n d : Nat) (L : List (Option mL)) (S : List mV) (M : Mm) (Q : mQ) : vc (n + 1) d 43 13 L S M Q = (S = [] ∧ Q none M) := nr rfl
set_option maxRecDepth 100000 in
theorem v44_0 (n d : Nat) (L : List (Option mL)) (S : List mV) (M : Mm) (Q : mQ) : vc (n + 1) d 44 0 L S M Q = (gR L 0 fun x => vc n d 44 1 L (.inr (.inr x) :: S) M Q) := nr rfl
set_option maxRecDepth 100000 in
theorem v44_1 (n d : Nat) (L : List (Option mL)) (S : List mV) (M : Mm) (Q : mQ) : vc (n + 1) d 44 1 L S M Q = (pA S fun a S => shO M a 0 (vc n d 44 4 L (.inl (M.it a 18) :: S) M Q)) := nr rfl
set_option maxRecDepth 100000 in
theorem v44_4 (n d : Nat) (L : List (Option mL)) (S : List mV) (M : Mm) (Q : mQ) : vc (n + 1) d 44 4 L S M Q = (pI S fun x S => (¬ x = 0 → vc n d 44 45 L S M Q) ∧ (¬ (¬ x = 0) → vc n d 44 7 L S M Q)) := nr rfl
set_option maxRecDepth 100000 in
theorem v44_7 (n d : Nat) (L : List (Option mL)) (S : List mV) (M : Mm) (Q : mQ) : vc (n + 1) d 44 7 L S M Q = (gI L 1 fun x => vc n d 44 8 L (.inl x :: S) M Q) := nr rfl
set_option maxRecDepth 100000 in
theorem v44_8 (n d : Nat) (L : List (Option mL)) (S : List mV) (M : Mm) (Q : mQ) : vc (n + 1) d 44 8 L S M Q = (pAs 1 S fun as S => stk S ≤ 8 ∧ XC d 39 as M (fun r M => ∃ x : Int32, r = some (.inl x) ∧ X d 44 11 L (.inl x :: S) M Q)) := nr rfl
set_option maxRecDepth 100000 in
theorem v44_11 (n d : Nat) (L : List (Option mL)) (S : List mV) (M : Mm) (Q : mQ) : vc (n + 1) d 44 11 L S M Q = (pI S fun x S => (x = 0 → vc n d 44 45 L S M Q) ∧ (¬ (x = 0) → vc n d 44 14 L S M Q)) := nr rfl
set_option maxRecDepth 100000 in
theorem v44_14 (n d : Nat) (L : List (Option mL)) (S : List mV) (M : Mm) (Q : mQ) : vc (n + 1) d 44 14 L S M Q = (gI L 2 fun x => vc n d 44 15 L (.inl x :: S) M Q) := nr rfl
set_option maxRecDepth 100000 in
theorem v44_15 (n d : Nat) (L : List (Option mL)) (S : List mV) (M : Mm) (Q : mQ) : vc (n + 1) d 44 15 L S M Q = (pI S fun x S => (x < 0 → vc n d 44 45 L S M Q) ∧ (¬ (x < 0) → vc n d 44 18 L S M Q)) := nr rfl
set_option maxRecDepth 100000 in
theorem v44_18 (n d : Nat) (L : List (Option mL)) (S : List mV) (M : Mm) (Q : mQ) : vc (n + 1) d 44 18 L S M Q = (gI L 2 fun x => vc n d 44 19 L (.inl x :: S) M Q) := nr rfl
set_option maxRecDepth 100000 in
theorem v44_19 (n d : Nat) (L : List (Option mL)) (S : List mV) (M : Mm) (Q : mQ) : vc (n + 1) d 44 19 L S M Q = (vc n d 44 21 L (.inl 100 :: S) M Q) := nr rfl
set_option maxRecDepth 100000 in
theorem v44_21 (n d : Nat) (L : List (Option mL)) (S : List mV) (M : Mm) (Q : mQ) : vc (n + 1) d 44 21 L S M Q = (pI S fun y S => pI S fun x S => (y < x → vc n d 44 45 L S M Q) ∧ (¬ (y < x) → vc n d 44 24 L S M Q)) := nr rfl
set_option maxRecDepth 100000 in
theorem v44_24 (n d : Nat) (L : List (Option mL)) (S : List mV) (M : Mm) (Q : mQ) : vc (n + 1) d 44 24 L S M Q = (gI L 2 fun x => vc n d 44 25 L (.inl x :: S) M Q) := nr rfl
set_option maxRecDepth 100000 in
theorem v44_25 (n d : Nat) (L : List (Option mL)) (S : List mV) (M : Mm) (Q : mQ) : vc (n + 1) d 44 25 L S M Q = (gR L 0 fun x => vc n d 44 26 L (.inr (.inr x) :: S) M Q) := nr rfl
set_option maxRecDepth 100000 in
theorem v44_26 (n d : Nat) (L : List (Option mL)) (S : List mV) (M : Mm) (Q : mQ) : vc (n + 1) d 44 26 L S M Q = (pA S fun a S => shO M a 0 (rrf M a 6 fun r => vc n d 44 29 L (.inr (.inr r) :: S) M Q)) := nr rfl
set_option maxRecDepth 100000 in
theorem v44_29 (n d : Nat) (L : List (Option mL)) (S : List mV) (M : Mm) (Q : mQ) : vc (n + 1) d 44 29 L S M Q = (pA S fun a S => shO M a 1 (vc n d 44 32 L (.inl (M.it a 1) :: S) M Q)) := nr rfl
set_option maxRecDepth 100000 in
theorem v44_32 (n d : Nat) (L : List (Option mL)) (S : List mV) (M : Mm) (Q : mQ) : vc (n + 1) d 44 32 L S M Q = (pI S fun y S => pI S fun x S => (y < x → vc n d 44 45 L S M Q) ∧ (¬ (y < x) → vc n d 44 35 L S M Q)) := nr rfl
set_option maxRecDepth 100000 in
theorem v44_35 (n d : Nat) (L : List (Option mL)) (S : List mV) (M : Mm) (Q : mQ) : vc (n + 1) d 44 35 L S M Q = (gR L 0 fun x => vc n d 44 36 L (.inr (.inr x) :: S) M Q) := nr rfl
set_option maxRecDepth 100000 in
theorem v44_36 (n d : Nat) (L : List (Option mL)) (S : List mV) (M : Mm) (Q : mQ) : vc (n + 1) d 44 36 L S M Q = (pA S fun a S => shO M a 0 (vc n d 44 39 L (.inl (M.it a 17) :: S) M Q)) := nr rfl
set_option maxRecDepth 100000 in
theorem v44_39 (n d : Nat) (L : List (Option mL)) (S : List mV) (M : Mm) (Q : mQ) : vc (n + 1) d 44 39 L S M Q = (vc n d 44 42 L (.inl 512 :: S) M Q) := nr rfl
set_option maxRecDepth 100000 in
theorem v44_42 (n d : Nat) (L : List (Option mL)) (S : List mV) (M : Mm) (Q : mQ) : vc (n + 1) d 44 42 L S M Q = (pI S fun y S => pI S fun x S => (x < y → vc n d 44 47 L S M Q) ∧ (¬ (x < y) → vc n d 44 45 L S M Q)) := nr rfl
set_option maxRecDepth 100000 in
theorem v44_45 (n d : Nat) (L : List (Option mL)) (S : List mV) (M : Mm) (Q : mQ) : vc (n + 1) d 44 45 L S M Q = (vc n d 44 46 L (.inl (-1) :: S) M Q) := nr rfl
set_option maxRecDepth 100000 in
theorem v44_46 (n d : Nat) (L : List (Option mL)) (S : List mV) (M : Mm) (Q : mQ) : vc (n + 1) d 44 46 L S M Q = (pI S fun x S => S = [] ∧ (0 = 0 ∨ x = 0 ∨ x = 1) ∧ Q (some (.inl x)) M) := nr rfl
set_option maxRecDepth 100000 in
theorem v44_47 (n d : Nat) (L : List (Option mL)) (S : List mV) (M : Mm) (Q : mQ) : vc (n + 1) d 44 47 L S M Q = (gR L 0 fun x => vc n d 44 48 L (.inr (.inr x) :: S) M Q) := nr rfl
set_option maxRecDepth 100000 in
theorem v44_48 (n d : Nat) (L : List (Option mL)) (S : List mV) (M : Mm) (Q : mQ) : vc (n + 1) d 44 48 L S M Q = (pA S fun a S => shO M a 0 (rrf M a 8 fun r => vc n d 44 51 L (.inr (.inr r) :: S) M Q)) := nr rfl
set_option maxRecDepth 100000 in
theorem v44_51 (n d : Nat) (L : List (Option mL)) (S : List mV) (M : Mm) (Q : mQ) : vc (n + 1) d 44 51 L S M Q = (pAs 0 S fun as S => pA S fun a S => shO M a 1 (stk S ≤ 8 ∧ XC d 32 (.inr (some a) :: as) M (fun r M => r = none ∧ X d 44 54 L S M Q))) := nr rfl
set_option maxRecDepth 100000 in
theorem v44_54 (n d : Nat) (L : List (Option mL)) (S : List mV) (M : Mm) (Q : mQ) : vc (n + 1) d 44 54 L S M Q = (gR L 0 fun x => vc n d 44 55 L (.inr (.inr x) :: S) M Q) := nr rfl
set_option maxRecDepth 100000 in
theorem v44_55 (n d : Nat) (L : List (Option mL)) (S : List mV) (M : Mm) (Q : mQ) : vc (n + 1) d 44 55 L S M Q = (pA S fun a S => shO M a 0 (rrf M a 8 fun r => vc n d 44 58 L (.inr (.inr r) :: S) M Q)) := nr rfl
set_option maxRecDepth 100000 in
theorem v44_58 (n d : Nat) (L : List (Option mL)) (S : List mV) (M : Mm) (Q : mQ) : vc (n + 1) d 44 58 L S M Q = (gR L 0 fun x => vc n d 44 59 L (.inr (.inr x) :: S) M Q) := nr rfl
set_option maxRecDepth 100000 in
theorem v44_59 (n d : Nat) (L : List (Option mL)) (S : List mV) (M : Mm) (Q : mQ) : vc (n + 1) d 44 59 L S M Q = (pA S fun a S => shO M a 0 (rrf M a 6 fun r => vc n d 44 62 L (.inr (.inr r) :: S) M Q)) := nr rfl
set_option maxRecDepth 100000 in
theorem v44_62 (n d : Nat) (L : List (Option mL)) (S : List mV) (M : Mm) (Q : mQ) : vc (n + 1) d 44 62 L S M Q = (gI L 2 fun x => vc n d 44 63 L (.inl x :: S) M Q) := nr rfl
set_option maxRecDepth 100000 in
theorem v44_63 (n d : Nat) (L : List (Option mL)) (S : List mV) (M : Mm) (Q : mQ) : vc (n + 1) d 44 63 L S M Q = (pAs 2 S fun as S => pA S fun a S => shO M a 1 (stk S ≤ 8 ∧ XC d 45 (.inr (some a) :: as) M (fun r M => r = none ∧ X d 44 66 L S M Q))) := nr rfl
set_option maxRecDepth 100000 in
theorem v44_66 (n d : Nat) (L : List (Option mL)) (S : List mV) (M : Mm) (Q : mQ) : vc (n + 1) d 44 66 L S M Q = (gR L 0 fun x => vc n d 44 67 L (.inr (.inr x) :: S) M Q) := nr rfl
set_option maxRecDepth 100000 in
theorem v44_67 (n d : Nat) (L : List (Option mL)) (S : List mV) (M : Mm) (Q : mQ) : vc (n + 1) d 44 67 L S M Q = (pA S fun a S => shO M a 0 (rrf M a 6 fun r => vc n d 44 70 L (.inr (.inr r) :: S) M Q)) := nr rfl
set_option maxRecDepth 100000 in
theorem v44_70 (n d : Nat) (L : List (Option mL)) (S : List mV) (M : Mm) (Q : mQ) : vc (n + 1) d 44 70 L S M Q = (pAs 0 S fun as S => pA S fun a S => shO M a 1 (stk S ≤ 8 ∧ XC d 32 (.inr (some a) :: as) M (fun r M => r = none ∧ X d 44 73 L S M Q))) := nr rfl
set_option maxRecDepth 100000 in
theorem v44_73 (n d : Nat) (L : List (Option mL)) (S : List mV) (M : Mm) (Q : mQ) : vc (n + 1) d 44 73 L S M Q = (gI L 2 fun x => vc n d 44 74 L (.inl x :: S) M Q) := nr rfl
set_option maxRecDepth 100000 in
theorem v44_74 (n d : Nat) (L : List (Option mL)) (S : List mV) (M : Mm) (Q : mQ) : vc (n + 1) d 44 74 L S M Q = (pAs 1 S fun as S => stk S ≤ 8 ∧ XC d 29 as M (fun r M => ∃ x : Int32, r = some (.inl x) ∧ X d 44 77 L (.inl x :: S) M Q)) := nr rfl
set_option maxRecDepth 100000 in
theorem v44_77 (n d : Nat) (L : List (Option mL)) (S : List mV) (M : Mm) (Q : mQ) : vc (n + 1) d 44 77 L S M Q = (pI S fun x S => sL L 3 (some (.inl x)) fun L => vc n d 44 78 L S M Q) := nr rfl
set_option maxRecDepth 100000 in
theorem v44_78 (n d : Nat) (L : List (Option mL)) (S : List mV) (M : Mm) (Q : mQ) : vc (n + 1) d 44 78 L S M Q = (gR L 0 fun x => vc n d 44 79 L (.inr (.inr x) :: S) M Q) := nr rfl
set_option maxRecDepth 100000 in
theorem v44_79 (n d : Nat) (L : List (Option mL)) (S : List mV) (M : Mm) (Q : mQ) : vc (n + 1) d 44 79 L S M Q = (pA S fun a S => shO M a 0 (rrf M a 4 fun r => vc n d 44 82 L (.inr (.inr r) :: S) M Q)) := nr rfl
set_option maxRecDepth 100000 in
theorem v44_82 (n d : Nat) (L : List (Option mL)) (S : List mV) (M : Mm) (Q : mQ) : vc (n + 1) d 44 82 L S M Q = (gR L 0 fun x => vc n d 44 83 L (.inr (.inr x) :: S) M Q) := nr rfl
set_option maxRecDepth 100000 in
theorem v44_83 (n d : Nat) (L : List (Option mL)) (S : List mV) (M : Mm) (Q : mQ) : vc (n + 1) d 44 83 L S M Q = (pA S fun a S => shO M a 0 (rrf M a 3 fun r => vc n d 44 86 L (.inr (.inr r) :: S) M Q)) := nr rfl
set_option maxRecDepth 100000 in
theorem v44_86 (n d : Nat) (L : List (Option mL)) (S : List mV) (M : Mm) (Q : mQ) : vc (n + 1) d 44 86 L S M Q = (pAs 1 S fun as S => pA S fun a S => shO M a 6 (stk S ≤ 8 ∧ XC d 46 (.inr (some a) :: as) M (fun r M => r = none ∧ X d 44 89 L S M Q))) := nr rfl
set_option maxRecDepth 100000 in
theorem v44_89 (n d : Nat) (L : List (Option mL)) (S : List mV) (M : Mm) (Q : mQ) : vc (n + 1) d 44 89 L S M Q = (gR L 0 fun x => vc n d 44 90 L (.inr (.inr x) :: S) M Q) := nr rfl
set_option maxRecDepth 100000 in
theorem v44_90 (n d : Nat) (L : List (Option mL)) (S : List mV) (M : Mm) (Q : mQ) : vc (n + 1) d 44 90 L S M Q = (pA S fun a S => shO M a 0 (rrf M a 4 fun r => vc n d 44 93 L (.inr (.inr r) :: S) M Q)) := nr rfl
set_option maxRecDepth 100000 in
theorem v44_93 (n d : Nat) (L : List (Option mL)) (S : List mV) (M : Mm) (Q : mQ) : vc (n + 1) d 44 93 L S M Q = (gI L 3 fun x => vc n d 44 94 L (.inl x :: S) M Q) := nr rfl
set_option maxRecDepth 100000 in
theorem v44_94 (n d : Nat) (L : List (Option mL)) (S : List mV) (M : Mm) (Q : mQ) : vc (n + 1) d 44 94 L S M Q = (vc n d 44 95 L (.inl 3 :: S) M Q) := nr rfl
set_option maxRecDepth 100000 in
theorem v44_95 (n d : Nat) (L : List (Option mL)) (S : List mV) (M : Mm) (Q : mQ) : vc (n + 1) d 44 95 L S M Q = (pAs 2 S fun as S => pA S fun a S => shO M a 6 (stk S ≤ 8 ∧ XC d 47 (.inr (some a) :: as) M (fun r M => ∃ x : Int32, r = some (.inl x) ∧ X d 44 98 L (.inl x :: S) M Q))) := nr rfl
set_option maxRecDepth 100000 in
theorem v44_98 (n d : Nat) (L : List (Option mL)) (S : List mV) (M : Mm) (Q : mQ) : vc (n + 1) d 44 98 L S M Q = (vc n d 44 99 L (.inl (-1) :: S) M Q) := nr rfl
set_option maxRecDepth 100000 in
theorem v44_99 (n d : Nat) (L : List (Option mL)) (S : List mV) (M : Mm) (Q : mQ) : vc (n + 1) d 44 99 L S M Q = (pI S fun y S => pI S fun x S => (¬ x = y → vc n d 44 105 L S M Q) ∧ (¬ (¬ x = y) → vc n d 44 102 L S M Q)) := nr rfl
set_option maxRecDepth 100000 in
theorem v44_102 (n d : Nat) (L : List (Option mL)) (S : List mV) (M : Mm) (Q : mQ) : vc (n + 1) d 44 102 L S M Q = (vc n d 44 104 L (.inl (-2) :: S) M Q) := nr rfl
set_option maxRecDepth 100000 in
theorem v44_104 (n d : Nat) (L : List (Option mL)) (S : List mV) (M : Mm) (Q : mQ) : vc (n + 1) d 44 104 L S M Q = (pI S fun x S => S = [] ∧ (0 = 0 ∨ x = 0 ∨ x = 1) ∧ Q (some (.inl x)) M) := nr rfl
set_option maxRecDepth 100000 in
theorem v44_105 (n d : Nat) (L : List (Option mL)) (S : List mV) (M : Mm) (Q : mQ) : vc (n + 1) d 44 105 L S M Q = (gR L 0 fun x => vc n d 44 106 L (.inr (.inr x) :: S) M Q) := nr rfl
set_option maxRecDepth 100000 in
theorem v44_106 (n d : Nat) (L : List (Option mL)) (S : List mV) (M : Mm) (Q : mQ) : vc (n + 1) d 44 106 L S M Q = (pA S fun a S => shO M a 0 (rrf M a 1 fun r => vc n d 44 109 L (.inr (.inr r) :: S) M Q)) := nr rfl
set_option maxRecDepth 100000 in
theorem v44_109 (n d : Nat) (L : List (Option mL)) (S : List mV) (M : Mm) (Q : mQ) : vc (n + 1) d 44 109 L S M Q = (gI L 3 fun x => vc n d 44 110 L (.inl x :: S) M Q) := nr rfl
set_option maxRecDepth 100000 in
theorem v44_110 (n d : Nat) (L : List (Option mL)) (S : List mV) (M : Mm) (Q : mQ) : vc (n + 1) d 44 110 L S M Q = (pAs 1 S fun as S => pA S fun a S => shO M a 7 (stk S ≤ 8 ∧ XC d 51 (.inr (some a) :: as) M (fun r M => ∃ x : Int32, r = some (.inl x) ∧ X d 44 113 L (.inl x :: S) M Q))) := nr rfl
set_option maxRecDepth 100000 in
theorem v44_113 (n d : Nat) (L : List (Option mL)) (S : List mV) (M : Mm) (Q : mQ) : vc (n + 1) d 44 113 L S M Q = (pI S fun x S => (¬ x = 0 → vc n d 44 119 L S M Q) ∧ (¬ (¬ x = 0) → vc n d 44 116 L S M Q)) := nr rfl
set_option maxRecDepth 100000 in
theorem v44_116 (n d : Nat) (L : List (Option mL)) (S : List mV) (M : Mm) (Q : mQ) : vc (n + 1) d 44 116 L S M Q = (vc n d 44 118 L (.inl (-3) :: S) M Q) := nr rfl
set_option maxRecDepth 100000 in
theorem v44_118 (n d : Nat) (L : List (Option mL)) (S : List mV) (M : Mm) (Q : mQ) : vc (n + 1) d 44 118 L S M Q = (pI S fun x S => S = [] ∧ (0 = 0 ∨ x = 0 ∨ x = 1) ∧ Q (some (.inl x)) M) := nr rfl
set_option maxRecDepth 100000 in
theorem v44_119 (n d : Nat) (L : List (Option mL)) (S : List mV) (M : Mm) (Q : mQ) : vc (n + 1) d 44 119 L S M Q = (gR L 0 fun x => vc n d 44 120 L (.inr (.inr x) :: S) M Q) := nr rfl
set_option maxRecDepth 100000 in
theorem v44_120 (n d : Nat) (L : List (Option mL)) (S : List mV) (M : Mm) (Q : mQ) : vc (n + 1) d 44 120 L S M Q = (pA S fun a S => shO M a 0 (rrf M a 5 fun r => vc n d 44 123 L (.inr (.inr r) :: S) M Q)) := nr rfl
set_option maxRecDepth 100000 in
theorem v44_123 (n d : Nat) (L : List (Option mL)) (S : List mV) (M : Mm) (Q : mQ) : vc (n + 1) d 44 123 L S M Q = (pA S fun a S => shO M a 5 (rrf M a 0 fun r => vc n d 44 126 L (.inr (.inr r) :: S) M Q)) := nr rfl
set_option maxRecDepth 100000 in
theorem v44_126 (n d : Nat) (L : List (Option mL)) (S : List mV) (M : Mm) (Q : mQ) : vc (n + 1) d 44 126 L S M Q = (gI L 1 fun x => vc n d 44 127 L (.inl x :: S) M Q) := nr rfl
set_option maxRecDepth 100000 in
theorem v44_127 (n d : Nat) (L : List (Option mL)) (S : List mV) (M : Mm) (Q : mQ) : vc (n + 1) d 44 127 L S M Q = (gR L 0 fun x => vc n d 44 128 L (.inr (.inr x) :: S) M Q) := nr rfl
set_option maxRecDepth 100000 in
theorem v44_128 (n d : Nat) (L : List (Option mL)) (S : List mV) (M : Mm) (Q : mQ) : vc (n + 1) d 44 128 L S M Q = (vc n d 44 129 L (.inl 1 :: S) M Q) := nr rfl
set_option maxRecDepth 100000 in
theorem v44_129 (n d : Nat) (L : List (Option mL)) (S : List mV) (M : Mm) (Q : mQ) : vc (n + 1) d 44 129 L S M Q = (gI L 1 fun x => vc n d 44 130 L (.inl x :: S) M Q) := nr rfl
set_option maxRecDepth 100000 in
theorem v44_130 (n d : Nat) (L : List (Option mL)) (S : List mV) (M : Mm) (Q : mQ) : vc (n + 1) d 44 130 L S M Q = (vc n d 44 131 L (.inl 3 :: S) M Q) := nr rfl
set_option maxRecDepth 100000 in
theorem v44_131 (n d : Nat) (L : List (Option mL)) (S : List mV) (M : Mm) (Q : mQ) : vc (n + 1) d 44 131 L S M Q = (pAs 3 S fun as S => pA S fun a S => shO M a 0 (stk S ≤ 8 ∧ XC d 52 (.inr (some a) :: as) M (fun r M => ∃ x : Int32, r = some (.inl x) ∧ X d 44 134 L (.inl x :: S) M Q))) := nr rfl
set_option maxRecDepth 100000 in
theorem v44_134 (n d : Nat) (L : List (Option mL)) (S : List mV) (M : Mm) (Q : mQ) : vc (n + 1) d 44 134 L S M Q = (pAs 2 S fun as S => pA S fun a S => shO M a 4 (stk S ≤ 8 ∧ XC d 38 (.inr (some a) :: as) M (fun r M => r = none ∧ X d 44 137 L S M Q))) := nr rfl
set_option maxRecDepth 100000 in
theorem v44_137 (n d : Nat) (L : List (Option mL)) (S : List mV) (M : Mm) (Q : mQ) : vc (n + 1) d 44 137 L S M Q = (gR L 0 fun x => vc n d 44 138 L (.inr (.inr x) :: S) M Q) := nr rfl
set_option maxRecDepth 100000 in
theorem v44_138 (n d : Nat) (L : List (Option mL)) (S : List mV) (M : Mm) (Q : mQ) : vc (n + 1) d 44 138 L S M Q = (pC S fun v S => vc n d 44 139 L (v :: v :: S) M Q) := nr rfl
set_option maxRecDepth 100000 in
theorem v44_139 (n d : Nat) (L : List (Option mL)) (S : List mV) (M : Mm) (Q : mQ) : vc (n + 1) d 44 139 L S M Q = (pA S fun a S => shO M a 0 (vc n d 44 142 L (.inl (M.it a 17) :: S) M Q)) := nr rfl
set_option maxRecDepth 100000 in
theorem v44_142 (n d : Nat) (L : List (Option mL)) (S : List mV) (M : Mm) (Q : mQ) : vc (n + 1) d 44 142 L S M Q = (vc n d 44 143 L (.inl 1 :: S) M Q) := nr rfl
set_option maxRecDepth 100000 in
theorem v44_143 (n d : Nat) (L : List (Option mL)) (S : List mV) (M : Mm) (Q : mQ) : vc (n + 1) d 44 143 L S M Q = (pI S fun y S => pI S fun x S => vc n d 44 144 L (.inl (x + y) :: S) M Q) := nr rfl
set_option maxRecDepth 100000 in
theorem v44_144 (n d : Nat) (L : List (Option mL)) (S : List mV) (M : Mm) (Q : mQ) : vc (n + 1) d 44 144 L S M Q = (pI S fun x S => pA S fun a S => shO M a 0 (vc n d 44 147 L S (M.si a 17 x) Q)) := nr rfl
set_option maxRecDepth 100000 in
theorem v44_147 (n d : Nat) (L : List (Option mL)) (S : List mV) (M : Mm) (Q : mQ) : vc (n + 1) d 44 147 L S M Q = (gR L 0 fun x => vc n d 44 148 L (.inr (.inr x) :: S) M Q) := nr rfl
set_option maxRecDepth 100000 in
theorem v44_148 (n d : Nat) (L : List (Option mL)) (S : List mV) (M : Mm) (Q : mQ) : vc (n + 1) d 44 148 L S M Q = (pA S fun a S => shO M a 0 (vc n d 44 151 L (.inl (M.it a 17) :: S) M Q)) := nr rfl
set_option maxRecDepth 100000 in
theorem v44_151 (n d : Nat) (L : List (Option mL)) (S : List mV) (M : Mm) (Q : mQ) : vc (n + 1) d 44 151 L S M Q = (pI S fun x S => S = [] ∧ (0 = 0 ∨ x = 0 ∨ x = 1) ∧ Q (some (.inl x)) M) := nr rfl
set_option maxRecDepth 100000 in
theorem v45_0 (n d : Nat) (L : List (Option mL)) (S : List mV) (M : Mm) (Q : mQ) : vc (n + 1) d 45 0 L S M Q = (vc n d 45 1 L (.inl 0 :: S) M Q) := nr rfl
set_option maxRecDepth 100000 in
theorem v45_1 (n d : Nat) (L : List (Option mL)) (S : List mV) (M : Mm) (Q : mQ) : vc (n + 1) d 45 1 L S M Q = (pI S fun x S => sL L 3 (some (.inl x)) fun L => X d 45 2 L S M Q) := nr rfl
set_option maxRecDepth 100000 in
theorem v45_2 (n d : Nat) (L : List (Option mL)) (S : List mV) (M : Mm) (Q : mQ) : vc (n + 1) d 45 2 L S M Q = (gI L 3 fun x => vc n d 45 3 L (.inl x :: S) M Q) := nr rfl
set_option maxRecDepth 100000 in
theorem v45_3 (n d : Nat) (L : List (Option mL)) (S : List mV) (M : Mm) (Q : mQ) : vc (n + 1) d 45 3 L S M Q = (gI L 2 fun x => vc n d 45 4 L (.inl x :: S) M Q) := nr rfl
set_option maxRecDepth 100000 in
theorem v45_4 (n d : Nat) (L : List (Option mL)) (S : List mV) (M : Mm) (Q : mQ) : vc (n + 1) d 45 4 L S M Q = (pI S fun y S => pI S fun x S => (y ≤ x → vc n d 45 31 L S M Q) ∧ (¬ (y ≤ x) → vc n d 45 7 L S M Q)) := nr rfl
set_option maxRecDepth 100000 in
theorem v45_7 (n d : Nat) (L : List (Option mL)) (S : List mV) (M : Mm) (Q : mQ) : vc (n + 1) d 45 7 L S M Q = (gI L 3 fun x => vc n d 45 8 L (.inl x :: S) M Q) := nr rfl
set_option maxRecDepth 100000 in
theorem v45_8 (n d : Nat) (L : List (Option mL)) (S : List mV) (M : Mm) (Q : mQ) : vc (n + 1) d 45 8 L S M Q = (gR L 1 fun x => vc n d 45 9 L (.inr (.inr x) :: S) M Q) := nr rfl
set_option maxRecDepth 100000 in
theorem v45_9 (n d : Nat) (L : List (Option mL)) (S : List mV) (M : Mm) (Q : mQ) : vc (n + 1) d 45 9 L S M Q = (pA S fun a S => shO M a 1 (vc n d 45 12 L (.inl (M.it a 1) :: S) M Q)) := nr rfl
set_option maxRecDepth 100000 in
theorem v45_12 (n d : Nat) (L : List (Option mL)) (S : List mV) (M : Mm) (Q : mQ) : vc (n + 1) d 45 12 L S M Q = (pI S fun y S => pI S fun x S => (y ≤ x → vc n d 45 31 L S M Q) ∧ (¬ (y ≤ x) → vc n d 45 15 L S M Q)) := nr rfl
set_option maxRecDepth 100000 in
theorem v45_15 (n d : Nat) (L : List (Option mL)) (S : List mV) (M : Mm) (Q : mQ) : vc (n + 1) d 45 15 L S M Q = (gR L 0 fun x => vc n d 45 16 L (.inr (.inr x) :: S) M Q) := nr rfl
set_option maxRecDepth 100000 in
theorem v45_16 (n d : Nat) (L : List (Option mL)) (S : List mV) (M : Mm) (Q : mQ) : vc (n + 1) d 45 16 L S M Q = (gR L 1 fun x => vc n d 45 17 L (.inr (.inr x) :: S) M Q) := nr rfl
set_option maxRecDepth 100000 in
theorem v45_17 (n d : Nat) (L : List (Option mL)) (S : List mV) (M : Mm) (Q : mQ) : vc (n + 1) d 45 17 L S M Q = (pA S fun a S => shO M a 1 (rrf M a 0 fun r => vc n d 45 20 L (.inr (.inr r) :: S) M Q)) := nr rfl
set_option maxRecDepth 100000 in
theorem v45_20 (n d : Nat) (L : List (Option mL)) (S : List mV) (M : Mm) (Q : mQ) : vc (n + 1) d 45 20 L S M Q = (gI L 3 fun x => vc n d 45 21 L (.inl x :: S) M Q) := nr rfl
set_option maxRecDepth 100000 in
theorem v45_21 (n d : Nat) (L : List (Option mL)) (S : List mV) (M : Mm) (Q : mQ) : vc (n + 1) d 45 21 L S M Q = (pI S fun i S => pA S fun a S => shA M a fun t k => (t = 40 ∨ t = 41) ∧ inB i k ∧ vc n d 45 22 L (.inl (M.it a i.toNatClampNeg) :: S) M Q) := nr rfl
set_option maxRecDepth 100000 in
theorem v45_22 (n d : Nat) (L : List (Option mL)) (S : List mV) (M : Mm) (Q : mQ) : vc (n + 1) d 45 22 L S M Q = (pAs 1 S fun as S => pA S fun a S => shO M a 1 (stk S ≤ 8 ∧ XC d 33 (.inr (some a) :: as) M (fun r M => r = none ∧ X d 45 25 L S M Q))) := nr rfl
set_option maxRecDepth 100000 in
theorem v45_25 (n d : Nat) (L : List (Option mL)) (S : List mV) (M : Mm) (Q : mQ) : vc (n + 1) d 45 25 L S M Q = (gI L 3 fun x => sL L 3 (some (.inl (x + 1))) fun L => vc n d 45 28 L S M Q) := nr rfl
set_option maxRecDepth 100000 in
theorem v45_28 (n d : Nat) (L : List (Option mL)) (S : List mV) (M : Mm) (Q : mQ) : vc (n + 1) d 45 28 L S M Q = (X d 45 2 L S M Q) := nr rfl
set_option maxRecDepth 100000 in
theorem v45_31 (n d : Nat) (L : List (Option mL)) (S : List mV) (M : Mm) (Q : mQ) : vc (n + 1) d 45 31 L S M Q = (S = [] ∧ Q none M) := nr rfl
set_option maxRecDepth 100000 in
theorem v46_0 (n d : Nat) (L : List (Option mL)) (S : List mV) (M : Mm) (Q : mQ) : vc (n + 1) d 46 0 L S M Q = (vc n d 46 1 L (.inl 0 :: S) M Q) := nr rfl
set_option maxRecDepth 100000 in
theorem v46_1 (n d : Nat) (L : List (Option mL)) (S : List mV) (M : Mm) (Q : mQ) : vc (n + 1) d 46 1 L S M Q = (pI S fun x S => sL L 2 (some (.inl x)) fun L => X d 46 2 L S M Q) := nr rfl
set_option maxRecDepth 100000 in
theorem v46_2 (n d : Nat) (L : List (Option mL)) (S : List mV) (M : Mm) (Q : mQ) : vc (n + 1) d 46 2 L S M Q = (gI L 2 fun x => vc n d 46 3 L (.inl x :: S) M Q) := nr rfl
set_option maxRecDepth 100000 in
theorem v46_3 (n d : Nat) (L : List (Option mL)) (S : List mV) (M : Mm) (Q : mQ) : vc (n + 1) d 46 3 L S M Q = (vc n d 46 5 L (.inl 8 :: S) M Q) := nr rfl
set_option maxRecDepth 100000 in
theorem v46_5 (n d : Nat) (L : List (Option mL)) (S : List mV) (M : Mm) (Q : mQ) : vc (n + 1) d 46 5 L S M Q = (pI S fun y S => pI S fun x S => (y ≤ x → vc n d 46 26 L S M Q) ∧ (¬ (y ≤ x) → vc n d 46 8 L S M Q)) := nr rfl
set_option maxRecDepth 100000 in
theorem v46_8 (n d : Nat) (L : List (Option mL)) (S : List mV) (M : Mm) (Q : mQ) : vc (n + 1) d 46 8 L S M Q = (gR L 0 fun x => vc n d 46 9 L (.inr (.inr x) :: S) M Q) := nr rfl
set_option maxRecDepth 100000 in
theorem v46_9 (n d : Nat) (L : List (Option mL)) (S : List mV) (M : Mm) (Q : mQ) : vc (n + 1) d 46 9 L S M Q = (pA S fun a S => shO M a 6 (rrf M a 0 fun r => vc n d 46 12 L (.inr (.inr r) :: S) M Q)) := nr rfl
set_option maxRecDepth 100000 in
theorem v46_12 (n d : Nat) (L : List (Option mL)) (S : List mV) (M : Mm) (Q : mQ) : vc (n + 1) d 46 12 L S M Q = (gI L 2 fun x => vc n d 46 13 L (.inl x :: S) M Q) := nr rfl
set_option maxRecDepth 100000 in
theorem v46_13 (n d : Nat) (L : List (Option mL)) (S : List mV) (M : Mm) (Q : mQ) : vc (n + 1) d 46 13 L S M Q = (gR L 1 fun x => vc n d 46 14 L (.inr (.inr x) :: S) M Q) := nr rfl
set_option maxRecDepth 100000 in
theorem v46_14 (n d : Nat) (L : List (Option mL)) (S : List mV) (M : Mm) (Q : mQ) : vc (n + 1) d 46 14 L S M Q = (pA S fun a S => shO M a 6 (rrf M a 0 fun r => vc n d 46 17 L (.inr (.inr r) :: S) M Q)) := nr rfl
set_option maxRecDepth 100000 in
theorem v46_17 (n d : Nat) (L : List (Option mL)) (S : List mV) (M : Mm) (Q : mQ) : vc (n + 1) d 46 17 L S M Q = (gI L 2 fun x => vc n d 46 18 L (.inl x :: S) M Q) := nr rfl
set_option maxRecDepth 100000 in
theorem v46_18 (n d : Nat) (L : List (Option mL)) (S : List mV) (M : Mm) (Q : mQ) : vc (n + 1) d 46 18 L S M Q = (pI S fun i S => pA S fun a S => shA M a fun t k => (t = 40 ∨ t = 41) ∧ inB i k ∧ vc n d 46 19 L (.inl (M.it a i.toNatClampNeg) :: S) M Q) := nr rfl
set_option maxRecDepth 100000 in
theorem v46_19 (n d : Nat) (L : List (Option mL)) (S : List mV) (M : Mm) (Q : mQ) : vc (n + 1) d 46 19 L S M Q = (pI S fun x S => pI S fun i S => pA S fun a S => shA M a fun t k => t = 41 ∧ inB i k ∧ vc n d 46 20 L S (M.si a i.toNatClampNeg x) Q) := nr rfl
set_option maxRecDepth 100000 in
theorem v46_20 (n d : Nat) (L : List (Option mL)) (S : List mV) (M : Mm) (Q : mQ) : vc (n + 1) d 46 20 L S M Q = (gI L 2 fun x => sL L 2 (some (.inl (x + 1))) fun L => vc n d 46 23 L S M Q) := nr rfl
set_option maxRecDepth 100000 in
theorem v46_23 (n d : Nat) (L : List (Option mL)) (S : List mV) (M : Mm) (Q : mQ) : vc (n + 1) d 46 23 L S M Q = (X d 46 2 L S M Q) := nr rfl
set_option maxRecDepth 100000 in
theorem v46_26 (n d : Nat) (L : List (Option mL)) (S : List mV) (M : Mm) (Q : mQ) : vc (n + 1) d 46 26 L S M Q = (gR L 0 fun x => vc n d 46 27 L (.inr (.inr x) :: S) M Q) := nr rfl
set_option maxRecDepth 100000 in
theorem v46_27 (n d : Nat) (L : List (Option mL)) (S : List mV) (M : Mm) (Q : mQ) : vc (n + 1) d 46 27 L S M Q = (gR L 1 fun x => vc n d 46 28 L (.inr (.inr x) :: S) M Q) := nr rfl
set_option maxRecDepth 100000 in
theorem v46_28 (n d : Nat) (L : List (Option mL)) (S : List mV) (M : Mm) (Q : mQ) : vc (n + 1) d 46 28 L S M Q = (pA S fun a S => shO M a 6 (vc n d 46 31 L (.inl (M.it a 1) :: S) M Q)) := nr rfl
set_option maxRecDepth 100000 in
theorem v46_31 (n d : Nat) (L : List (Option mL)) (S : List mV) (M : Mm) (Q : mQ) : vc (n + 1) d 46 31 L S M Q = (pI S fun x S => pA S fun a S => shO M a 6 (vc n d 46 34 L S (M.si a 1 x) Q)) := nr rfl
set_option maxRecDepth 100000 in
theorem v46_34 (n d : Nat) (L : List (Option mL)) (S : List mV) (M : Mm) (Q : mQ) : vc (n + 1) d 46 34 L S M Q = (S = [] ∧ Q none M) := nr rfl
set_option maxRecDepth 100000 in
theorem v47_0 (n d : Nat) (L : List (Option mL)) (S : List mV) (M : Mm) (Q : mQ) : vc (n + 1) d 47 0 L S M Q = (gI L 1 fun x => vc n d 47 1 L (.inl x :: S) M Q) := nr rfl
set_option maxRecDepth 100000 in
theorem v47_1 (n d : Nat) (L : List (Option mL)) (S : List mV) (M : Mm) (Q : mQ) : vc (n + 1) d 47 1 L S M Q = (vc n d 47 3 L (.inl 16 :: S) M Q) := nr rfl
set_option maxRecDepth 100000 in
theorem v47_3 (n d : Nat) (L : List (Option mL)) (S : List mV) (M : Mm) (Q : mQ) : vc (n + 1) d 47 3 L S M Q = (pI S fun y S => pI S fun x S => (x ≤ y → vc n d 47 8 L S M Q) ∧ (¬ (x ≤ y) → vc n d 47 6 L S M Q)) := nr rfl
set_option maxRecDepth 100000 in
theorem v47_6 (n d : Nat) (L : List (Option mL)) (S : List mV) (M : Mm) (Q : mQ) : vc (n + 1) d 47 6 L S M Q = (vc n d 47 7 L (.inl (-1) :: S) M Q) := nr rfl
set_option maxRecDepth 100000 in
theorem v47_7 (n d : Nat) (L : List (Option mL)) (S : List mV) (M : Mm) (Q : mQ) : vc (n + 1) d 47 7 L S M Q = (pI S fun x S => S = [] ∧ (0 = 0 ∨ x = 0 ∨ x = 1) ∧ Q (some (.inl x)) M) := nr rfl
set_option maxRecDepth 100000 in
theorem v47_8 (n d : Nat) (L : List (Option mL)) (S : List mV) (M : Mm) (Q : mQ) : vc (n + 1) d 47 8 L S M Q = (gR L 0 fun x => vc n d 47 9 L (.inr (.inr x) :: S) M Q) := nr rfl
set_option maxRecDepth 100000 in
theorem v47_9 (n d : Nat) (L : List (Option mL)) (S : List mV) (M : Mm) (Q : mQ) : vc (n + 1) d 47 9 L S M Q = (pA S fun a S => shO M a 6 (vc n d 47 12 L (.inl (M.it a 1) :: S) M Q)) := nr rfl
set_option maxRecDepth 100000 in
theorem v47_12 (n d : Nat) (L : List (Option mL)) (S : List mV) (M : Mm) (Q : mQ) : vc (n + 1) d 47 12 L S M Q = (pAs 1 S fun as S => stk S ≤ 8 ∧ XC d 40 as M (fun r M => ∃ x : Int32, r = some (.inl x) ∧ X d 47 15 L (.inl x :: S) M Q)) := nr rfl
set_option maxRecDepth 100000 in
theorem v47_15 (n d : Nat) (L : List (Option mL)) (S : List mV) (M : Mm) (Q : mQ) : vc (n + 1) d 47 15 L S M Q = (pI S fun x S => (x = 0 → X d 47 34 L S M Q) ∧ (¬ (x = 0) → vc n d 47 18 L S M Q)) := nr rfl
set_option maxRecDepth 100000 in
theorem v47_18 (n d : Nat) (L : List (Option mL)) (S : List mV) (M : Mm) (Q : mQ) : vc (n + 1) d 47 18 L S M Q = (gR L 0 fun x => vc n d 47 19 L (.inr (.inr x) :: S) M Q) := nr rfl
set_option maxRecDepth 100000 in
theorem v47_19 (n d : Nat) (L : List (Option mL)) (S : List mV) (M : Mm) (Q : mQ) : vc (n + 1) d 47 19 L S M Q = (pA S fun a S => shO M a 6 (rrf M a 0 fun r => vc n d 47 22 L (.inr (.inr r) :: S) M Q)) := nr rfl
set_option maxRecDepth 100000 in
theorem v47_22 (n d : Nat) (L : List (Option mL)) (S : List mV) (M : Mm) (Q : mQ) : vc (n + 1) d 47 22 L S M Q = (gR L 0 fun x => vc n d 47 23 L (.inr (.inr x) :: S) M Q) := nr rfl
set_option maxRecDepth 100000 in
theorem v47_23 (n d : Nat) (L : List (Option mL)) (S : List mV) (M : Mm) (Q : mQ) : vc (n + 1) d 47 23 L S M Q = (pA S fun a S => shO M a 6 (vc n d 47 26 L (.inl (M.it a 1) :: S) M Q)) := nr rfl
set_option maxRecDepth 100000 in
theorem v47_26 (n d : Nat) (L : List (Option mL)) (S : List mV) (M : Mm) (Q : mQ) : vc (n + 1) d 47 26 L S M Q = (pI S fun i S => pA S fun a S => shA M a fun t k => (t = 40 ∨ t = 41) ∧ inB i k ∧ vc n d 47 27 L (.inl (M.it a i.toNatClampNeg) :: S) M Q) := nr rfl
set_option maxRecDepth 100000 in
theorem v47_27 (n d : Nat) (L : List (Option mL)) (S : List mV) (M : Mm) (Q : mQ) : vc (n + 1) d 47 27 L S M Q = (gI L 1 fun x => vc n d 47 28 L (.inl x :: S) M Q) := nr rfl
set_option maxRecDepth 100000 in
theorem v47_28 (n d : Nat) (L : List (Option mL)) (S : List mV) (M : Mm) (Q : mQ) : vc (n + 1) d 47 28 L S M Q = (pI S fun y S => pI S fun x S => vc n d 47 29 L (.inl (x + y) :: S) M Q) := nr rfl
set_option maxRecDepth 100000 in
theorem v47_29 (n d : Nat) (L : List (Option mL)) (S : List mV) (M : Mm) (Q : mQ) : vc (n + 1) d 47 29 L S M Q = (vc n d 47 31 L (.inl 16 :: S) M Q) := nr rfl
set_option maxRecDepth 100000 in
theorem v47_31 (n d : Nat) (L : List (Option mL)) (S : List mV) (M : Mm) (Q : mQ) : vc (n + 1) d 47 31 L S M Q = (pI S fun y S => pI S fun x S => (x ≤ y → X d 47 52 L S M Q) ∧ (¬ (x ≤ y) → X d 47 34 L S M Q)) := nr rfl
set_option maxRecDepth 100000 in
theorem v47_34 (n d : Nat) (L : List (Option mL)) (S : List mV) (M : Mm) (Q : mQ) : vc (n + 1) d 47 34 L S M Q = (gR L 0 fun x => vc n d 47 35 L (.inr (.inr x) :: S) M Q) := nr rfl
set_option maxRecDepth 100000 in
theorem v47_35 (n d : Nat) (L : List (Option mL)) (S : List mV) (M : Mm) (Q : mQ) : vc (n + 1) d 47 35 L S M Q = (pAs 0 S fun as S => pA S fun a S => shO M a 6 (stk S ≤ 8 ∧ XC d 48 (.inr (some a) :: as) M (fun r M => ∃ x : Int32, r = some (.inl x) ∧ X d 47 38 L (.inl x :: S) M Q))) := nr rfl
set_option maxRecDepth 100000 in
theorem v47_38 (n d : Nat) (L : List (Option mL)) (S : List mV) (M : Mm) (Q : mQ) : vc (n + 1) d 47 38 L S M Q = (gI L 2 fun x => vc n d 47 39 L (.inl x :: S) M Q) := nr rfl
set_option maxRecDepth 100000 in
theorem v47_39 (n d : Nat) (L : List (Option mL)) (S : List mV) (M : Mm) (Q : mQ) : vc (n + 1) d 47 39 L S M Q = (pI S fun y S => pI S fun x S => (y ≤ x → vc n d 47 44 L S M Q) ∧ (¬ (y ≤ x) → vc n d 47 42 L S M Q)) := nr rfl
set_option maxRecDepth 100000 in
theorem v47_42 (n d : Nat) (L : List (Option mL)) (S : List mV) (M : Mm) (Q : mQ) : vc (n + 1) d 47 42 L S M Q = (vc n d 47 43 L (.inl (-1) :: S) M Q) := nr rfl
set_option maxRecDepth 100000 in
theorem v47_43 (n d : Nat) (L : List (Option mL)) (S : List mV) (M : Mm) (Q : mQ) : vc (n + 1) d 47 43 L S M Q = (pI S fun x S => S = [] ∧ (0 = 0 ∨ x = 0 ∨ x = 1) ∧ Q (some (.inl x)) M) := nr rfl
set_option maxRecDepth 100000 in
theorem v47_44 (n d : Nat) (L : List (Option mL)) (S : List mV) (M : Mm) (Q : mQ) : vc (n + 1) d 47 44 L S M Q = (gR L 0 fun x => vc n d 47 45 L (.inr (.inr x) :: S) M Q) := nr rfl
set_option maxRecDepth 100000 in
theorem v47_45 (n d : Nat) (L : List (Option mL)) (S : List mV) (M : Mm) (Q : mQ) : vc (n + 1) d 47 45 L S M Q = (gR L 0 fun x => vc n d 47 46 L (.inr (.inr x) :: S) M Q) := nr rfl
set_option maxRecDepth 100000 in
theorem v47_46 (n d : Nat) (L : List (Option mL)) (S : List mV) (M : Mm) (Q : mQ) : vc (n + 1) d 47 46 L S M Q = (pAs 0 S fun as S => pA S fun a S => shO M a 6 (stk S ≤ 8 ∧ XC d 50 (.inr (some a) :: as) M (fun r M => ∃ x : Int32, r = some (.inl x) ∧ X d 47 49 L (.inl x :: S) M Q))) := nr rfl
set_option maxRecDepth 100000 in
theorem v47_49 (n d : Nat) (L : List (Option mL)) (S : List mV) (M : Mm) (Q : mQ) : vc (n + 1) d 47 49 L S M Q = (pI S fun x S => pA S fun a S => shO M a 6 (X d 47 52 L S (M.si a 1 x) Q)) := nr rfl
set_option maxRecDepth 100000 in
theorem v47_52 (n d : Nat) (L : List (Option mL)) (S : List mV) (M : Mm) (Q : mQ) : vc (n + 1) d 47 52 L S M Q = (gR L 0 fun x => vc n d 47 53 L (.inr (.inr x) :: S) M Q) := nr rfl
set_option maxRecDepth 100000 in
theorem v47_53 (n d : Nat) (L : List (Option mL)) (S : List mV) (M : Mm) (Q : mQ) : vc (n + 1) d 47 53 L S M Q = (pA S fun a S => shO M a 6 (vc n d 47 56 L (.inl (M.it a 1) :: S) M Q)) := nr rfl
set_option maxRecDepth 100000 in
theorem v47_56 (n d : Nat) (L : List (Option mL)) (S : List mV) (M : Mm) (Q : mQ) : vc (n + 1) d 47 56 L S M Q = (pAs 1 S fun as S => stk S ≤ 8 ∧ XC d 40 as M (fun r M => ∃ x : Int32, r = some (.inl x) ∧ X d 47 59 L (.inl x :: S) M Q)) := nr rfl
set_option maxRecDepth 100000 in
theorem v47_59 (n d : Nat) (L : List (Option mL)) (S : List mV) (M : Mm) (Q : mQ) : vc (n + 1) d 47 59 L S M Q = (pI S fun x S => (¬ x = 0 → vc n d 47 64 L S M Q) ∧ (¬ (¬ x = 0) → vc n d 47 62 L S M Q)) := nr rfl
set_option maxRecDepth 100000 in
theorem v47_62 (n d : Nat) (L : List (Option mL)) (S : List mV) (M : Mm) (Q : mQ) : vc (n + 1) d 47 62 L S M Q = (vc n d 47 63 L (.inl (-1) :: S) M Q) := nr rfl
set_option maxRecDepth 100000 in
theorem v47_63 (n d : Nat) (L : List (Option mL)) (S : List mV) (M : Mm) (Q : mQ) : vc (n + 1) d 47 63 L S M Q = (pI S fun x S => S = [] ∧ (0 = 0 ∨ x = 0 ∨ x = 1) ∧ Q (some (.inl x)) M) := nr rfl
set_option maxRecDepth 100000 in
theorem v47_64 (n d : Nat) (L : List (Option mL)) (S : List mV) (M : Mm) (Q : mQ) : vc (n + 1) d 47 64 L S M Q = (gR L 0 fun x => vc n d 47 65 L (.inr (.inr x) :: S) M Q) := nr rfl
set_option maxRecDepth 100000 in
theorem v47_65 (n d : Nat) (L : List (Option mL)) (S : List mV) (M : Mm) (Q : mQ) : vc (n + 1) d 47 65 L S M Q = (pA S fun a S => shO M a 6 (vc n d 47 68 L (.inl (M.it a 1) :: S) M Q)) := nr rfl
set_option maxRecDepth 100000 in
theorem v47_68 (n d : Nat) (L : List (Option mL)) (S : List mV) (M : Mm) (Q : mQ) : vc (n + 1) d 47 68 L S M Q = (vc n d 47 70 L (.inl 16 :: S) M Q) := nr rfl
set_option maxRecDepth 100000 in
theorem v47_70 (n d : Nat) (L : List (Option mL)) (S : List mV) (M : Mm) (Q : mQ) : vc (n + 1) d 47 70 L S M Q = (pI S fun y S => pI S fun x S => vc n d 47 71 L (.inl (x * y) :: S) M Q) := nr rfl
set_option maxRecDepth 100000 in
theorem v47_71 (n d : Nat) (L : List (Option mL)) (S : List mV) (M : Mm) (Q : mQ) : vc (n + 1) d 47 71 L S M Q = (gR L 0 fun x => vc n d 47 72 L (.inr (.inr x) :: S) M Q) := nr rfl
set_option maxRecDepth 100000 in
theorem v47_72 (n d : Nat) (L : List (Option mL)) (S : List mV) (M : Mm) (Q : mQ) : vc (n + 1) d 47 72 L S M Q = (pA S fun a S => shO M a 6 (rrf M a 0 fun r => vc n d 47 75 L (.inr (.inr r) :: S) M Q)) := nr rfl
set_option maxRecDepth 100000 in
theorem v47_75 (n d : Nat) (L : List (Option mL)) (S : List mV) (M : Mm) (Q : mQ) : vc (n + 1) d 47 75 L S M Q = (gR L 0 fun x => vc n d 47 76 L (.inr (.inr x) :: S) M Q) := nr rfl
set_option maxRecDepth 100000 in
theorem v47_76 (n d : Nat) (L : List (Option mL)) (S : List mV) (M : Mm) (Q : mQ) : vc (n + 1) d 47 76 L S M Q = (pA S fun a S => shO M a 6 (vc n d 47 79 L (.inl (M.it a 1) :: S) M Q)) := nr rfl
set_option maxRecDepth 100000 in
theorem v47_79 (n d : Nat) (L : List (Option mL)) (S : List mV) (M : Mm) (Q : mQ) : vc (n + 1) d 47 79 L S M Q = (pI S fun i S => pA S fun a S => shA M a fun t k => (t = 40 ∨ t = 41) ∧ inB i k ∧ vc n d 47 80 L (.inl (M.it a i.toNatClampNeg) :: S) M Q) := nr rfl
set_option maxRecDepth 100000 in
theorem v47_80 (n d : Nat) (L : List (Option mL)) (S : List mV) (M : Mm) (Q : mQ) : vc (n + 1) d 47 80 L S M Q = (pI S fun y S => pI S fun x S => vc n d 47 81 L (.inl (x + y) :: S) M Q) := nr rfl
set_option maxRecDepth 100000 in
theorem v47_81 (n d : Nat) (L : List (Option mL)) (S : List mV) (M : Mm) (Q : mQ) : vc (n + 1) d 47 81 L S M Q = (pI S fun x S => sL L 3 (some (.inl x)) fun L => vc n d 47 82 L S M Q) := nr rfl
set_option maxRecDepth 100000 in
theorem v47_82 (n d : Nat) (L : List (Option mL)) (S : List mV) (M : Mm) (Q : mQ) : vc (n + 1) d 47 82 L S M Q = (gR L 0 fun x => vc n d 47 83 L (.inr (.inr x) :: S) M Q) := nr rfl
set_option maxRecDepth 100000 in
theorem v47_83 (n d : Nat) (L : List (Option mL)) (S : List mV) (M : Mm) (Q : mQ) : vc (n + 1) d 47 83 L S M Q = (pA S fun a S => shO M a 6 (rrf M a 0 fun r => vc n d 47 86 L (.inr (.inr r) :: S) M Q)) := nr rfl
set_option maxRecDepth 100000 in
theorem v47_86 (n d : Nat) (L : List (Option mL)) (S : List mV) (M : Mm) (Q : mQ) : vc (n + 1) d 47 86 L S M Q = (gR L 0 fun x => vc n d 47 87 L (.inr (.inr x) :: S) M Q) := nr rfl
set_option maxRecDepth 100000 in
theorem v47_87 (n d : Nat) (L : List (Option mL)) (S : List mV) (M : Mm) (Q : mQ) : vc (n + 1) d 47 87 L S M Q = (pA S fun a S => shO M a 6 (vc n d 47 90 L (.inl (M.it a 1) :: S) M Q)) := nr rfl
set_option maxRecDepth 100000 in
theorem v47_90 (n d : Nat) (L : List (Option mL)) (S : List mV) (M : Mm) (Q : mQ) : vc (n + 1) d 47 90 L S M Q = (pC S fun v S => pC S fun w S => vc n d 47 91 L (v :: w :: v :: w :: S) M Q) := nr rfl
set_option maxRecDepth 100000 in
theorem v47_91 (n d : Nat) (L : List (Option mL)) (S : List mV) (M : Mm) (Q : mQ) : vc (n + 1) d 47 91 L S M Q = (pI S fun i S => pA S fun a S => shA M a fun t k => (t = 40 ∨ t = 41) ∧ inB i k ∧ vc n d 47 92 L (.inl (M.it a i.toNatClampNeg) :: S) M Q) := nr rfl
set_option maxRecDepth 100000 in
theorem v47_92 (n d : Nat) (L : List (Option mL)) (S : List mV) (M : Mm) (Q : mQ) : vc (n + 1) d 47 92 L S M Q = (gI L 1 fun x => vc n d 47 93 L (.inl x :: S) M Q) := nr rfl
set_option maxRecDepth 100000 in
theorem v47_93 (n d : Nat) (L : List (Option mL)) (S : List mV) (M : Mm) (Q : mQ) : vc (n + 1) d 47 93 L S M Q = (pI S fun y S => pI S fun x S => vc n d 47 94 L (.inl (x + y) :: S) M Q) := nr rfl
set_option maxRecDepth 100000 in
theorem v47_94 (n d : Nat) (L : List (Option mL)) (S : List mV) (M : Mm) (Q : mQ) : vc (n + 1) d 47 94 L S M Q = (pI S fun x S => pI S fun i S => pA S fun a S => shA M a fun t k => t = 41 ∧ inB i k ∧ vc n d 47 95 L S (M.si a i.toNatClampNeg x) Q) := nr rfl
set_option maxRecDepth 100000 in
theorem v47_95 (n d : Nat) (L : List (Option mL)) (S : List mV) (M : Mm) (Q : mQ) : vc (n + 1) d 47 95 L S M Q = (gI L 3 fun x => vc n d 47 96 L (.inl x :: S) M Q) := nr rfl
set_option maxRecDepth 100000 in
theorem v47_96 (n d : Nat) (L : List (Option mL)) (S : List mV) (M : Mm) (Q : mQ) : vc (n + 1) d 47 96 L S M Q = (pI S fun x S => S = [] ∧ (0 = 0 ∨ x = 0 ∨ x = 1) ∧ Q (some (.inl x)) M) := nr rfl
set_option maxRecDepth 100000 in
theorem v48_0 (n d : Nat) (L : List (Option mL)) (S : List mV) (M : Mm) (Q : mQ) : vc (n + 1) d 48 0 L S M Q = (vc n d 48 1 L (.inl 0 :: S) M Q) := nr rfl
set_option maxRecDepth 100000 in
theorem v48_1 (n d : Nat) (L : List (Option mL)) (S : List mV) (M : Mm) (Q : mQ) : vc (n + 1) d 48 1 L S M Q = (pI S fun x S => sL L 1 (some (.inl x)) fun L => vc n d 48 2 L S M Q) := nr rfl
set_option maxRecDepth 100000 in
theorem v48_2 (n d : Nat) (L : List (Option mL)) (S : List mV) (M : Mm) (Q : mQ) : vc (n + 1) d 48 2 L S M Q = (vc n d 48 3 L (.inl 0 :: S) M Q) := nr rfl
set_option maxRecDepth 100000 in
theorem v48_3 (n d : Nat) (L : List (Option mL)) (S : List mV) (M : Mm) (Q : mQ) : vc (n + 1) d 48 3 L S M Q = (pI S fun x S => sL L 2 (some (.inl x)) fun L => X d 48 4 L S M Q) := nr rfl
set_option maxRecDepth 100000 in
theorem v48_4 (n d : Nat) (L : List (Option mL)) (S : List mV) (M : Mm) (Q : mQ) : vc (n + 1) d 48 4 L S M Q = (gI L 2 fun x => vc n d 48 5 L (.inl x :: S) M Q) := nr rfl
set_option maxRecDepth 100000 in
theorem v48_5 (n d : Nat) (L : List (Option mL)) (S : List mV) (M : Mm) (Q : mQ) : vc (n + 1) d 48 5 L S M Q = (vc n d 48 7 L (.inl 8 :: S) M Q) := nr rfl
set_option maxRecDepth 100000 in
theorem v48_7 (n d : Nat) (L : List (Option mL)) (S : List mV) (M : Mm) (Q : mQ) : vc (n + 1) d 48 7 L S M Q = (pI S fun y S => pI S fun x S => (y ≤ x → vc n d 48 27 L S M Q) ∧ (¬ (y ≤ x) → vc n d 48 10 L S M Q)) := nr rfl
set_option maxRecDepth 100000 in
theorem v48_10 (n d : Nat) (L : List (Option mL)) (S : List mV) (M : Mm) (Q : mQ) : vc (n + 1) d 48 10 L S M Q = (gR L 0 fun x => vc n d 48 11 L (.inr (.inr x) :: S) M Q) := nr rfl
set_option maxRecDepth 100000 in
theorem v48_11 (n d : Nat) (L : List (Option mL)) (S : List mV) (M : Mm) (Q : mQ) : vc (n + 1) d 48 11 L S M Q = (gI L 2 fun x => vc n d 48 12 L (.inl x :: S) M Q) := nr rfl
set_option maxRecDepth 100000 in
theorem v48_12 (n d : Nat) (L : List (Option mL)) (S : List mV) (M : Mm) (Q : mQ) : vc (n + 1) d 48 12 L S M Q = (pAs 1 S fun as S => pA S fun a S => shO M a 6 (stk S ≤ 8 ∧ XC d 49 (.inr (some a) :: as) M (fun r M => ∃ x : Int32, r = some (.inl x) ∧ X d 48 15 L (.inl x :: S) M Q))) := nr rfl
set_option maxRecDepth 100000 in
theorem v48_15 (n d : Nat) (L : List (Option mL)) (S : List mV) (M : Mm) (Q : mQ) : vc (n + 1) d 48 15 L S M Q = (pI S fun x S => (x = 0 → vc n d 48 21 L S M Q) ∧ (¬ (x = 0) → vc n d 48 18 L S M Q)) := nr rfl
set_option maxRecDepth 100000 in
theorem v48_18 (n d : Nat) (L : List (Option mL)) (S : List mV) (M : Mm) (Q : mQ) : vc (n + 1) d 48 18 L S M Q = (gI L 1 fun x => sL L 1 (some (.inl (x + 1))) fun L => vc n d 48 21 L S M Q) := nr rfl
set_option maxRecDepth 100000 in
theorem v48_21 (n d : Nat) (L : List (Option mL)) (S : List mV) (M : Mm) (Q : mQ) : vc (n + 1) d 48 21 L S M Q = (gI L 2 fun x => sL L 2 (some (.inl (x + 1))) fun L => vc n d 48 24 L S M Q) := nr rfl
set_option maxRecDepth 100000 in
theorem v48_24 (n d : Nat) (L : List (Option mL)) (S : List mV) (M : Mm) (Q : mQ) : vc (n + 1) d 48 24 L S M Q = (X d 48 4 L S M Q) := nr rfl
set_option maxRecDepth 100000 in
theorem v48_27 (n d : Nat) (L : List (Option mL)) (S : List mV) (M : Mm) (Q : mQ) : vc (n + 1) d 48 27 L S M Q = (gI L 1 fun x => vc n d 48 28 L (.inl x :: S) M Q) := nr rfl
set_option maxRecDepth 100000 in
theorem v48_28 (n d : Nat) (L : List (Option mL)) (S : List mV) (M : Mm) (Q : mQ) : vc (n + 1) d 48 28 L S M Q = (pI S fun x S => S = [] ∧ (0 = 0 ∨ x = 0 ∨ x = 1) ∧ Q (some (.inl x)) M) := nr rfl
set_option maxRecDepth 100000 in
theorem v49_0 (n d : Nat) (L : List (Option mL)) (S : List mV) (M : Mm) (Q : mQ) : vc (n + 1) d 49 0 L S M Q = (gI L 1 fun x => vc n d 49 1 L (.inl x :: S) M Q) := nr rfl
set_option maxRecDepth 100000 in
theorem v49_1 (n d : Nat) (L : List (Option mL)) (S : List mV) (M : Mm) (Q : mQ) : vc (n + 1) d 49 1 L S M Q = (pAs 1 S fun as S => stk S ≤ 8 ∧ XC d 40 as M (fun r M => ∃ x : Int32, r = some (.inl x) ∧ X d 49 4 L (.inl x :: S) M Q)) := nr rfl
set_option maxRecDepth 100000 in
theorem v49_4 (n d : Nat) (L : List (Option mL)) (S : List mV) (M : Mm) (Q : mQ) : vc (n + 1) d 49 4 L S M Q = (pI S fun x S => (x = 0 → vc n d 49 28 L S M Q) ∧ (¬ (x = 0) → vc n d 49 7 L S M Q)) := nr rfl
set_option maxRecDepth 100000 in
theorem v49_7 (n d : Nat) (L : List (Option mL)) (S : List mV) (M : Mm) (Q : mQ) : vc (n + 1) d 49 7 L S M Q = (gR L 0 fun x => vc n d 49 8 L (.inr (.inr x) :: S) M Q) := nr rfl
set_option maxRecDepth 100000 in
theorem v49_8 (n d : Nat) (L : List (Option mL)) (S : List mV) (M : Mm) (Q : mQ) : vc (n + 1) d 49 8 L S M Q = (pA S fun a S => shO M a 6 (rrf M a 0 fun r => vc n d 49 11 L (.inr (.inr r) :: S) M Q)) := nr rfl
set_option maxRecDepth 100000 in
theorem v49_11 (n d : Nat) (L : List (Option mL)) (S : List mV) (M : Mm) (Q : mQ) : vc (n + 1) d 49 11 L S M Q = (gI L 1 fun x => vc n d 49 12 L (.inl x :: S) M Q) := nr rfl
set_option maxRecDepth 100000 in
theorem v49_12 (n d : Nat) (L : List (Option mL)) (S : List mV) (M : Mm) (Q : mQ) : vc (n + 1) d 49 12 L S M Q = (pI S fun i S => pA S fun a S => shA M a fun t k => (t = 40 ∨ t = 41) ∧ inB i k ∧ vc n d 49 13 L (.inl (M.it a i.toNatClampNeg) :: S) M Q) := nr rfl
set_option maxRecDepth 100000 in
theorem v49_13 (n d : Nat) (L : List (Option mL)) (S : List mV) (M : Mm) (Q : mQ) : vc (n + 1) d 49 13 L S M Q = (pI S fun x S => (¬ x = 0 → vc n d 49 28 L S M Q) ∧ (¬ (¬ x = 0) → vc n d 49 16 L S M Q)) := nr rfl
set_option maxRecDepth 100000 in
theorem v49_16 (n d : Nat) (L : List (Option mL)) (S : List mV) (M : Mm) (Q : mQ) : vc (n + 1) d 49 16 L S M Q = (gI L 1 fun x => vc n d 49 17 L (.inl x :: S) M Q) := nr rfl
set_option maxRecDepth 100000 in
theorem v49_17 (n d : Nat) (L : List (Option mL)) (S : List mV) (M : Mm) (Q : mQ) : vc (n + 1) d 49 17 L S M Q = (gR L 0 fun x => vc n d 49 18 L (.inr (.inr x) :: S) M Q) := nr rfl
set_option maxRecDepth 100000 in
theorem v49_18 (n d : Nat) (L : List (Option mL)) (S : List mV) (M : Mm) (Q : mQ) : vc (n + 1) d 49 18 L S M Q = (pA S fun a S => shO M a 6 (vc n d 49 21 L (.inl (M.it a 1) :: S) M Q)) := nr rfl
set_option maxRecDepth 100000 in
theorem v49_21 (n d : Nat) (L : List (Option mL)) (S : List mV) (M : Mm) (Q : mQ) : vc (n + 1) d 49 21 L S M Q = (pI S fun y S => pI S fun x S => (x = y → vc n d 49 28 L S M Q) ∧ (¬ (x = y) → vc n d 49 24 L S M Q)) := nr rfl
set_option maxRecDepth 100000 in
theorem v49_24 (n d : Nat) (L : List (Option mL)) (S : List mV) (M : Mm) (Q : mQ) : vc (n + 1) d 49 24 L S M Q = (vc n d 49 25 L (.inl 1 :: S) M Q) := nr rfl
set_option maxRecDepth 100000 in
theorem v49_25 (n d : Nat) (L : List (Option mL)) (S : List mV) (M : Mm) (Q : mQ) : vc (n + 1) d 49 25 L S M Q = (vc n d 49 29 L S M Q) := nr rfl
set_option maxRecDepth 100000 in
theorem v49_28 (n d : Nat) (L : List (Option mL)) (S : List mV) (M : Mm) (Q : mQ) : vc (n + 1) d 49 28 L S M Q = (vc n d 49 29 L (.inl 0 :: S) M Q) := nr rfl
set_option maxRecDepth 100000 in
theorem v49_29 (n d : Nat) (L : List (Option mL)) (S : List mV) (M : Mm) (Q : mQ) : vc (n + 1) d 49 29 L S M Q = (pI S fun x S => S = [] ∧ (1 = 0 ∨ x = 0 ∨ x = 1) ∧ Q (some (.inl x)) M) := nr rfl
set_option maxRecDepth 100000 in
theorem v50_0 (n d : Nat) (L : List (Option mL)) (S : List mV) (M : Mm) (Q : mQ) : vc (n + 1) d 50 0 L S M Q = (vc n d 50 1 L (.inl 0 :: S) M Q) := nr rfl
set_option maxRecDepth 100000 in
theorem v50_1 (n d : Nat) (L : List (Option mL)) (S : List mV) (M : Mm) (Q : mQ) : vc (n + 1) d 50 1 L S M Q = (pI S fun x S => sL L 1 (some (.inl x)) fun L => X d 50 2 L S M Q) := nr rfl
set_option maxRecDepth 100000 in
theorem v50_2 (n d : Nat) (L : List (Option mL)) (S : List mV) (M : Mm) (Q : mQ) : vc (n + 1) d 50 2 L S M Q = (gI L 1 fun x => vc n d 50 3 L (.inl x :: S) M Q) := nr rfl
set_option maxRecDepth 100000 in
theorem v50_3 (n d : Nat) (L : List (Option mL)) (S : List mV) (M : Mm) (Q : mQ) : vc (n + 1) d 50 3 L S M Q = (vc n d 50 5 L (.inl 8 :: S) M Q) := nr rfl
set_option maxRecDepth 100000 in
theorem v50_5 (n d : Nat) (L : List (Option mL)) (S : List mV) (M : Mm) (Q : mQ) : vc (n + 1) d 50 5 L S M Q = (pI S fun y S => pI S fun x S => (y ≤ x → vc n d 50 24 L S M Q) ∧ (¬ (y ≤ x) → vc n d 50 8 L S M Q)) := nr rfl
set_option maxRecDepth 100000 in
theorem v50_8 (n d : Nat) (L : List (Option mL)) (S : List mV) (M : Mm) (Q : mQ) : vc (n + 1) d 50 8 L S M Q = (gR L 0 fun x => vc n d 50 9 L (.inr (.inr x) :: S) M Q) := nr rfl
set_option maxRecDepth 100000 in
theorem v50_9 (n d : Nat) (L : List (Option mL)) (S : List mV) (M : Mm) (Q : mQ) : vc (n + 1) d 50 9 L S M Q = (gI L 1 fun x => vc n d 50 10 L (.inl x :: S) M Q) := nr rfl
set_option maxRecDepth 100000 in
theorem v50_10 (n d : Nat) (L : List (Option mL)) (S : List mV) (M : Mm) (Q : mQ) : vc (n + 1) d 50 10 L S M Q = (pAs 1 S fun as S => pA S fun a S => shO M a 6 (stk S ≤ 8 ∧ XC d 49 (.inr (some a) :: as) M (fun r M => ∃ x : Int32, r = some (.inl x) ∧ X d 50 13 L (.inl x :: S) M Q))) := nr rfl
set_option maxRecDepth 100000 in
theorem v50_13 (n d : Nat) (L : List (Option mL)) (S : List mV) (M : Mm) (Q : mQ) : vc (n + 1) d 50 13 L S M Q = (pI S fun x S => (x = 0 → vc n d 50 18 L S M Q) ∧ (¬ (x = 0) → vc n d 50 16 L S M Q)) := nr rfl
set_option maxRecDepth 100000 in
theorem v50_16 (n d : Nat) (L : List (Option mL)) (S : List mV) (M : Mm) (Q : mQ) : vc (n + 1) d 50 16 L S M Q = (gI L 1 fun x => vc n d 50 17 L (.inl x :: S) M Q) := nr rfl
set_option maxRecDepth 100000 in
theorem v50_17 (n d : Nat) (L : List (Option mL)) (S : List mV) (M : Mm) (Q : mQ) : vc (n + 1) d 50 17 L S M Q = (pI S fun x S => S = [] ∧ (0 = 0 ∨ x = 0 ∨ x = 1) ∧ Q (some (.inl x)) M) := nr rfl
set_option maxRecDepth 100000 in
theorem v50_18 (n d : Nat) (L : List (Option mL)) (S : List mV) (M : Mm) (Q : mQ) : vc (n + 1) d 50 18 L S M Q = (gI L 1 fun x => sL L 1 (some (.inl (x + 1))) fun L => vc n d 50 21 L S M Q) := nr rfl
set_option maxRecDepth 100000 in
theorem v50_21 (n d : Nat) (L : List (Option mL)) (S : List mV) (M : Mm) (Q : mQ) : vc (n + 1) d 50 21 L S M Q = (X d 50 2 L S M Q) := nr rfl
set_option maxRecDepth 100000 in
theorem v50_24 (n d : Nat) (L : List (Option mL)) (S : List mV) (M : Mm) (Q : mQ) : vc (n + 1) d 50 24 L S M Q = (vc n d 50 25 L (.inl (-1) :: S) M Q) := nr rfl
set_option maxRecDepth 100000 in
theorem v50_25 (n d : Nat) (L : List (Option mL)) (S : List mV) (M : Mm) (Q : mQ) : vc (n + 1) d 50 25 L S M Q = (pI S fun x S => S = [] ∧ (0 = 0 ∨ x = 0 ∨ x = 1) ∧ Q (some (.inl x)) M) := nr rfl
set_option maxRecDepth 100000 in
theorem v51_0 (n d : Nat) (L : List (Option mL)) (S : List mV) (M : Mm) (Q : mQ) : vc (n + 1) d 51 0 L S M Q = (gR L 0 fun x => vc n d 51 1 L (.inr (.inr x) :: S) M Q) := nr rfl
set_option maxRecDepth 100000 in
theorem v51_1 (n d : Nat) (L : List (Option mL)) (S : List mV) (M : Mm) (Q : mQ) : vc (n + 1) d 51 1 L S M Q = (pA S fun a S => shO M a 7 (vc n d 51 4 L (.inl (M.it a 1) :: S) M Q)) := nr rfl
set_option maxRecDepth 100000 in
theorem v51_4 (n d : Nat) (L : List (Option mL)) (S : List mV) (M : Mm) (Q : mQ) : vc (n + 1) d 51 4 L S M Q = (gI L 1 fun x => vc n d 51 5 L (.inl x :: S) M Q) := nr rfl
set_option maxRecDepth 100000 in
theorem v51_5 (n d : Nat) (L : List (Option mL)) (S : List mV) (M : Mm) (Q : mQ) : vc (n + 1) d 51 5 L S M Q = (pI S fun y S => pI S fun x S => vc n d 51 6 L (.inl (x + y) :: S) M Q) := nr rfl
set_option maxRecDepth 100000 in
theorem v51_6 (n d : Nat) (L : List (Option mL)) (S : List mV) (M : Mm) (Q : mQ) : vc (n + 1) d 51 6 L S M Q = (vc n d 51 8 L (.inl 120 :: S) M Q) := nr rfl
set_option maxRecDepth 100000 in
theorem v51_8 (n d : Nat) (L : List (Option mL)) (S : List mV) (M : Mm) (Q : mQ) : vc (n + 1) d 51 8 L S M Q = (pI S fun y S => pI S fun x S => (y < x → vc n d 51 15 L S M Q) ∧ (¬ (y < x) → vc n d 51 11 L S M Q)) := nr rfl
set_option maxRecDepth 100000 in
theorem v51_11 (n d : Nat) (L : List (Option mL)) (S : List mV) (M : Mm) (Q : mQ) : vc (n + 1) d 51 11 L S M Q = (vc n d 51 12 L (.inl 1 :: S) M Q) := nr rfl
set_option maxRecDepth 100000 in
theorem v51_12 (n d : Nat) (L : List (Option mL)) (S : List mV) (M : Mm) (Q : mQ) : vc (n + 1) d 51 12 L S M Q = (vc n d 51 16 L S M Q) := nr rfl
set_option maxRecDepth 100000 in
theorem v51_15 (n d : Nat) (L : List (Option mL)) (S : List mV) (M : Mm) (Q : mQ) : vc (n + 1) d 51 15 L S M Q = (vc n d 51 16 L (.inl 0 :: S) M Q) := nr rfl
set_option maxRecDepth 100000 in
theorem v51_16 (n d : Nat) (L : List (Option mL)) (S : List mV) (M : Mm) (Q : mQ) : vc (n + 1) d 51 16 L S M Q = (pI S fun x S => S = [] ∧ (1 = 0 ∨ x = 0 ∨ x = 1) ∧ Q (some (.inl x)) M) := nr rfl
set_option maxRecDepth 100000 in
theorem v52_0 (n d : Nat) (L : List (Option mL)) (S : List mV) (M : Mm) (Q : mQ) : vc (n + 1) d 52 0 L S M Q = (gR L 0 fun x => vc n d 52 1 L (.inr (.inr x) :: S) M Q) := nr rfl
set_option maxRecDepth 100000 in
theorem v52_1 (n d : Nat) (L : List (Option mL)) (S : List mV) (M : Mm) (Q : mQ) : vc (n + 1) d 52 1 L S M Q = (pA S fun a S => shO M a 0 (rrf M a 3 fun r => vc n d 52 4 L (.inr (.inr r) :: S) M Q)) := nr rfl
set_option maxRecDepth 100000 in
theorem v52_4 (n d : Nat) (L : List (Option mL)) (S : List mV) (M : Mm) (Q : mQ) : vc (n + 1) d 52 4 L S M Q = (gR L 0 fun x => vc n d 52 5 L (.inr (.inr x) :: S) M Q) := nr rfl
set_option maxRecDepth 100000 in
theorem v52_5 (n d : Nat) (L : List (Option mL)) (S : List mV) (M : Mm) (Q : mQ) : vc (n + 1) d 52 5 L S M Q = (pA S fun a S => shO M a 0 (rrf M a 8 fun r => vc n d 52 8 L (.inr (.inr r) :: S) M Q)) := nr rfl
set_option maxRecDepth 100000 in
theorem v52_8 (n d : Nat) (L : List (Option mL)) (S : List mV) (M : Mm) (Q : mQ) : vc (n + 1) d 52 8 L S M Q = (pA S fun a S => shO M a 1 (vc n d 52 11 L (.inl (M.it a 1) :: S) M Q)) := nr rfl
set_option maxRecDepth 100000 in
theorem v52_11 (n d : Nat) (L : List (Option mL)) (S : List mV) (M : Mm) (Q : mQ) : vc (n + 1) d 52 11 L S M Q = (pAs 1 S fun as S => stk S ≤ 8 ∧ XC d 29 as M (fun r M => ∃ x : Int32, r = some (.inl x) ∧ X d 52 14 L (.inl x :: S) M Q)) := nr rfl
set_option maxRecDepth 100000 in
theorem v52_14 (n d : Nat) (L : List (Option mL)) (S : List mV) (M : Mm) (Q : mQ) : vc (n + 1) d 52 14 L S M Q = (gI L 3 fun x => vc n d 52 15 L (.inl x :: S) M Q) := nr rfl
set_option maxRecDepth 100000 in
theorem v52_15 (n d : Nat) (L : List (Option mL)) (S : List mV) (M : Mm) (Q : mQ) : vc (n + 1) d 52 15 L S M Q = (pAs 2 S fun as S => pA S fun a S => shO M a 6 (stk S ≤ 8 ∧ XC d 47 (.inr (some a) :: as) M (fun r M => ∃ x : Int32, r = some (.inl x) ∧ X d 52 18 L (.inl x :: S) M Q))) := nr rfl
set_option maxRecDepth 100000 in
theorem v52_18 (n d : Nat) (L : List (Option mL)) (S : List mV) (M : Mm) (Q : mQ) : vc (n + 1) d 52 18 L S M Q = (pI S fun x S => sL L 4 (some (.inl x)) fun L => vc n d 52 20 L S M Q) := nr rfl
set_option maxRecDepth 100000 in
theorem v52_20 (n d : Nat) (L : List (Option mL)) (S : List mV) (M : Mm) (Q : mQ) : vc (n + 1) d 52 20 L S M Q = (gI L 4 fun x => vc n d 52 22 L (.inl x :: S) M Q) := nr rfl
set_option maxRecDepth 100000 in
theorem v52_22 (n d : Nat) (L : List (Option mL)) (S : List mV) (M : Mm) (Q : mQ) : vc (n + 1) d 52 22 L S M Q = (vc n d 52 23 L (.inl (-1) :: S) M Q) := nr rfl
set_option maxRecDepth 100000 in
theorem v52_23 (n d : Nat) (L : List (Option mL)) (S : List mV) (M : Mm) (Q : mQ) : vc (n + 1) d 52 23 L S M Q = (pI S fun y S => pI S fun x S => (¬ x = y → vc n d 52 28 L S M Q) ∧ (¬ (¬ x = y) → vc n d 52 26 L S M Q)) := nr rfl
set_option maxRecDepth 100000 in
theorem v52_26 (n d : Nat) (L : List (Option mL)) (S : List mV) (M : Mm) (Q : mQ) : vc (n + 1) d 52 26 L S M Q = (vc n d 52 27 L (.inl (-1) :: S) M Q) := nr rfl
set_option maxRecDepth 100000 in
theorem v52_27 (n d : Nat) (L : List (Option mL)) (S : List mV) (M : Mm) (Q : mQ) : vc (n + 1) d 52 27 L S M Q = (pI S fun x S => S = [] ∧ (0 = 0 ∨ x = 0 ∨ x = 1) ∧ Q (some (.inl x)) M) := nr rfl
set_option maxRecDepth 100000 in
theorem v52_28 (n d : Nat) (L : List (Option mL)) (S : List mV) (M : Mm) (Q : mQ) : vc (n + 1) d 52 28 L S M Q = (gR L 0 fun x => vc n d 52 29 L (.inr (.inr x) :: S) M Q) := nr rfl
set_option maxRecDepth 100000 in
theorem v52_29 (n d : Nat) (L : List (Option mL)) (S : List mV) (M : Mm) (Q : mQ) : vc (n + 1) d 52 29 L S M Q = (gI L 1 fun x => vc n d 52 30 L (.inl x :: S) M Q) := nr rfl
set_option maxRecDepth 100000 in
theorem v52_30 (n d : Nat) (L : List (Option mL)) (S : List mV) (M : Mm) (Q : mQ) : vc (n + 1) d 52 30 L S M Q = (gI L 2 fun x => vc n d 52 31 L (.inl x :: S) M Q) := nr rfl
set_option maxRecDepth 100000 in
theorem v52_31 (n d : Nat) (L : List (Option mL)) (S : List mV) (M : Mm) (Q : mQ) : vc (n + 1) d 52 31 L S M Q = (pAs 2 S fun as S => pA S fun a S => shO M a 0 (stk S ≤ 8 ∧ XC d 53 (.inr (some a) :: as) M (fun r M => r = none ∧ X d 52 34 L S M Q))) := nr rfl
set_option maxRecDepth 100000 in
theorem v52_34 (n d : Nat) (L : List (Option mL)) (S : List mV) (M : Mm) (Q : mQ) : vc (n + 1) d 52 34 L S M Q = (gR L 0 fun x => vc n d 52 35 L (.inr (.inr x) :: S) M Q) := nr rfl
set_option maxRecDepth 100000 in
theorem v52_35 (n d : Nat) (L : List (Option mL)) (S : List mV) (M : Mm) (Q : mQ) : vc (n + 1) d 52 35 L S M Q = (pC S fun v S => vc n d 52 36 L (v :: v :: S) M Q) := nr rfl
set_option maxRecDepth 100000 in
theorem v52_36 (n d : Nat) (L : List (Option mL)) (S : List mV) (M : Mm) (Q : mQ) : vc (n + 1) d 52 36 L S M Q = (pA S fun a S => shO M a 0 (vc n d 52 39 L (.inl (M.it a 16) :: S) M Q)) := nr rfl
set_option maxRecDepth 100000 in
theorem v52_39 (n d : Nat) (L : List (Option mL)) (S : List mV) (M : Mm) (Q : mQ) : vc (n + 1) d 52 39 L S M Q = (vc n d 52 40 L (.inl 1 :: S) M Q) := nr rfl
set_option maxRecDepth 100000 in
theorem v52_40 (n d : Nat) (L : List (Option mL)) (S : List mV) (M : Mm) (Q : mQ) : vc (n + 1) d 52 40 L S M Q = (pI S fun y S => pI S fun x S => vc n d 52 41 L (.inl (x + y) :: S) M Q) := nr rfl
set_option maxRecDepth 100000 in
theorem v52_41 (n d : Nat) (L : List (Option mL)) (S : List mV) (M : Mm) (Q : mQ) : vc (n + 1) d 52 41 L S M Q = (pI S fun x S => pA S fun a S => shO M a 0 (vc n d 52 44 L S (M.si a 16 x) Q)) := nr rfl
set_option maxRecDepth 100000 in
theorem v52_44 (n d : Nat) (L : List (Option mL)) (S : List mV) (M : Mm) (Q : mQ) : vc (n + 1) d 52 44 L S M Q = (gR L 0 fun x => vc n d 52 45 L (.inr (.inr x) :: S) M Q) := nr rfl
set_option maxRecDepth 100000 in
theorem v52_45 (n d : Nat) (L : List (Option mL)) (S : List mV) (M : Mm) (Q : mQ) : vc (n + 1) d 52 45 L S M Q = (pA S fun a S => shO M a 0 (rrf M a 1 fun r => vc n d 52 48 L (.inr (.inr r) :: S) M Q)) := nr rfl
set_option maxRecDepth 100000 in
theorem v52_48 (n d : Nat) (L : List (Option mL)) (S : List mV) (M : Mm) (Q : mQ) : vc (n + 1) d 52 48 L S M Q = (gR L 0 fun x => vc n d 52 49 L (.inr (.inr x) :: S) M Q) := nr rfl
set_option maxRecDepth 100000 in
theorem v52_49 (n d : Nat) (L : List (Option mL)) (S : List mV) (M : Mm) (Q : mQ) : vc (n + 1) d 52 49 L S M Q = (pA S fun a S => shO M a 0 (rrf M a 12 fun r => vc n d 52 52 L (.inr (.inr r) :: S) M Q)) := nr rfl
set_option maxRecDepth 100000 in
theorem v52_52 (n d : Nat) (L : List (Option mL)) (S : List mV) (M : Mm) (Q : mQ) : vc (n + 1) d 52 52 L S M Q = (gI L 4 fun x => vc n d 52 54 L (.inl x :: S) M Q) := nr rfl
set_option maxRecDepth 100000 in
theorem v52_54 (n d : Nat) (L : List (Option mL)) (S : List mV) (M : Mm) (Q : mQ) : vc (n + 1) d 52 54 L S M Q = (vc n d 52 56 L (.inl 16 :: S) M Q) := nr rfl
set_option maxRecDepth 100000 in
theorem v52_56 (n d : Nat) (L : List (Option mL)) (S : List mV) (M : Mm) (Q : mQ) : vc (n + 1) d 52 56 L S M Q = (pI S fun y S => pI S fun x S => ¬ y = 0 ∧ vc n d 52 57 L (.inl (x / y) :: S) M Q) := nr rfl
set_option maxRecDepth 100000 in
theorem v52_57 (n d : Nat) (L : List (Option mL)) (S : List mV) (M : Mm) (Q : mQ) : vc (n + 1) d 52 57 L S M Q = (pI S fun i S => pA S fun a S => shA M a fun t k => (t = 40 ∨ t = 41) ∧ inB i k ∧ vc n d 52 58 L (.inl (M.it a i.toNatClampNeg) :: S) M Q) := nr rfl
set_option maxRecDepth 100000 in
theorem v52_58 (n d : Nat) (L : List (Option mL)) (S : List mV) (M : Mm) (Q : mQ) : vc (n + 1) d 52 58 L S M Q = (pAs 1 S fun as S => pA S fun a S => shO M a 7 (stk S ≤ 8 ∧ XC d 54 (.inr (some a) :: as) M (fun r M => ∃ x : Option Nat, r = some (.inr (.inr x)) ∧ X d 52 61 L (.inr (.inr x) :: S) M Q))) := nr rfl
set_option maxRecDepth 100000 in
theorem v52_61 (n d : Nat) (L : List (Option mL)) (S : List mV) (M : Mm) (Q : mQ) : vc (n + 1) d 52 61 L S M Q = (pR S fun x S => sL L 5 (some (.inr x)) fun L => vc n d 52 63 L S M Q) := nr rfl
set_option maxRecDepth 100000 in
theorem v52_63 (n d : Nat) (L : List (Option mL)) (S : List mV) (M : Mm) (Q : mQ) : vc (n + 1) d 52 63 L S M Q = (vc n d 52 64 L (.inl 0 :: S) M Q) := nr rfl
set_option maxRecDepth 100000 in
theorem v52_64 (n d : Nat) (L : List (Option mL)) (S : List mV) (M : Mm) (Q : mQ) : vc (n + 1) d 52 64 L S M Q = (pI S fun x S => sL L 6 (some (.inl x)) fun L => X d 52 66 L S M Q) := nr rfl
set_option maxRecDepth 100000 in
theorem v52_66 (n d : Nat) (L : List (Option mL)) (S : List mV) (M : Mm) (Q : mQ) : vc (n + 1) d 52 66 L S M Q = (gI L 6 fun x => vc n d 52 68 L (.inl x :: S) M Q) := nr rfl
set_option maxRecDepth 100000 in
theorem v52_68 (n d : Nat) (L : List (Option mL)) (S : List mV) (M : Mm) (Q : mQ) : vc (n + 1) d 52 68 L S M Q = (vc n d 52 70 L (.inl 16 :: S) M Q) := nr rfl
set_option maxRecDepth 100000 in
theorem v52_70 (n d : Nat) (L : List (Option mL)) (S : List mV) (M : Mm) (Q : mQ) : vc (n + 1) d 52 70 L S M Q = (pI S fun y S => pI S fun x S => vc n d 52 71 L (.inl (x * y) :: S) M Q) := nr rfl
set_option maxRecDepth 100000 in
theorem v52_71 (n d : Nat) (L : List (Option mL)) (S : List mV) (M : Mm) (Q : mQ) : vc (n + 1) d 52 71 L S M Q = (gR L 0 fun x => vc n d 52 72 L (.inr (.inr x) :: S) M Q) := nr rfl
set_option maxRecDepth 100000 in
theorem v52_72 (n d : Nat) (L : List (Option mL)) (S : List mV) (M : Mm) (Q : mQ) : vc (n + 1) d 52 72 L S M Q = (pA S fun a S => shO M a 0 (rrf M a 9 fun r => vc n d 52 75 L (.inr (.inr r) :: S) M Q)) := nr rfl
set_option maxRecDepth 100000 in
theorem v52_75 (n d : Nat) (L : List (Option mL)) (S : List mV) (M : Mm) (Q : mQ) : vc (n + 1) d 52 75 L S M Q = (pA S fun a S => shO M a 1 (vc n d 52 78 L (.inl (M.it a 1) :: S) M Q)) := nr rfl
set_option maxRecDepth 100000 in
theorem v52_78 (n d : Nat) (L : List (Option mL)) (S : List mV) (M : Mm) (Q : mQ) : vc (n + 1) d 52 78 L S M Q = (pI S fun y S => pI S fun x S => (y ≤ x → vc n d 52 127 L S M Q) ∧ (¬ (y ≤ x) → vc n d 52 81 L S M Q)) := nr rfl
set_option maxRecDepth 100000 in
theorem v52_81 (n d : Nat) (L : List (Option mL)) (S : List mV) (M : Mm) (Q : mQ) : vc (n + 1) d 52 81 L S M Q = (gR L 0 fun x => vc n d 52 82 L (.inr (.inr x) :: S) M Q) := nr rfl
set_option maxRecDepth 100000 in
theorem v52_82 (n d : Nat) (L : List (Option mL)) (S : List mV) (M : Mm) (Q : mQ) : vc (n + 1) d 52 82 L S M Q = (pA S fun a S => shO M a 0 (rrf M a 1 fun r => vc n d 52 85 L (.inr (.inr r) :: S) M Q)) := nr rfl
set_option maxRecDepth 100000 in
theorem v52_85 (n d : Nat) (L : List (Option mL)) (S : List mV) (M : Mm) (Q : mQ) : vc (n + 1) d 52 85 L S M Q = (gI L 4 fun x => vc n d 52 87 L (.inl x :: S) M Q) := nr rfl
set_option maxRecDepth 100000 in
theorem v52_87 (n d : Nat) (L : List (Option mL)) (S : List mV) (M : Mm) (Q : mQ) : vc (n + 1) d 52 87 L S M Q = (gI L 6 fun x => vc n d 52 89 L (.inl x :: S) M Q) := nr rfl
set_option maxRecDepth 100000 in
theorem v52_89 (n d : Nat) (L : List (Option mL)) (S : List mV) (M : Mm) (Q : mQ) : vc (n + 1) d 52 89 L S M Q = (pI S fun y S => pI S fun x S => vc n d 52 90 L (.inl (x + y) :: S) M Q) := nr rfl
set_option maxRecDepth 100000 in
theorem v52_90 (n d : Nat) (L : List (Option mL)) (S : List mV) (M : Mm) (Q : mQ) : vc (n + 1) d 52 90 L S M Q = (pAs 1 S fun as S => pA S fun a S => shO M a 7 (stk S ≤ 8 ∧ XC d 55 (.inr (some a) :: as) M (fun r M => ∃ x : Option Nat, r = some (.inr (.inr x)) ∧ X d 52 93 L (.inr (.inr x) :: S) M Q))) := nr rfl
set_option maxRecDepth 100000 in
theorem v52_93 (n d : Nat) (L : List (Option mL)) (S : List mV) (M : Mm) (Q : mQ) : vc (n + 1) d 52 93 L S M Q = (pR S fun x S => sL L 7 (some (.inr x)) fun L => vc n d 52 95 L S M Q) := nr rfl
set_option maxRecDepth 100000 in
theorem v52_95 (n d : Nat) (L : List (Option mL)) (S : List mV) (M : Mm) (Q : mQ) : vc (n + 1) d 52 95 L S M Q = (gR L 7 fun x => vc n d 52 97 L (.inr (.inr x) :: S) M Q) := nr rfl
set_option maxRecDepth 100000 in
theorem v52_97 (n d : Nat) (L : List (Option mL)) (S : List mV) (M : Mm) (Q : mQ) : vc (n + 1) d 52 97 L S M Q = (pR S fun x S => (x = none → X d 52 121 L S M Q) ∧ (¬ (x = none) → vc n d 52 100 L S M Q)) := nr rfl
set_option maxRecDepth 100000 in
theorem v52_100 (n d : Nat) (L : List (Option mL)) (S : List mV) (M : Mm) (Q : mQ) : vc (n + 1) d 52 100 L S M Q = (gR L 7 fun x => vc n d 52 102 L (.inr (.inr x) :: S) M Q) := nr rfl
set_option maxRecDepth 100000 in
theorem v52_102 (n d : Nat) (L : List (Option mL)) (S : List mV) (M : Mm) (Q : mQ) : vc (n + 1) d 52 102 L S M Q = (gR L 0 fun x => vc n d 52 103 L (.inr (.inr x) :: S) M Q) := nr rfl
set_option maxRecDepth 100000 in
theorem v52_103 (n d : Nat) (L : List (Option mL)) (S : List mV) (M : Mm) (Q : mQ) : vc (n + 1) d 52 103 L S M Q = (pA S fun a S => shO M a 0 (rrf M a 9 fun r => vc n d 52 106 L (.inr (.inr r) :: S) M Q)) := nr rfl
set_option maxRecDepth 100000 in
theorem v52_106 (n d : Nat) (L : List (Option mL)) (S : List mV) (M : Mm) (Q : mQ) : vc (n + 1) d 52 106 L S M Q = (gI L 6 fun x => vc n d 52 108 L (.inl x :: S) M Q) := nr rfl
set_option maxRecDepth 100000 in
theorem v52_108 (n d : Nat) (L : List (Option mL)) (S : List mV) (M : Mm) (Q : mQ) : vc (n + 1) d 52 108 L S M Q = (vc n d 52 110 L (.inl 16 :: S) M Q) := nr rfl
set_option maxRecDepth 100000 in
theorem v52_110 (n d : Nat) (L : List (Option mL)) (S : List mV) (M : Mm) (Q : mQ) : vc (n + 1) d 52 110 L S M Q = (pI S fun y S => pI S fun x S => vc n d 52 111 L (.inl (x * y) :: S) M Q) := nr rfl
set_option maxRecDepth 100000 in
theorem v52_111 (n d : Nat) (L : List (Option mL)) (S : List mV) (M : Mm) (Q : mQ) : vc (n + 1) d 52 111 L S M Q = (pAs 2 S fun as S => pA S fun a S => shO M a 9 (stk S ≤ 8 ∧ XC d 57 (.inr (some a) :: as) M (fun r M => r = none ∧ X d 52 114 L S M Q))) := nr rfl
set_option maxRecDepth 100000 in
theorem v52_114 (n d : Nat) (L : List (Option mL)) (S : List mV) (M : Mm) (Q : mQ) : vc (n + 1) d 52 114 L S M Q = (gR L 7 fun x => vc n d 52 116 L (.inr (.inr x) :: S) M Q) := nr rfl
set_option maxRecDepth 100000 in
theorem v52_116 (n d : Nat) (L : List (Option mL)) (S : List mV) (M : Mm) (Q : mQ) : vc (n + 1) d 52 116 L S M Q = (gR L 5 fun x => vc n d 52 118 L (.inr (.inr x) :: S) M Q) := nr rfl
set_option maxRecDepth 100000 in
theorem v52_118 (n d : Nat) (L : List (Option mL)) (S : List mV) (M : Mm) (Q : mQ) : vc (n + 1) d 52 118 L S M Q = (pAs 1 S fun as S => pA S fun a S => shO M a 9 (stk S ≤ 8 ∧ XC d 58 (.inr (some a) :: as) M (fun r M => r = none ∧ X d 52 121 L S M Q))) := nr rfl
set_option maxRecDepth 100000 in
theorem v52_121 (n d : Nat) (L : List (Option mL)) (S : List mV) (M : Mm) (Q : mQ) : vc (n + 1) d 52 121 L S M Q = (gI L 6 fun x => sL L 6 (some (.inl (x + 1))) fun L => vc n d 52 124 L S M Q) := nr rfl
set_option maxRecDepth 100000 in
theorem v52_124 (n d : Nat) (L : List (Option mL)) (S : List mV) (M : Mm) (Q : mQ) : vc (n + 1) d 52 124 L S M Q = (X d 52 66 L S M Q) := nr rfl
set_option maxRecDepth 100000 in
theorem v52_127 (n d : Nat) (L : List (Option mL)) (S : List mV) (M : Mm) (Q : mQ) : vc (n + 1) d 52 127 L S M Q = (gI L 4 fun x => vc n d 52 129 L (.inl x :: S) M Q) := nr rfl
set_option maxRecDepth 100000 in
theorem v52_129 (n d : Nat) (L : List (Option mL)) (S : List mV) (M : Mm) (Q : mQ) : vc (n + 1) d 52 129 L S M Q = (pI S fun x S => S = [] ∧ (0 = 0 ∨ x = 0 ∨ x = 1) ∧ Q (some (.inl x)) M) := nr rfl
set_option maxRecDepth 100000 in
theorem v53_0 (n d : Nat) (L : List (Option mL)) (S : List mV) (M : Mm) (Q : mQ) : vc (n + 1) d 53 0 L S M Q = (gR L 0 fun x => vc n d 53 1 L (.inr (.inr x) :: S) M Q) := nr rfl
set_option maxRecDepth 100000 in
theorem v53_1 (n d : Nat) (L : List (Option mL)) (S : List mV) (M : Mm) (Q : mQ) : vc (n + 1) d 53 1 L S M Q = (pA S fun a S => shO M a 0 (rrf M a 9 fun r => vc n d 53 4 L (.inr (.inr r) :: S) M Q)) := nr rfl
set_option maxRecDepth 100000 in
theorem v53_4 (n d : Nat) (L : List (Option mL)) (S : List mV) (M : Mm) (Q : mQ) : vc (n + 1) d 53 4 L S M Q = (pAs 0 S fun as S => pA S fun a S => shO M a 1 (stk S ≤ 8 ∧ XC d 32 (.inr (some a) :: as) M (fun r M => r = none ∧ X d 53 7 L S M Q))) := nr rfl
set_option maxRecDepth 100000 in
theorem v53_7 (n d : Nat) (L : List (Option mL)) (S : List mV) (M : Mm) (Q : mQ) : vc (n + 1) d 53 7 L S M Q = (gR L 0 fun x => vc n d 53 8 L (.inr (.inr x) :: S) M Q) := nr rfl
set_option maxRecDepth 100000 in
theorem v53_8 (n d : Nat) (L : List (Option mL)) (S : List mV) (M : Mm) (Q : mQ) : vc (n + 1) d 53 8 L S M Q = (pA S fun a S => shO M a 0 (rrf M a 9 fun r => vc n d 53 11 L (.inr (.inr r) :: S) M Q)) := nr rfl
set_option maxRecDepth 100000 in
theorem v53_11 (n d : Nat) (L : List (Option mL)) (S : List mV) (M : Mm) (Q : mQ) : vc (n + 1) d 53 11 L S M Q = (vc n d 53 14 L (.inl 165 :: S) M Q) := nr rfl
set_option maxRecDepth 100000 in
theorem v53_14 (n d : Nat) (L : List (Option mL)) (S : List mV) (M : Mm) (Q : mQ) : vc (n + 1) d 53 14 L S M Q = (pAs 1 S fun as S => pA S fun a S => shO M a 1 (stk S ≤ 8 ∧ XC d 33 (.inr (some a) :: as) M (fun r M => r = none ∧ X d 53 17 L S M Q))) := nr rfl
set_option maxRecDepth 100000 in
theorem v53_17 (n d : Nat) (L : List (Option mL)) (S : List mV) (M : Mm) (Q : mQ) : vc (n + 1) d 53 17 L S M Q = (gR L 0 fun x => vc n d 53 18 L (.inr (.inr x) :: S) M Q) := nr rfl
set_option maxRecDepth 100000 in
theorem v53_18 (n d : Nat) (L : List (Option mL)) (S : List mV) (M : Mm) (Q : mQ) : vc (n + 1) d 53 18 L S M Q = (pA S fun a S => shO M a 0 (rrf M a 9 fun r => vc n d 53 21 L (.inr (.inr r) :: S) M Q)) := nr rfl
set_option maxRecDepth 100000 in
theorem v53_21 (n d : Nat) (L : List (Option mL)) (S : List mV) (M : Mm) (Q : mQ) : vc (n + 1) d 53 21 L S M Q = (gI L 1 fun x => vc n d 53 22 L (.inl x :: S) M Q) := nr rfl
set_option maxRecDepth 100000 in
theorem v53_22 (n d : Nat) (L : List (Option mL)) (S : List mV) (M : Mm) (Q : mQ) : vc (n + 1) d 53 22 L S M Q = (pAs 1 S fun as S => pA S fun a S => shO M a 1 (stk S ≤ 8 ∧ XC d 33 (.inr (some a) :: as) M (fun r M => r = none ∧ X d 53 25 L S M Q))) := nr rfl
set_option maxRecDepth 100000 in
theorem v53_25 (n d : Nat) (L : List (Option mL)) (S : List mV) (M : Mm) (Q : mQ) : vc (n + 1) d 53 25 L S M Q = (gR L 0 fun x => vc n d 53 26 L (.inr (.inr x) :: S) M Q) := nr rfl
set_option maxRecDepth 100000 in
theorem v53_26 (n d : Nat) (L : List (Option mL)) (S : List mV) (M : Mm) (Q : mQ) : vc (n + 1) d 53 26 L S M Q = (pA S fun a S => shO M a 0 (rrf M a 9 fun r => vc n d 53 29 L (.inr (.inr r) :: S) M Q)) := nr rfl
set_option maxRecDepth 100000 in
theorem v53_29 (n d : Nat) (L : List (Option mL)) (S : List mV) (M : Mm) (Q : mQ) : vc (n + 1) d 53 29 L S M Q = (gI L 2 fun x => vc n d 53 30 L (.inl x :: S) M Q) := nr rfl
set_option maxRecDepth 100000 in
theorem v53_30 (n d : Nat) (L : List (Option mL)) (S : List mV) (M : Mm) (Q : mQ) : vc (n + 1) d 53 30 L S M Q = (pAs 1 S fun as S => pA S fun a S => shO M a 1 (stk S ≤ 8 ∧ XC d 33 (.inr (some a) :: as) M (fun r M => r = none ∧ X d 53 33 L S M Q))) := nr rfl
set_option maxRecDepth 100000 in
theorem v53_33 (n d : Nat) (L : List (Option mL)) (S : List mV) (M : Mm) (Q : mQ) : vc (n + 1) d 53 33 L S M Q = (gR L 0 fun x => vc n d 53 34 L (.inr (.inr x) :: S) M Q) := nr rfl
set_option maxRecDepth 100000 in
theorem v53_34 (n d : Nat) (L : List (Option mL)) (S : List mV) (M : Mm) (Q : mQ) : vc (n + 1) d 53 34 L S M Q = (pA S fun a S => shO M a 0 (rrf M a 9 fun r => vc n d 53 37 L (.inr (.inr r) :: S) M Q)) := nr rfl
set_option maxRecDepth 100000 in
theorem v53_37 (n d : Nat) (L : List (Option mL)) (S : List mV) (M : Mm) (Q : mQ) : vc (n + 1) d 53 37 L S M Q = (gR L 0 fun x => vc n d 53 38 L (.inr (.inr x) :: S) M Q) := nr rfl
set_option maxRecDepth 100000 in
theorem v53_38 (n d : Nat) (L : List (Option mL)) (S : List mV) (M : Mm) (Q : mQ) : vc (n + 1) d 53 38 L S M Q = (pA S fun a S => shO M a 0 (rrf M a 8 fun r => vc n d 53 41 L (.inr (.inr r) :: S) M Q)) := nr rfl
set_option maxRecDepth 100000 in
theorem v53_41 (n d : Nat) (L : List (Option mL)) (S : List mV) (M : Mm) (Q : mQ) : vc (n + 1) d 53 41 L S M Q = (pA S fun a S => shO M a 1 (vc n d 53 44 L (.inl (M.it a 1) :: S) M Q)) := nr rfl
set_option maxRecDepth 100000 in
theorem v53_44 (n d : Nat) (L : List (Option mL)) (S : List mV) (M : Mm) (Q : mQ) : vc (n + 1) d 53 44 L S M Q = (pAs 1 S fun as S => pA S fun a S => shO M a 1 (stk S ≤ 8 ∧ XC d 33 (.inr (some a) :: as) M (fun r M => r = none ∧ X d 53 47 L S M Q))) := nr rfl
set_option maxRecDepth 100000 in
theorem v53_47 (n d : Nat) (L : List (Option mL)) (S : List mV) (M : Mm) (Q : mQ) : vc (n + 1) d 53 47 L S M Q = (gR L 0 fun x => vc n d 53 48 L (.inr (.inr x) :: S) M Q) := nr rfl
set_option maxRecDepth 100000 in
theorem v53_48 (n d : Nat) (L : List (Option mL)) (S : List mV) (M : Mm) (Q : mQ) : vc (n + 1) d 53 48 L S M Q = (pA S fun a S => shO M a 0 (rrf M a 9 fun r => vc n d 53 51 L (.inr (.inr r) :: S) M Q)) := nr rfl
set_option maxRecDepth 100000 in
theorem v53_51 (n d : Nat) (L : List (Option mL)) (S : List mV) (M : Mm) (Q : mQ) : vc (n + 1) d 53 51 L S M Q = (gR L 0 fun x => vc n d 53 52 L (.inr (.inr x) :: S) M Q) := nr rfl
set_option maxRecDepth 100000 in
theorem v53_52 (n d : Nat) (L : List (Option mL)) (S : List mV) (M : Mm) (Q : mQ) : vc (n + 1) d 53 52 L S M Q = (pA S fun a S => shO M a 0 (vc n d 53 55 L (.inl (M.it a 16) :: S) M Q)) := nr rfl
set_option maxRecDepth 100000 in
theorem v53_55 (n d : Nat) (L : List (Option mL)) (S : List mV) (M : Mm) (Q : mQ) : vc (n + 1) d 53 55 L S M Q = (pAs 1 S fun as S => pA S fun a S => shO M a 1 (stk S ≤ 8 ∧ XC d 43 (.inr (some a) :: as) M (fun r M => r = none ∧ X d 53 58 L S M Q))) := nr rfl
set_option maxRecDepth 100000 in
theorem v53_58 (n d : Nat) (L : List (Option mL)) (S : List mV) (M : Mm) (Q : mQ) : vc (n + 1) d 53 58 L S M Q = (gR L 0 fun x => vc n d 53 59 L (.inr (.inr x) :: S) M Q) := nr rfl
set_option maxRecDepth 100000 in
theorem v53_59 (n d : Nat) (L : List (Option mL)) (S : List mV) (M : Mm) (Q : mQ) : vc (n + 1) d 53 59 L S M Q = (pA S fun a S => shO M a 0 (rrf M a 9 fun r => vc n d 53 62 L (.inr (.inr r) :: S) M Q)) := nr rfl
set_option maxRecDepth 100000 in
theorem v53_62 (n d : Nat) (L : List (Option mL)) (S : List mV) (M : Mm) (Q : mQ) : vc (n + 1) d 53 62 L S M Q = (gR L 0 fun x => vc n d 53 63 L (.inr (.inr x) :: S) M Q) := nr rfl
set_option maxRecDepth 100000 in
theorem v53_63 (n d : Nat) (L : List (Option mL)) (S : List mV) (M : Mm) (Q : mQ) : vc (n + 1) d 53 63 L S M Q = (pA S fun a S => shO M a 0 (rrf M a 8 fun r => vc n d 53 66 L (.inr (.inr r) :: S) M Q)) := nr rfl
set_option maxRecDepth 100000 in
theorem v53_66 (n d : Nat) (L : List (Option mL)) (S : List mV) (M : Mm) (Q : mQ) : vc (n + 1) d 53 66 L S M Q = (gR L 0 fun x => vc n d 53 67 L (.inr (.inr x) :: S) M Q) := nr rfl
set_option maxRecDepth 100000 in
theorem v53_67 (n d : Nat) (L : List (Option mL)) (S : List mV) (M : Mm) (Q : mQ) : vc (n + 1) d 53 67 L S M Q = (pA S fun a S => shO M a 0 (rrf M a 8 fun r => vc n d 53 70 L (.inr (.inr r) :: S) M Q)) := nr rfl
set_option maxRecDepth 100000 in
theorem v53_70 (n d : Nat) (L : List (Option mL)) (S : List mV) (M : Mm) (Q : mQ) : vc (n + 1) d 53 70 L S M Q = (pA S fun a S => shO M a 1 (vc n d 53 73 L (.inl (M.it a 1) :: S) M Q)) := nr rfl
set_option maxRecDepth 100000 in
theorem v53_73 (n d : Nat) (L : List (Option mL)) (S : List mV) (M : Mm) (Q : mQ) : vc (n + 1) d 53 73 L S M Q = (pAs 2 S fun as S => pA S fun a S => shO M a 1 (stk S ≤ 8 ∧ XC d 45 (.inr (some a) :: as) M (fun r M => r = none ∧ X d 53 76 L S M Q))) := nr rfl
set_option maxRecDepth 100000 in
theorem v53_76 (n d : Nat) (L : List (Option mL)) (S : List mV) (M : Mm) (Q : mQ) : vc (n + 1) d 53 76 L S M Q = (gR L 0 fun x => vc n d 53 77 L (.inr (.inr x) :: S) M Q) := nr rfl
set_option maxRecDepth 100000 in
theorem v53_77 (n d : Nat) (L : List (Option mL)) (S : List mV) (M : Mm) (Q : mQ) : vc (n + 1) d 53 77 L S M Q = (pA S fun a S => shO M a 0 (rrf M a 9 fun r => vc n d 53 80 L (.inr (.inr r) :: S) M Q)) := nr rfl
set_option maxRecDepth 100000 in
theorem v53_80 (n d : Nat) (L : List (Option mL)) (S : List mV) (M : Mm) (Q : mQ) : vc (n + 1) d 53 80 L S M Q = (gR L 0 fun x => vc n d 53 81 L (.inr (.inr x) :: S) M Q) := nr rfl
set_option maxRecDepth 100000 in
theorem v53_81 (n d : Nat) (L : List (Option mL)) (S : List mV) (M : Mm) (Q : mQ) : vc (n + 1) d 53 81 L S M Q = (pA S fun a S => shO M a 0 (vc n d 53 84 L (.inl (M.it a 16) :: S) M Q)) := nr rfl
set_option maxRecDepth 100000 in
theorem v53_84 (n d : Nat) (L : List (Option mL)) (S : List mV) (M : Mm) (Q : mQ) : vc (n + 1) d 53 84 L S M Q = (pAs 1 S fun as S => pA S fun a S => shO M a 1 (stk S ≤ 8 ∧ XC d 43 (.inr (some a) :: as) M (fun r M => r = none ∧ X d 53 87 L S M Q))) := nr rfl
set_option maxRecDepth 100000 in
theorem v53_87 (n d : Nat) (L : List (Option mL)) (S : List mV) (M : Mm) (Q : mQ) : vc (n + 1) d 53 87 L S M Q = (S = [] ∧ Q none M) := nr rfl
set_option maxRecDepth 100000 in
theorem v54_0 (n d : Nat) (L : List (Option mL)) (S : List mV) (M : Mm) (Q : mQ) : vc (n + 1) d 54 0 L S M Q = (vc n d 54 1 L (.inl 0 :: S) M Q) := nr rfl
set_option maxRecDepth 100000 in
theorem v54_1 (n d : Nat) (L : List (Option mL)) (S : List mV) (M : Mm) (Q : mQ) : vc (n + 1) d 54 1 L S M Q = (pI S fun x S => sL L 2 (some (.inl x)) fun L => X d 54 2 L S M Q) := nr rfl
set_option maxRecDepth 100000 in
theorem v54_2 (n d : Nat) (L : List (Option mL)) (S : List mV) (M : Mm) (Q : mQ) : vc (n + 1) d 54 2 L S M Q = (gI L 2 fun x => vc n d 54 3 L (.inl x :: S) M Q) := nr rfl
set_option maxRecDepth 100000 in
theorem v54_3 (n d : Nat) (L : List (Option mL)) (S : List mV) (M : Mm) (Q : mQ) : vc (n + 1) d 54 3 L S M Q = (gR L 0 fun x => vc n d 54 4 L (.inr (.inr x) :: S) M Q) := nr rfl
set_option maxRecDepth 100000 in
theorem v54_4 (n d : Nat) (L : List (Option mL)) (S : List mV) (M : Mm) (Q : mQ) : vc (n + 1) d 54 4 L S M Q = (pA S fun a S => shO M a 7 (vc n d 54 7 L (.inl (M.it a 1) :: S) M Q)) := nr rfl
set_option maxRecDepth 100000 in
theorem v54_7 (n d : Nat) (L : List (Option mL)) (S : List mV) (M : Mm) (Q : mQ) : vc (n + 1) d 54 7 L S M Q = (pI S fun y S => pI S fun x S => (y ≤ x → vc n d 54 36 L S M Q) ∧ (¬ (y ≤ x) → vc n d 54 10 L S M Q)) := nr rfl
set_option maxRecDepth 100000 in
theorem v54_10 (n d : Nat) (L : List (Option mL)) (S : List mV) (M : Mm) (Q : mQ) : vc (n + 1) d 54 10 L S M Q = (gR L 0 fun x => vc n d 54 11 L (.inr (.inr x) :: S) M Q) := nr rfl
set_option maxRecDepth 100000 in
theorem v54_11 (n d : Nat) (L : List (Option mL)) (S : List mV) (M : Mm) (Q : mQ) : vc (n + 1) d 54 11 L S M Q = (pA S fun a S => shO M a 7 (rrf M a 0 fun r => vc n d 54 14 L (.inr (.inr r) :: S) M Q)) := nr rfl
set_option maxRecDepth 100000 in
theorem v54_14 (n d : Nat) (L : List (Option mL)) (S : List mV) (M : Mm) (Q : mQ) : vc (n + 1) d 54 14 L S M Q = (gI L 2 fun x => vc n d 54 15 L (.inl x :: S) M Q) := nr rfl
set_option maxRecDepth 100000 in
theorem v54_15 (n d : Nat) (L : List (Option mL)) (S : List mV) (M : Mm) (Q : mQ) : vc (n + 1) d 54 15 L S M Q = (pI S fun i S => pA S fun a S => shA M a fun t k => rTyB t = true ∧ inB i k ∧ rrf M a i.toNatClampNeg fun r => vc n d 54 16 L (.inr (.inr r) :: S) M Q) := nr rfl
set_option maxRecDepth 100000 in
theorem v54_16 (n d : Nat) (L : List (Option mL)) (S : List mV) (M : Mm) (Q : mQ) : vc (n + 1) d 54 16 L S M Q = (pA S fun a S => shO M a 9 (vc n d 54 19 L (.inl (M.it a 2) :: S) M Q)) := nr rfl
set_option maxRecDepth 100000 in
theorem v54_19 (n d : Nat) (L : List (Option mL)) (S : List mV) (M : Mm) (Q : mQ) : vc (n + 1) d 54 19 L S M Q = (gI L 1 fun x => vc n d 54 20 L (.inl x :: S) M Q) := nr rfl
set_option maxRecDepth 100000 in
theorem v54_20 (n d : Nat) (L : List (Option mL)) (S : List mV) (M : Mm) (Q : mQ) : vc (n + 1) d 54 20 L S M Q = (pI S fun y S => pI S fun x S => (¬ x = y → vc n d 54 30 L S M Q) ∧ (¬ (¬ x = y) → vc n d 54 23 L S M Q)) := nr rfl
set_option maxRecDepth 100000 in
theorem v54_23 (n d : Nat) (L : List (Option mL)) (S : List mV) (M : Mm) (Q : mQ) : vc (n + 1) d 54 23 L S M Q = (gR L 0 fun x => vc n d 54 24 L (.inr (.inr x) :: S) M Q) := nr rfl
set_option maxRecDepth 100000 in
theorem v54_24 (n d : Nat) (L : List (Option mL)) (S : List mV) (M : Mm) (Q : mQ) : vc (n + 1) d 54 24 L S M Q = (pA S fun a S => shO M a 7 (rrf M a 0 fun r => vc n d 54 27 L (.inr (.inr r) :: S) M Q)) := nr rfl
set_option maxRecDepth 100000 in
theorem v54_27 (n d : Nat) (L : List (Option mL)) (S : List mV) (M : Mm) (Q : mQ) : vc (n + 1) d 54 27 L S M Q = (gI L 2 fun x => vc n d 54 28 L (.inl x :: S) M Q) := nr rfl
set_option maxRecDepth 100000 in
theorem v54_28 (n d : Nat) (L : List (Option mL)) (S : List mV) (M : Mm) (Q : mQ) : vc (n + 1) d 54 28 L S M Q = (pI S fun i S => pA S fun a S => shA M a fun t k => rTyB t = true ∧ inB i k ∧ rrf M a i.toNatClampNeg fun r => vc n d 54 29 L (.inr (.inr r) :: S) M Q) := nr rfl
set_option maxRecDepth 100000 in
theorem v54_29 (n d : Nat) (L : List (Option mL)) (S : List mV) (M : Mm) (Q : mQ) : vc (n + 1) d 54 29 L S M Q = (pR S fun r S => S = [] ∧ Q (some (.inr (.inr r))) M) := nr rfl
set_option maxRecDepth 100000 in
theorem v54_30 (n d : Nat) (L : List (Option mL)) (S : List mV) (M : Mm) (Q : mQ) : vc (n + 1) d 54 30 L S M Q = (gI L 2 fun x => sL L 2 (some (.inl (x + 1))) fun L => vc n d 54 33 L S M Q) := nr rfl
set_option maxRecDepth 100000 in
theorem v54_33 (n d : Nat) (L : List (Option mL)) (S : List mV) (M : Mm) (Q : mQ) : vc (n + 1) d 54 33 L S M Q = (X d 54 2 L S M Q) := nr rfl
set_option maxRecDepth 100000 in
theorem v54_36 (n d : Nat) (L : List (Option mL)) (S : List mV) (M : Mm) (Q : mQ) : vc (n + 1) d 54 36 L S M Q = (vc n d 54 37 L (.inr (.inr none) :: S) M Q) := nr rfl
set_option maxRecDepth 100000 in
theorem v54_37 (n d : Nat) (L : List (Option mL)) (S : List mV) (M : Mm) (Q : mQ) : vc (n + 1) d 54 37 L S M Q = (pR S fun r S => S = [] ∧ Q (some (.inr (.inr r))) M) := nr rfl
set_option maxRecDepth 100000 in
theorem v55_0 (n d : Nat) (L : List (Option mL)) (S : List mV) (M : Mm) (Q : mQ) : vc (n + 1) d 55 0 L S M Q = (gR L 0 fun x => vc n d 55 1 L (.inr (.inr x) :: S) M Q) := nr rfl
set_option maxRecDepth 100000 in
theorem v55_1 (n d : Nat) (L : List (Option mL)) (S : List mV) (M : Mm) (Q : mQ) : vc (n + 1) d 55 1 L S M Q = (pA S fun a S => shO M a 7 (vc n d 55 4 L (.inl (M.it a 1) :: S) M Q)) := nr rfl
set_option maxRecDepth 100000 in
theorem v55_4 (n d : Nat) (L : List (Option mL)) (S : List mV) (M : Mm) (Q : mQ) : vc (n + 1) d 55 4 L S M Q = (vc n d 55 6 L (.inl 120 :: S) M Q) := nr rfl
set_option maxRecDepth 100000 in
theorem v55_6 (n d : Nat) (L : List (Option mL)) (S : List mV) (M : Mm) (Q : mQ) : vc (n + 1) d 55 6 L S M Q = (pI S fun y S => pI S fun x S => (x < y → vc n d 55 11 L S M Q) ∧ (¬ (x < y) → vc n d 55 9 L S M Q)) := nr rfl
set_option maxRecDepth 100000 in
theorem v55_9 (n d : Nat) (L : List (Option mL)) (S : List mV) (M : Mm) (Q : mQ) : vc (n + 1) d 55 9 L S M Q = (vc n d 55 10 L (.inr (.inr none) :: S) M Q) := nr rfl
set_option maxRecDepth 100000 in
theorem v55_10 (n d : Nat) (L : List (Option mL)) (S : List mV) (M : Mm) (Q : mQ) : vc (n + 1) d 55 10 L S M Q = (pR S fun r S => S = [] ∧ Q (some (.inr (.inr r))) M) := nr rfl
set_option maxRecDepth 100000 in
theorem v55_11 (n d : Nat) (L : List (Option mL)) (S : List mV) (M : Mm) (Q : mQ) : vc (n + 1) d 55 11 L S M Q = (gR L 0 fun x => vc n d 55 12 L (.inr (.inr x) :: S) M Q) := nr rfl
set_option maxRecDepth 100000 in
theorem v55_12 (n d : Nat) (L : List (Option mL)) (S : List mV) (M : Mm) (Q : mQ) : vc (n + 1) d 55 12 L S M Q = (pA S fun a S => shO M a 7 (rrf M a 0 fun r => vc n d 55 15 L (.inr (.inr r) :: S) M Q)) := nr rfl
set_option maxRecDepth 100000 in
theorem v55_15 (n d : Nat) (L : List (Option mL)) (S : List mV) (M : Mm) (Q : mQ) : vc (n + 1) d 55 15 L S M Q = (gR L 0 fun x => vc n d 55 16 L (.inr (.inr x) :: S) M Q) := nr rfl
set_option maxRecDepth 100000 in
theorem v55_16 (n d : Nat) (L : List (Option mL)) (S : List mV) (M : Mm) (Q : mQ) : vc (n + 1) d 55 16 L S M Q = (pA S fun a S => shO M a 7 (vc n d 55 19 L (.inl (M.it a 1) :: S) M Q)) := nr rfl
set_option maxRecDepth 100000 in
theorem v55_19 (n d : Nat) (L : List (Option mL)) (S : List mV) (M : Mm) (Q : mQ) : vc (n + 1) d 55 19 L S M Q = (pI S fun i S => pA S fun a S => shA M a fun t k => rTyB t = true ∧ inB i k ∧ rrf M a i.toNatClampNeg fun r => vc n d 55 20 L (.inr (.inr r) :: S) M Q) := nr rfl
set_option maxRecDepth 100000 in
theorem v55_20 (n d : Nat) (L : List (Option mL)) (S : List mV) (M : Mm) (Q : mQ) : vc (n + 1) d 55 20 L S M Q = (pR S fun x S => sL L 2 (some (.inr x)) fun L => vc n d 55 21 L S M Q) := nr rfl
set_option maxRecDepth 100000 in
theorem v55_21 (n d : Nat) (L : List (Option mL)) (S : List mV) (M : Mm) (Q : mQ) : vc (n + 1) d 55 21 L S M Q = (gR L 2 fun x => vc n d 55 22 L (.inr (.inr x) :: S) M Q) := nr rfl
set_option maxRecDepth 100000 in
theorem v55_22 (n d : Nat) (L : List (Option mL)) (S : List mV) (M : Mm) (Q : mQ) : vc (n + 1) d 55 22 L S M Q = (gR L 0 fun x => vc n d 55 23 L (.inr (.inr x) :: S) M Q) := nr rfl
set_option maxRecDepth 100000 in
theorem v55_23 (n d : Nat) (L : List (Option mL)) (S : List mV) (M : Mm) (Q : mQ) : vc (n + 1) d 55 23 L S M Q = (pA S fun a S => shO M a 7 (vc n d 55 26 L (.inl (M.it a 2) :: S) M Q)) := nr rfl
set_option maxRecDepth 100000 in
theorem v55_26 (n d : Nat) (L : List (Option mL)) (S : List mV) (M : Mm) (Q : mQ) : vc (n + 1) d 55 26 L S M Q = (gI L 1 fun x => vc n d 55 27 L (.inl x :: S) M Q) := nr rfl
set_option maxRecDepth 100000 in
theorem v55_27 (n d : Nat) (L : List (Option mL)) (S : List mV) (M : Mm) (Q : mQ) : vc (n + 1) d 55 27 L S M Q = (pAs 2 S fun as S => pA S fun a S => shO M a 9 (stk S ≤ 8 ∧ XC d 56 (.inr (some a) :: as) M (fun r M => r = none ∧ X d 55 30 L S M Q))) := nr rfl
set_option maxRecDepth 100000 in
theorem v55_30 (n d : Nat) (L : List (Option mL)) (S : List mV) (M : Mm) (Q : mQ) : vc (n + 1) d 55 30 L S M Q = (gR L 0 fun x => vc n d 55 31 L (.inr (.inr x) :: S) M Q) := nr rfl
set_option maxRecDepth 100000 in
theorem v55_31 (n d : Nat) (L : List (Option mL)) (S : List mV) (M : Mm) (Q : mQ) : vc (n + 1) d 55 31 L S M Q = (pC S fun v S => vc n d 55 32 L (v :: v :: S) M Q) := nr rfl
set_option maxRecDepth 100000 in
theorem v55_32 (n d : Nat) (L : List (Option mL)) (S : List mV) (M : Mm) (Q : mQ) : vc (n + 1) d 55 32 L S M Q = (pA S fun a S => shO M a 7 (vc n d 55 35 L (.inl (M.it a 2) :: S) M Q)) := nr rfl
set_option maxRecDepth 100000 in
theorem v55_35 (n d : Nat) (L : List (Option mL)) (S : List mV) (M : Mm) (Q : mQ) : vc (n + 1) d 55 35 L S M Q = (vc n d 55 36 L (.inl 1 :: S) M Q) := nr rfl
set_option maxRecDepth 100000 in
theorem v55_36 (n d : Nat) (L : List (Option mL)) (S : List mV) (M : Mm) (Q : mQ) : vc (n + 1) d 55 36 L S M Q = (pI S fun y S => pI S fun x S => vc n d 55 37 L (.inl (x + y) :: S) M Q) := nr rfl
set_option maxRecDepth 100000 in
theorem v55_37 (n d : Nat) (L : List (Option mL)) (S : List mV) (M : Mm) (Q : mQ) : vc (n + 1) d 55 37 L S M Q = (pI S fun x S => pA S fun a S => shO M a 7 (vc n d 55 40 L S (M.si a 2 x) Q)) := nr rfl
set_option maxRecDepth 100000 in
theorem v55_40 (n d : Nat) (L : List (Option mL)) (S : List mV) (M : Mm) (Q : mQ) : vc (n + 1) d 55 40 L S M Q = (gR L 0 fun x => vc n d 55 41 L (.inr (.inr x) :: S) M Q) := nr rfl
set_option maxRecDepth 100000 in
theorem v55_41 (n d : Nat) (L : List (Option mL)) (S : List mV) (M : Mm) (Q : mQ) : vc (n + 1) d 55 41 L S M Q = (pC S fun v S => vc n d 55 42 L (v :: v :: S) M Q) := nr rfl
set_option maxRecDepth 100000 in
theorem v55_42 (n d : Nat) (L : List (Option mL)) (S : List mV) (M : Mm) (Q : mQ) : vc (n + 1) d 55 42 L S M Q = (pA S fun a S => shO M a 7 (vc n d 55 45 L (.inl (M.it a 1) :: S) M Q)) := nr rfl
set_option maxRecDepth 100000 in
theorem v55_45 (n d : Nat) (L : List (Option mL)) (S : List mV) (M : Mm) (Q : mQ) : vc (n + 1) d 55 45 L S M Q = (vc n d 55 46 L (.inl 1 :: S) M Q) := nr rfl
set_option maxRecDepth 100000 in
theorem v55_46 (n d : Nat) (L : List (Option mL)) (S : List mV) (M : Mm) (Q : mQ) : vc (n + 1) d 55 46 L S M Q = (pI S fun y S => pI S fun x S => vc n d 55 47 L (.inl (x + y) :: S) M Q) := nr rfl
set_option maxRecDepth 100000 in
theorem v55_47 (n d : Nat) (L : List (Option mL)) (S : List mV) (M : Mm) (Q : mQ) : vc (n + 1) d 55 47 L S M Q = (pI S fun x S => pA S fun a S => shO M a 7 (vc n d 55 50 L S (M.si a 1 x) Q)) := nr rfl
set_option maxRecDepth 100000 in
theorem v55_50 (n d : Nat) (L : List (Option mL)) (S : List mV) (M : Mm) (Q : mQ) : vc (n + 1) d 55 50 L S M Q = (gR L 2 fun x => vc n d 55 51 L (.inr (.inr x) :: S) M Q) := nr rfl
set_option maxRecDepth 100000 in
theorem v55_51 (n d : Nat) (L : List (Option mL)) (S : List mV) (M : Mm) (Q : mQ) : vc (n + 1) d 55 51 L S M Q = (pR S fun r S => S = [] ∧ Q (some (.inr (.inr r))) M) := nr rfl
set_option maxRecDepth 100000 in
theorem v56_0 (n d : Nat) (L : List (Option mL)) (S : List mV) (M : Mm) (Q : mQ) : vc (n + 1) d 56 0 L S M Q = (gR L 0 fun x => vc n d 56 1 L (.inr (.inr x) :: S) M Q) := nr rfl
set_option maxRecDepth 100000 in
theorem v56_1 (n d : Nat) (L : List (Option mL)) (S : List mV) (M : Mm) (Q : mQ) : vc (n + 1) d 56 1 L S M Q = (gI L 1 fun x => vc n d 56 2 L (.inl x :: S) M Q) := nr rfl
set_option maxRecDepth 100000 in
theorem v56_2 (n d : Nat) (L : List (Option mL)) (S : List mV) (M : Mm) (Q : mQ) : vc (n + 1) d 56 2 L S M Q = (pI S fun x S => pA S fun a S => shO M a 9 (vc n d 56 5 L S (M.si a 2 x) Q)) := nr rfl
set_option maxRecDepth 100000 in
theorem v56_5 (n d : Nat) (L : List (Option mL)) (S : List mV) (M : Mm) (Q : mQ) : vc (n + 1) d 56 5 L S M Q = (gR L 0 fun x => vc n d 56 6 L (.inr (.inr x) :: S) M Q) := nr rfl
set_option maxRecDepth 100000 in
theorem v56_6 (n d : Nat) (L : List (Option mL)) (S : List mV) (M : Mm) (Q : mQ) : vc (n + 1) d 56 6 L S M Q = (gI L 2 fun x => vc n d 56 7 L (.inl x :: S) M Q) := nr rfl
set_option maxRecDepth 100000 in
theorem v56_7 (n d : Nat) (L : List (Option mL)) (S : List mV) (M : Mm) (Q : mQ) : vc (n + 1) d 56 7 L S M Q = (pI S fun x S => pA S fun a S => shO M a 9 (vc n d 56 10 L S (M.si a 3 x) Q)) := nr rfl
set_option maxRecDepth 100000 in
theorem v56_10 (n d : Nat) (L : List (Option mL)) (S : List mV) (M : Mm) (Q : mQ) : vc (n + 1) d 56 10 L S M Q = (gR L 0 fun x => vc n d 56 11 L (.inr (.inr x) :: S) M Q) := nr rfl
set_option maxRecDepth 100000 in
theorem v56_11 (n d : Nat) (L : List (Option mL)) (S : List mV) (M : Mm) (Q : mQ) : vc (n + 1) d 56 11 L S M Q = (vc n d 56 12 L (.inr (.inr none) :: S) M Q) := nr rfl
set_option maxRecDepth 100000 in
theorem v56_12 (n d : Nat) (L : List (Option mL)) (S : List mV) (M : Mm) (Q : mQ) : vc (n + 1) d 56 12 L S M Q = (pR S fun x S => pA S fun a S => shO M a 9 (vc n d 56 15 L S (M.sr a 4 x) Q)) := nr rfl
set_option maxRecDepth 100000 in
theorem v56_15 (n d : Nat) (L : List (Option mL)) (S : List mV) (M : Mm) (Q : mQ) : vc (n + 1) d 56 15 L S M Q = (gR L 0 fun x => vc n d 56 16 L (.inr (.inr x) :: S) M Q) := nr rfl
set_option maxRecDepth 100000 in
theorem v56_16 (n d : Nat) (L : List (Option mL)) (S : List mV) (M : Mm) (Q : mQ) : vc (n + 1) d 56 16 L S M Q = (vc n d 56 17 L (.inr (.inl 0) :: S) M Q) := nr rfl
set_option maxRecDepth 100000 in
theorem v56_17 (n d : Nat) (L : List (Option mL)) (S : List mV) (M : Mm) (Q : mQ) : vc (n + 1) d 56 17 L S M Q = (pL S fun x S => pA S fun a S => shO M a 9 (vc n d 56 20 L S (M.sg a 5 x) Q)) := nr rfl
set_option maxRecDepth 100000 in
theorem v56_20 (n d : Nat) (L : List (Option mL)) (S : List mV) (M : Mm) (Q : mQ) : vc (n + 1) d 56 20 L S M Q = (gR L 0 fun x => vc n d 56 21 L (.inr (.inr x) :: S) M Q) := nr rfl
set_option maxRecDepth 100000 in
theorem v56_21 (n d : Nat) (L : List (Option mL)) (S : List mV) (M : Mm) (Q : mQ) : vc (n + 1) d 56 21 L S M Q = (vc n d 56 22 L (.inr (.inl 0) :: S) M Q) := nr rfl
set_option maxRecDepth 100000 in
theorem v56_22 (n d : Nat) (L : List (Option mL)) (S : List mV) (M : Mm) (Q : mQ) : vc (n + 1) d 56 22 L S M Q = (pL S fun x S => pA S fun a S => shO M a 9 (vc n d 56 25 L S (M.sg a 6 x) Q)) := nr rfl
set_option maxRecDepth 100000 in
theorem v56_25 (n d : Nat) (L : List (Option mL)) (S : List mV) (M : Mm) (Q : mQ) : vc (n + 1) d 56 25 L S M Q = (S = [] ∧ Q none M) := nr rfl
set_option maxRecDepth 100000 in
theorem v57_0 (n d : Nat) (L : List (Option mL)) (S : List mV) (M : Mm) (Q : mQ) : vc (n + 1) d 57 0 L S M Q = (vc n d 57 1 L (.inl 0 :: S) M Q) := nr rfl
set_option maxRecDepth 100000 in
theorem v57_1 (n d : Nat) (L : List (Option mL)) (S : List mV) (M : Mm) (Q : mQ) : vc (n + 1) d 57 1 L S M Q = (pI S fun x S => sL L 3 (some (.inl x)) fun L => X d 57 2 L S M Q) := nr rfl
set_option maxRecDepth 100000 in
theorem v57_2 (n d : Nat) (L : List (Option mL)) (S : List mV) (M : Mm) (Q : mQ) : vc (n + 1) d 57 2 L S M Q = (gI L 3 fun x => vc n d 57 3 L (.inl x :: S) M Q) := nr rfl
set_option maxRecDepth 100000 in
theorem v57_3 (n d : Nat) (L : List (Option mL)) (S : List mV) (M : Mm) (Q : mQ) : vc (n + 1) d 57 3 L S M Q = (vc n d 57 5 L (.inl 16 :: S) M Q) := nr rfl
set_option maxRecDepth 100000 in
theorem v57_5 (n d : Nat) (L : List (Option mL)) (S : List mV) (M : Mm) (Q : mQ) : vc (n + 1) d 57 5 L S M Q = (pI S fun y S => pI S fun x S => (y ≤ x → vc n d 57 31 L S M Q) ∧ (¬ (y ≤ x) → vc n d 57 8 L S M Q)) := nr rfl
set_option maxRecDepth 100000 in
theorem v57_8 (n d : Nat) (L : List (Option mL)) (S : List mV) (M : Mm) (Q : mQ) : vc (n + 1) d 57 8 L S M Q = (gR L 0 fun x => vc n d 57 9 L (.inr (.inr x) :: S) M Q) := nr rfl
set_option maxRecDepth 100000 in
theorem v57_9 (n d : Nat) (L : List (Option mL)) (S : List mV) (M : Mm) (Q : mQ) : vc (n + 1) d 57 9 L S M Q = (pA S fun a S => shO M a 9 (rrf M a 1 fun r => vc n d 57 12 L (.inr (.inr r) :: S) M Q)) := nr rfl
set_option maxRecDepth 100000 in
theorem v57_12 (n d : Nat) (L : List (Option mL)) (S : List mV) (M : Mm) (Q : mQ) : vc (n + 1) d 57 12 L S M Q = (gI L 3 fun x => vc n d 57 13 L (.inl x :: S) M Q) := nr rfl
set_option maxRecDepth 100000 in
theorem v57_13 (n d : Nat) (L : List (Option mL)) (S : List mV) (M : Mm) (Q : mQ) : vc (n + 1) d 57 13 L S M Q = (gR L 1 fun x => vc n d 57 14 L (.inr (.inr x) :: S) M Q) := nr rfl
set_option maxRecDepth 100000 in
theorem v57_14 (n d : Nat) (L : List (Option mL)) (S : List mV) (M : Mm) (Q : mQ) : vc (n + 1) d 57 14 L S M Q = (gI L 2 fun x => vc n d 57 15 L (.inl x :: S) M Q) := nr rfl
set_option maxRecDepth 100000 in
theorem v57_15 (n d : Nat) (L : List (Option mL)) (S : List mV) (M : Mm) (Q : mQ) : vc (n + 1) d 57 15 L S M Q = (gI L 3 fun x => vc n d 57 16 L (.inl x :: S) M Q) := nr rfl
set_option maxRecDepth 100000 in
theorem v57_16 (n d : Nat) (L : List (Option mL)) (S : List mV) (M : Mm) (Q : mQ) : vc (n + 1) d 57 16 L S M Q = (pI S fun y S => pI S fun x S => vc n d 57 17 L (.inl (x + y) :: S) M Q) := nr rfl
set_option maxRecDepth 100000 in
theorem v57_17 (n d : Nat) (L : List (Option mL)) (S : List mV) (M : Mm) (Q : mQ) : vc (n + 1) d 57 17 L S M Q = (pAs 1 S fun as S => pA S fun a S => shO M a 1 (stk S ≤ 8 ∧ XC d 36 (.inr (some a) :: as) M (fun r M => ∃ x : Int32, r = some (.inl x) ∧ X d 57 20 L (.inl x :: S) M Q))) := nr rfl
set_option maxRecDepth 100000 in
theorem v57_20 (n d : Nat) (L : List (Option mL)) (S : List mV) (M : Mm) (Q : mQ) : vc (n + 1) d 57 20 L S M Q = (vc n d 57 21 L (.inl 0 :: S) M Q) := nr rfl
set_option maxRecDepth 100000 in
theorem v57_21 (n d : Nat) (L : List (Option mL)) (S : List mV) (M : Mm) (Q : mQ) : vc (n + 1) d 57 21 L S M Q = (pI S fun y S => pI S fun x S => 0 < d ∧ stk S ≤ 8 ∧ vc n d 57 24 L (.inl (imax x y) :: S) M Q) := nr rfl
set_option maxRecDepth 100000 in
theorem v57_24 (n d : Nat) (L : List (Option mL)) (S : List mV) (M : Mm) (Q : mQ) : vc (n + 1) d 57 24 L S M Q = (pI S fun x S => pI S fun i S => pA S fun a S => shA M a fun t k => t = 41 ∧ inB i k ∧ vc n d 57 25 L S (M.si a i.toNatClampNeg x) Q) := nr rfl
set_option maxRecDepth 100000 in
theorem v57_25 (n d : Nat) (L : List (Option mL)) (S : List mV) (M : Mm) (Q : mQ) : vc (n + 1) d 57 25 L S M Q = (gI L 3 fun x => sL L 3 (some (.inl (x + 1))) fun L => vc n d 57 28 L S M Q) := nr rfl
set_option maxRecDepth 100000 in
theorem v57_28 (n d : Nat) (L : List (Option mL)) (S : List mV) (M : Mm) (Q : mQ) : vc (n + 1) d 57 28 L S M Q = (X d 57 2 L S M Q) := nr rfl
set_option maxRecDepth 100000 in
theorem v57_31 (n d : Nat) (L : List (Option mL)) (S : List mV) (M : Mm) (Q : mQ) : vc (n + 1) d 57 31 L S M Q = (S = [] ∧ Q none M) := nr rfl
set_option maxRecDepth 100000 in
theorem v58_0 (n d : Nat) (L : List (Option mL)) (S : List mV) (M : Mm) (Q : mQ) : vc (n + 1) d 58 0 L S M Q = (gR L 1 fun x => vc n d 58 1 L (.inr (.inr x) :: S) M Q) := nr rfl
set_option maxRecDepth 100000 in
theorem v58_1 (n d : Nat) (L : List (Option mL)) (S : List mV) (M : Mm) (Q : mQ) : vc (n + 1) d 58 1 L S M Q = (pR S fun x S => (x = none → vc n d 58 4 L S M Q) ∧ (¬ (x = none) → vc n d 58 5 L S M Q)) := nr rfl
set_option maxRecDepth 100000 in
theorem v58_4 (n d : Nat) (L : List (Option mL)) (S : List mV) (M : Mm) (Q : mQ) : vc (n + 1) d 58 4 L S M Q = (S = [] ∧ Q none M) := nr rfl
set_option maxRecDepth 100000 in
theorem v58_5 (n d : Nat) (L : List (Option mL)) (S : List mV) (M : Mm) (Q : mQ) : vc (n + 1) d 58 5 L S M Q = (gR L 1 fun x => vc n d 58 6 L (.inr (.inr x) :: S) M Q) := nr rfl
set_option maxRecDepth 100000 in
theorem v58_6 (n d : Nat) (L : List (Option mL)) (S : List mV) (M : Mm) (Q : mQ) : vc (n + 1) d 58 6 L S M Q = (pA S fun a S => shO M a 9 (vc n d 58 9 L (.inl (M.it a 0) :: S) M Q)) := nr rfl
set_option maxRecDepth 100000 in
theorem v58_9 (n d : Nat) (L : List (Option mL)) (S : List mV) (M : Mm) (Q : mQ) : vc (n + 1) d 58 9 L S M Q = (vc n d 58 11 L (.inl 64 :: S) M Q) := nr rfl
set_option maxRecDepth 100000 in
theorem v58_11 (n d : Nat) (L : List (Option mL)) (S : List mV) (M : Mm) (Q : mQ) : vc (n + 1) d 58 11 L S M Q = (pI S fun y S => pI S fun x S => (y ≤ x → vc n d 58 32 L S M Q) ∧ (¬ (y ≤ x) → vc n d 58 14 L S M Q)) := nr rfl
set_option maxRecDepth 100000 in
theorem v58_14 (n d : Nat) (L : List (Option mL)) (S : List mV) (M : Mm) (Q : mQ) : vc (n + 1) d 58 14 L S M Q = (gR L 0 fun x => vc n d 58 15 L (.inr (.inr x) :: S) M Q) := nr rfl
set_option maxRecDepth 100000 in
theorem v58_15 (n d : Nat) (L : List (Option mL)) (S : List mV) (M : Mm) (Q : mQ) : vc (n + 1) d 58 15 L S M Q = (pC S fun v S => vc n d 58 16 L (v :: v :: S) M Q) := nr rfl
set_option maxRecDepth 100000 in
theorem v58_16 (n d : Nat) (L : List (Option mL)) (S : List mV) (M : Mm) (Q : mQ) : vc (n + 1) d 58 16 L S M Q = (pA S fun a S => shO M a 9 (vc n d 58 19 L (.inr (.inl (M.lg a 5)) :: S) M Q)) := nr rfl
set_option maxRecDepth 100000 in
theorem v58_19 (n d : Nat) (L : List (Option mL)) (S : List mV) (M : Mm) (Q : mQ) : vc (n + 1) d 58 19 L S M Q = (vc n d 58 20 L (.inr (.inl 1) :: S) M Q) := nr rfl
set_option maxRecDepth 100000 in
theorem v58_20 (n d : Nat) (L : List (Option mL)) (S : List mV) (M : Mm) (Q : mQ) : vc (n + 1) d 58 20 L S M Q = (gR L 1 fun x => vc n d 58 21 L (.inr (.inr x) :: S) M Q) := nr rfl
set_option maxRecDepth 100000 in
theorem v58_21 (n d : Nat) (L : List (Option mL)) (S : List mV) (M : Mm) (Q : mQ) : vc (n + 1) d 58 21 L S M Q = (pA S fun a S => shO M a 9 (vc n d 58 24 L (.inl (M.it a 0) :: S) M Q)) := nr rfl
set_option maxRecDepth 100000 in
theorem v58_24 (n d : Nat) (L : List (Option mL)) (S : List mV) (M : Mm) (Q : mQ) : vc (n + 1) d 58 24 L S M Q = (pI S fun y S => pL S fun x S => vc n d 58 25 L (.inr (.inl (x <<< (y.toInt64 &&& 63))) :: S) M Q) := nr rfl
set_option maxRecDepth 100000 in
theorem v58_25 (n d : Nat) (L : List (Option mL)) (S : List mV) (M : Mm) (Q : mQ) : vc (n + 1) d 58 25 L S M Q = (pL S fun y S => pL S fun x S => vc n d 58 26 L (.inr (.inl (x ||| y)) :: S) M Q) := nr rfl
set_option maxRecDepth 100000 in
theorem v58_26 (n d : Nat) (L : List (Option mL)) (S : List mV) (M : Mm) (Q : mQ) : vc (n + 1) d 58 26 L S M Q = (pL S fun x S => pA S fun a S => shO M a 9 (vc n d 58 29 L S (M.sg a 5 x) Q)) := nr rfl
set_option maxRecDepth 100000 in
theorem v58_29 (n d : Nat) (L : List (Option mL)) (S : List mV) (M : Mm) (Q : mQ) : vc (n + 1) d 58 29 L S M Q = (vc n d 58 50 L S M Q) := nr rfl
set_option maxRecDepth 100000 in
theorem v58_32 (n d : Nat) (L : List (Option mL)) (S : List mV) (M : Mm) (Q : mQ) : vc (n + 1) d 58 32 L S M Q = (gR L 0 fun x => vc n d 58 33 L (.inr (.inr x) :: S) M Q) := nr rfl
set_option maxRecDepth 100000 in
theorem v58_33 (n d : Nat) (L : List (Option mL)) (S : List mV) (M : Mm) (Q : mQ) : vc (n + 1) d 58 33 L S M Q = (pC S fun v S => vc n d 58 34 L (v :: v :: S) M Q) := nr rfl
set_option maxRecDepth 100000 in
theorem v58_34 (n d : Nat) (L : List (Option mL)) (S : List mV) (M : Mm) (Q : mQ) : vc (n + 1) d 58 34 L S M Q = (pA S fun a S => shO M a 9 (vc n d 58 37 L (.inr (.inl (M.lg a 6)) :: S) M Q)) := nr rfl
set_option maxRecDepth 100000 in
theorem v58_37 (n d : Nat) (L : List (Option mL)) (S : List mV) (M : Mm) (Q : mQ) : vc (n + 1) d 58 37 L S M Q = (vc n d 58 38 L (.inr (.inl 1) :: S) M Q) := nr rfl
set_option maxRecDepth 100000 in
theorem v58_38 (n d : Nat) (L : List (Option mL)) (S : List mV) (M : Mm) (Q : mQ) : vc (n + 1) d 58 38 L S M Q = (gR L 1 fun x => vc n d 58 39 L (.inr (.inr x) :: S) M Q) := nr rfl
set_option maxRecDepth 100000 in
theorem v58_39 (n d : Nat) (L : List (Option mL)) (S : List mV) (M : Mm) (Q : mQ) : vc (n + 1) d 58 39 L S M Q = (pA S fun a S => shO M a 9 (vc n d 58 42 L (.inl (M.it a 0) :: S) M Q)) := nr rfl
set_option maxRecDepth 100000 in
theorem v58_42 (n d : Nat) (L : List (Option mL)) (S : List mV) (M : Mm) (Q : mQ) : vc (n + 1) d 58 42 L S M Q = (vc n d 58 44 L (.inl 64 :: S) M Q) := nr rfl
set_option maxRecDepth 100000 in
theorem v58_44 (n d : Nat) (L : List (Option mL)) (S : List mV) (M : Mm) (Q : mQ) : vc (n + 1) d 58 44 L S M Q = (pI S fun y S => pI S fun x S => vc n d 58 45 L (.inl (x - y) :: S) M Q) := nr rfl
set_option maxRecDepth 100000 in
theorem v58_45 (n d : Nat) (L : List (Option mL)) (S : List mV) (M : Mm) (Q : mQ) : vc (n + 1) d 58 45 L S M Q = (pI S fun y S => pL S fun x S => vc n d 58 46 L (.inr (.inl (x <<< (y.toInt64 &&& 63))) :: S) M Q) := nr rfl
set_option maxRecDepth 100000 in
theorem v58_46 (n d : Nat) (L : List (Option mL)) (S : List mV) (M : Mm) (Q : mQ) : vc (n + 1) d 58 46 L S M Q = (pL S fun y S => pL S fun x S => vc n d 58 47 L (.inr (.inl (x ||| y)) :: S) M Q) := nr rfl
set_option maxRecDepth 100000 in
theorem v58_47 (n d : Nat) (L : List (Option mL)) (S : List mV) (M : Mm) (Q : mQ) : vc (n + 1) d 58 47 L S M Q = (pL S fun x S => pA S fun a S => shO M a 9 (vc n d 58 50 L S (M.sg a 6 x) Q)) := nr rfl
set_option maxRecDepth 100000 in
theorem v58_50 (n d : Nat) (L : List (Option mL)) (S : List mV) (M : Mm) (Q : mQ) : vc (n + 1) d 58 50 L S M Q = (S = [] ∧ Q none M) := nr rfl
set_option maxRecDepth 100000 in
theorem v59_0 (n d : Nat) (L : List (Option mL)) (S : List mV) (M : Mm) (Q : mQ) : vc (n + 1) d 59 0 L S M Q = (gR L 0 fun x => vc n d 59 1 L (.inr (.inr x) :: S) M Q) := nr rfl
set_option maxRecDepth 100000 in
theorem v59_1 (n d : Nat) (L : List (Option mL)) (S : List mV) (M : Mm) (Q : mQ) : vc (n + 1) d 59 1 L S M Q = (pA S fun a S => shO M a 0 (vc n d 59 4 L (.inl (M.it a 18) :: S) M Q)) := nr rfl
set_option maxRecDepth 100000 in
theorem v59_4 (n d : Nat) (L : List (Option mL)) (S : List mV) (M : Mm) (Q : mQ) : vc (n + 1) d 59 4 L S M Q = (pI S fun x S => (¬ x = 0 → vc n d 59 29 L S M Q) ∧ (¬ (¬ x = 0) → vc n d 59 7 L S M Q)) := nr rfl
set_option maxRecDepth 100000 in
theorem v59_7 (n d : Nat) (L : List (Option mL)) (S : List mV) (M : Mm) (Q : mQ) : vc (n + 1) d 59 7 L S M Q = (gR L 0 fun x => vc n d 59 8 L (.inr (.inr x) :: S) M Q) := nr rfl
set_option maxRecDepth 100000 in
theorem v59_8 (n d : Nat) (L : List (Option mL)) (S : List mV) (M : Mm) (Q : mQ) : vc (n + 1) d 59 8 L S M Q = (pA S fun a S => shO M a 0 (rrf M a 5 fun r => vc n d 59 11 L (.inr (.inr r) :: S) M Q)) := nr rfl
set_option maxRecDepth 100000 in
theorem v59_11 (n d : Nat) (L : List (Option mL)) (S : List mV) (M : Mm) (Q : mQ) : vc (n + 1) d 59 11 L S M Q = (gI L 1 fun x => vc n d 59 12 L (.inl x :: S) M Q) := nr rfl
set_option maxRecDepth 100000 in
theorem v59_12 (n d : Nat) (L : List (Option mL)) (S : List mV) (M : Mm) (Q : mQ) : vc (n + 1) d 59 12 L S M Q = (pAs 1 S fun as S => pA S fun a S => shO M a 5 (stk S ≤ 8 ∧ XC d 60 (.inr (some a) :: as) M (fun r M => ∃ x : Int32, r = some (.inl x) ∧ X d 59 15 L (.inl x :: S) M Q))) := nr rfl
set_option maxRecDepth 100000 in
theorem v59_15 (n d : Nat) (L : List (Option mL)) (S : List mV) (M : Mm) (Q : mQ) : vc (n + 1) d 59 15 L S M Q = (vc n d 59 16 L (.inl (-1) :: S) M Q) := nr rfl
set_option maxRecDepth 100000 in
theorem v59_16 (n d : Nat) (L : List (Option mL)) (S : List mV) (M : Mm) (Q : mQ) : vc (n + 1) d 59 16 L S M Q = (pI S fun y S => pI S fun x S => (x = y → vc n d 59 29 L S M Q) ∧ (¬ (x = y) → vc n d 59 19 L S M Q)) := nr rfl
set_option maxRecDepth 100000 in
theorem v59_19 (n d : Nat) (L : List (Option mL)) (S : List mV) (M : Mm) (Q : mQ) : vc (n + 1) d 59 19 L S M Q = (gR L 0 fun x => vc n d 59 20 L (.inr (.inr x) :: S) M Q) := nr rfl
set_option maxRecDepth 100000 in
theorem v59_20 (n d : Nat) (L : List (Option mL)) (S : List mV) (M : Mm) (Q : mQ) : vc (n + 1) d 59 20 L S M Q = (pA S fun a S => shO M a 0 (vc n d 59 23 L (.inl (M.it a 17) :: S) M Q)) := nr rfl
set_option maxRecDepth 100000 in
theorem v59_23 (n d : Nat) (L : List (Option mL)) (S : List mV) (M : Mm) (Q : mQ) : vc (n + 1) d 59 23 L S M Q = (vc n d 59 26 L (.inl 512 :: S) M Q) := nr rfl
set_option maxRecDepth 100000 in
theorem v59_26 (n d : Nat) (L : List (Option mL)) (S : List mV) (M : Mm) (Q : mQ) : vc (n + 1) d 59 26 L S M Q = (pI S fun y S => pI S fun x S => (x < y → vc n d 59 31 L S M Q) ∧ (¬ (x < y) → vc n d 59 29 L S M Q)) := nr rfl
set_option maxRecDepth 100000 in
theorem v59_29 (n d : Nat) (L : List (Option mL)) (S : List mV) (M : Mm) (Q : mQ) : vc (n + 1) d 59 29 L S M Q = (vc n d 59 30 L (.inl (-1) :: S) M Q) := nr rfl
set_option maxRecDepth 100000 in
theorem v59_30 (n d : Nat) (L : List (Option mL)) (S : List mV) (M : Mm) (Q : mQ) : vc (n + 1) d 59 30 L S M Q = (pI S fun x S => S = [] ∧ (0 = 0 ∨ x = 0 ∨ x = 1) ∧ Q (some (.inl x)) M) := nr rfl
set_option maxRecDepth 100000 in
theorem v59_31 (n d : Nat) (L : List (Option mL)) (S : List mV) (M : Mm) (Q : mQ) : vc (n + 1) d 59 31 L S M Q = (gR L 0 fun x => vc n d 59 32 L (.inr (.inr x) :: S) M Q) := nr rfl
set_option maxRecDepth 100000 in
theorem v59_32 (n d : Nat) (L : List (Option mL)) (S : List mV) (M : Mm) (Q : mQ) : vc (n + 1) d 59 32 L S M Q = (pA S fun a S => shO M a 0 (rrf M a 5 fun r => vc n d 59 35 L (.inr (.inr r) :: S) M Q)) := nr rfl
set_option maxRecDepth 100000 in
theorem v59_35 (n d : Nat) (L : List (Option mL)) (S : List mV) (M : Mm) (Q : mQ) : vc (n + 1) d 59 35 L S M Q = (pA S fun a S => shO M a 5 (rrf M a 0 fun r => vc n d 59 38 L (.inr (.inr r) :: S) M Q)) := nr rfl
set_option maxRecDepth 100000 in
theorem v59_38 (n d : Nat) (L : List (Option mL)) (S : List mV) (M : Mm) (Q : mQ) : vc (n + 1) d 59 38 L S M Q = (gI L 1 fun x => vc n d 59 39 L (.inl x :: S) M Q) := nr rfl
set_option maxRecDepth 100000 in
theorem v59_39 (n d : Nat) (L : List (Option mL)) (S : List mV) (M : Mm) (Q : mQ) : vc (n + 1) d 59 39 L S M Q = (vc n d 59 41 L (.inl (-2) :: S) M Q) := nr rfl
set_option maxRecDepth 100000 in
theorem v59_41 (n d : Nat) (L : List (Option mL)) (S : List mV) (M : Mm) (Q : mQ) : vc (n + 1) d 59 41 L S M Q = (pAs 2 S fun as S => pA S fun a S => shO M a 4 (stk S ≤ 8 ∧ XC d 38 (.inr (some a) :: as) M (fun r M => r = none ∧ X d 59 44 L S M Q))) := nr rfl
set_option maxRecDepth 100000 in
theorem v59_44 (n d : Nat) (L : List (Option mL)) (S : List mV) (M : Mm) (Q : mQ) : vc (n + 1) d 59 44 L S M Q = (gR L 0 fun x => vc n d 59 45 L (.inr (.inr x) :: S) M Q) := nr rfl
set_option maxRecDepth 100000 in
theorem v59_45 (n d : Nat) (L : List (Option mL)) (S : List mV) (M : Mm) (Q : mQ) : vc (n + 1) d 59 45 L S M Q = (pC S fun v S => vc n d 59 46 L (v :: v :: S) M Q) := nr rfl
set_option maxRecDepth 100000 in
theorem v59_46 (n d : Nat) (L : List (Option mL)) (S : List mV) (M : Mm) (Q : mQ) : vc (n + 1) d 59 46 L S M Q = (pA S fun a S => shO M a 0 (vc n d 59 49 L (.inl (M.it a 17) :: S) M Q)) := nr rfl
set_option maxRecDepth 100000 in
theorem v59_49 (n d : Nat) (L : List (Option mL)) (S : List mV) (M : Mm) (Q : mQ) : vc (n + 1) d 59 49 L S M Q = (vc n d 59 50 L (.inl 1 :: S) M Q) := nr rfl
set_option maxRecDepth 100000 in
theorem v59_50 (n d : Nat) (L : List (Option mL)) (S : List mV) (M : Mm) (Q : mQ) : vc (n + 1) d 59 50 L S M Q = (pI S fun y S => pI S fun x S => vc n d 59 51 L (.inl (x + y) :: S) M Q) := nr rfl
set_option maxRecDepth 100000 in
theorem v59_51 (n d : Nat) (L : List (Option mL)) (S : List mV) (M : Mm) (Q : mQ) : vc (n + 1) d 59 51 L S M Q = (pI S fun x S => pA S fun a S => shO M a 0 (vc n d 59 54 L S (M.si a 17 x) Q)) := nr rfl
set_option maxRecDepth 100000 in
theorem v59_54 (n d : Nat) (L : List (Option mL)) (S : List mV) (M : Mm) (Q : mQ) : vc (n + 1) d 59 54 L S M Q = (gR L 0 fun x => vc n d 59 55 L (.inr (.inr x) :: S) M Q) := nr rfl
set_option maxRecDepth 100000 in
theorem v59_55 (n d : Nat) (L : List (Option mL)) (S : List mV) (M : Mm) (Q : mQ) : vc (n + 1) d 59 55 L S M Q = (pA S fun a S => shO M a 0 (vc n d 59 58 L (.inl (M.it a 17) :: S) M Q)) := nr rfl
set_option maxRecDepth 100000 in
theorem v59_58 (n d : Nat) (L : List (Option mL)) (S : List mV) (M : Mm) (Q : mQ) : vc (n + 1) d 59 58 L S M Q = (pI S fun x S => S = [] ∧ (0 = 0 ∨ x = 0 ∨ x = 1) ∧ Q (some (.inl x)) M) := nr rfl
set_option maxRecDepth 100000 in
theorem v60_0 (n d : Nat) (L : List (Option mL)) (S : List mV) (M : Mm) (Q : mQ) : vc (n + 1) d 60 0 L S M Q = (gR L 0 fun x => vc n d 60 1 L (.inr (.inr x) :: S) M Q) := nr rfl
set_option maxRecDepth 100000 in
theorem v60_1 (n d : Nat) (L : List (Option mL)) (S : List mV) (M : Mm) (Q : mQ) : vc (n + 1) d 60 1 L S M Q = (pA S fun a S => shO M a 5 (rrf M a 0 fun r => vc n d 60 4 L (.inr (.inr r) :: S) M Q)) := nr rfl
set_option maxRecDepth 100000 in
theorem v60_4 (n d : Nat) (L : List (Option mL)) (S : List mV) (M : Mm) (Q : mQ) : vc (n + 1) d 60 4 L S M Q = (gI L 1 fun x => vc n d 60 5 L (.inl x :: S) M Q) := nr rfl
set_option maxRecDepth 100000 in
theorem v60_5 (n d : Nat) (L : List (Option mL)) (S : List mV) (M : Mm) (Q : mQ) : vc (n + 1) d 60 5 L S M Q = (pAs 1 S fun as S => pA S fun a S => shO M a 4 (stk S ≤ 8 ∧ XC d 61 (.inr (some a) :: as) M (fun r M => ∃ x : Int32, r = some (.inl x) ∧ X d 60 8 L (.inl x :: S) M Q))) := nr rfl
set_option maxRecDepth 100000 in
theorem v60_8 (n d : Nat) (L : List (Option mL)) (S : List mV) (M : Mm) (Q : mQ) : vc (n + 1) d 60 8 L S M Q = (pI S fun x S => sL L 2 (some (.inl x)) fun L => vc n d 60 9 L S M Q) := nr rfl
set_option maxRecDepth 100000 in
theorem v60_9 (n d : Nat) (L : List (Option mL)) (S : List mV) (M : Mm) (Q : mQ) : vc (n + 1) d 60 9 L S M Q = (vc n d 60 10 L (.inl 0 :: S) M Q) := nr rfl
set_option maxRecDepth 100000 in
theorem v60_10 (n d : Nat) (L : List (Option mL)) (S : List mV) (M : Mm) (Q : mQ) : vc (n + 1) d 60 10 L S M Q = (pI S fun x S => sL L 3 (some (.inl x)) fun L => X d 60 11 L S M Q) := nr rfl
set_option maxRecDepth 100000 in
theorem v60_11 (n d : Nat) (L : List (Option mL)) (S : List mV) (M : Mm) (Q : mQ) : vc (n + 1) d 60 11 L S M Q = (gI L 3 fun x => vc n d 60 12 L (.inl x :: S) M Q) := nr rfl
set_option maxRecDepth 100000 in
theorem v60_12 (n d : Nat) (L : List (Option mL)) (S : List mV) (M : Mm) (Q : mQ) : vc (n + 1) d 60 12 L S M Q = (gR L 0 fun x => vc n d 60 13 L (.inr (.inr x) :: S) M Q) := nr rfl
set_option maxRecDepth 100000 in
theorem v60_13 (n d : Nat) (L : List (Option mL)) (S : List mV) (M : Mm) (Q : mQ) : vc (n + 1) d 60 13 L S M Q = (pA S fun a S => shO M a 5 (vc n d 60 16 L (.inl (M.it a 2) :: S) M Q)) := nr rfl
set_option maxRecDepth 100000 in
theorem v60_16 (n d : Nat) (L : List (Option mL)) (S : List mV) (M : Mm) (Q : mQ) : vc (n + 1) d 60 16 L S M Q = (pI S fun y S => pI S fun x S => (y ≤ x → X d 60 46 L S M Q) ∧ (¬ (y ≤ x) → vc n d 60 19 L S M Q)) := nr rfl
set_option maxRecDepth 100000 in
theorem v60_19 (n d : Nat) (L : List (Option mL)) (S : List mV) (M : Mm) (Q : mQ) : vc (n + 1) d 60 19 L S M Q = (gI L 3 fun x => vc n d 60 20 L (.inl x :: S) M Q) := nr rfl
set_option maxRecDepth 100000 in
theorem v60_20 (n d : Nat) (L : List (Option mL)) (S : List mV) (M : Mm) (Q : mQ) : vc (n + 1) d 60 20 L S M Q = (vc n d 60 21 L (.inl 3 :: S) M Q) := nr rfl
set_option maxRecDepth 100000 in
theorem v60_21 (n d : Nat) (L : List (Option mL)) (S : List mV) (M : Mm) (Q : mQ) : vc (n + 1) d 60 21 L S M Q = (pI S fun y S => pI S fun x S => (y ≤ x → X d 60 46 L S M Q) ∧ (¬ (y ≤ x) → vc n d 60 24 L S M Q)) := nr rfl
set_option maxRecDepth 100000 in
theorem v60_24 (n d : Nat) (L : List (Option mL)) (S : List mV) (M : Mm) (Q : mQ) : vc (n + 1) d 60 24 L S M Q = (gI L 2 fun x => vc n d 60 25 L (.inl x :: S) M Q) := nr rfl
set_option maxRecDepth 100000 in
theorem v60_25 (n d : Nat) (L : List (Option mL)) (S : List mV) (M : Mm) (Q : mQ) : vc (n + 1) d 60 25 L S M Q = (vc n d 60 26 L (.inl (-1) :: S) M Q) := nr rfl
set_option maxRecDepth 100000 in
theorem v60_26 (n d : Nat) (L : List (Option mL)) (S : List mV) (M : Mm) (Q : mQ) : vc (n + 1) d 60 26 L S M Q = (pI S fun y S => pI S fun x S => (¬ x = y → X d 60 46 L S M Q) ∧ (¬ (¬ x = y) → vc n d 60 29 L S M Q)) := nr rfl
set_option maxRecDepth 100000 in
theorem v60_29 (n d : Nat) (L : List (Option mL)) (S : List mV) (M : Mm) (Q : mQ) : vc (n + 1) d 60 29 L S M Q = (gR L 0 fun x => vc n d 60 30 L (.inr (.inr x) :: S) M Q) := nr rfl
set_option maxRecDepth 100000 in
theorem v60_30 (n d : Nat) (L : List (Option mL)) (S : List mV) (M : Mm) (Q : mQ) : vc (n + 1) d 60 30 L S M Q = (pA S fun a S => shO M a 5 (rrf M a 1 fun r => vc n d 60 33 L (.inr (.inr r) :: S) M Q)) := nr rfl
set_option maxRecDepth 100000 in
theorem v60_33 (n d : Nat) (L : List (Option mL)) (S : List mV) (M : Mm) (Q : mQ) : vc (n + 1) d 60 33 L S M Q = (gI L 3 fun x => vc n d 60 34 L (.inl x :: S) M Q) := nr rfl
set_option maxRecDepth 100000 in
theorem v60_34 (n d : Nat) (L : List (Option mL)) (S : List mV) (M : Mm) (Q : mQ) : vc (n + 1) d 60 34 L S M Q = (pI S fun i S => pA S fun a S => shA M a fun t k => rTyB t = true ∧ inB i k ∧ rrf M a i.toNatClampNeg fun r => vc n d 60 35 L (.inr (.inr r) :: S) M Q) := nr rfl
set_option maxRecDepth 100000 in
theorem v60_35 (n d : Nat) (L : List (Option mL)) (S : List mV) (M : Mm) (Q : mQ) : vc (n + 1) d 60 35 L S M Q = (gI L 1 fun x => vc n d 60 36 L (.inl x :: S) M Q) := nr rfl
set_option maxRecDepth 100000 in
theorem v60_36 (n d : Nat) (L : List (Option mL)) (S : List mV) (M : Mm) (Q : mQ) : vc (n + 1) d 60 36 L S M Q = (pAs 1 S fun as S => pA S fun a S => shO M a 4 (stk S ≤ 8 ∧ XC d 61 (.inr (some a) :: as) M (fun r M => ∃ x : Int32, r = some (.inl x) ∧ X d 60 39 L (.inl x :: S) M Q))) := nr rfl
set_option maxRecDepth 100000 in
theorem v60_39 (n d : Nat) (L : List (Option mL)) (S : List mV) (M : Mm) (Q : mQ) : vc (n + 1) d 60 39 L S M Q = (pI S fun x S => sL L 2 (some (.inl x)) fun L => vc n d 60 40 L S M Q) := nr rfl
set_option maxRecDepth 100000 in
theorem v60_40 (n d : Nat) (L : List (Option mL)) (S : List mV) (M : Mm) (Q : mQ) : vc (n + 1) d 60 40 L S M Q = (gI L 3 fun x => sL L 3 (some (.inl (x + 1))) fun L => vc n d 60 43 L S M Q) := nr rfl
set_option maxRecDepth 100000 in
theorem v60_43 (n d : Nat) (L : List (Option mL)) (S : List mV) (M : Mm) (Q : mQ) : vc (n + 1) d 60 43 L S M Q = (X d 60 11 L S M Q) := nr rfl
set_option maxRecDepth 100000 in
theorem v60_46 (n d : Nat) (L : List (Option mL)) (S : List mV) (M : Mm) (Q : mQ) : vc (n + 1) d 60 46 L S M Q = (gI L 2 fun x => vc n d 60 47 L (.inl x :: S) M Q) := nr rfl
set_option maxRecDepth 100000 in
theorem v60_47 (n d : Nat) (L : List (Option mL)) (S : List mV) (M : Mm) (Q : mQ) : vc (n + 1) d 60 47 L S M Q = (vc n d 60 49 L (.inl (-2) :: S) M Q) := nr rfl
set_option maxRecDepth 100000 in
theorem v60_49 (n d : Nat) (L : List (Option mL)) (S : List mV) (M : Mm) (Q : mQ) : vc (n + 1) d 60 49 L S M Q = (pI S fun y S => pI S fun x S => (¬ x = y → vc n d 60 56 L S M Q) ∧ (¬ (¬ x = y) → vc n d 60 52 L S M Q)) := nr rfl
set_option maxRecDepth 100000 in
theorem v60_52 (n d : Nat) (L : List (Option mL)) (S : List mV) (M : Mm) (Q : mQ) : vc (n + 1) d 60 52 L S M Q = (vc n d 60 53 L (.inl (-1) :: S) M Q) := nr rfl
set_option maxRecDepth 100000 in
theorem v60_53 (n d : Nat) (L : List (Option mL)) (S : List mV) (M : Mm) (Q : mQ) : vc (n + 1) d 60 53 L S M Q = (vc n d 60 57 L S M Q) := nr rfl
set_option maxRecDepth 100000 in
theorem v60_56 (n d : Nat) (L : List (Option mL)) (S : List mV) (M : Mm) (Q : mQ) : vc (n + 1) d 60 56 L S M Q = (gI L 2 fun x => vc n d 60 57 L (.inl x :: S) M Q) := nr rfl
set_option maxRecDepth 100000 in
theorem v60_57 (n d : Nat) (L : List (Option mL)) (S : List mV) (M : Mm) (Q : mQ) : vc (n + 1) d 60 57 L S M Q = (pI S fun x S => S = [] ∧ (0 = 0 ∨ x = 0 ∨ x = 1) ∧ Q (some (.inl x)) M) := nr rfl
set_option maxRecDepth 100000 in
theorem v61_0 (n d : Nat) (L : List (Option mL)) (S : List mV) (M : Mm) (Q : mQ) : vc (n + 1) d 61 0 L S M Q = (gI L 1 fun x => vc n d 61 1 L (.inl x :: S) M Q) := nr rfl
set_option maxRecDepth 100000 in
theorem v61_1 (n d : Nat) (L : List (Option mL)) (S : List mV) (M : Mm) (Q : mQ) : vc (n + 1) d 61 1 L S M Q = (pAs 1 S fun as S => stk S ≤ 8 ∧ XC d 39 as M (fun r M => ∃ x : Int32, r = some (.inl x) ∧ X d 61 4 L (.inl x :: S) M Q)) := nr rfl
set_option maxRecDepth 100000 in
theorem v61_4 (n d : Nat) (L : List (Option mL)) (S : List mV) (M : Mm) (Q : mQ) : vc (n + 1) d 61 4 L S M Q = (pI S fun x S => (x = 0 → vc n d 61 16 L S M Q) ∧ (¬ (x = 0) → vc n d 61 7 L S M Q)) := nr rfl
set_option maxRecDepth 100000 in
theorem v61_7 (n d : Nat) (L : List (Option mL)) (S : List mV) (M : Mm) (Q : mQ) : vc (n + 1) d 61 7 L S M Q = (gR L 0 fun x => vc n d 61 8 L (.inr (.inr x) :: S) M Q) := nr rfl
set_option maxRecDepth 100000 in
theorem v61_8 (n d : Nat) (L : List (Option mL)) (S : List mV) (M : Mm) (Q : mQ) : vc (n + 1) d 61 8 L S M Q = (pA S fun a S => shO M a 4 (rrf M a 0 fun r => vc n d 61 11 L (.inr (.inr r) :: S) M Q)) := nr rfl
set_option maxRecDepth 100000 in
theorem v61_11 (n d : Nat) (L : List (Option mL)) (S : List mV) (M : Mm) (Q : mQ) : vc (n + 1) d 61 11 L S M Q = (gI L 1 fun x => vc n d 61 12 L (.inl x :: S) M Q) := nr rfl
set_option maxRecDepth 100000 in
theorem v61_12 (n d : Nat) (L : List (Option mL)) (S : List mV) (M : Mm) (Q : mQ) : vc (n + 1) d 61 12 L S M Q = (pI S fun i S => pA S fun a S => shA M a fun t k => (t = 40 ∨ t = 41) ∧ inB i k ∧ vc n d 61 13 L (.inl (M.it a i.toNatClampNeg) :: S) M Q) := nr rfl
set_option maxRecDepth 100000 in
theorem v61_13 (n d : Nat) (L : List (Option mL)) (S : List mV) (M : Mm) (Q : mQ) : vc (n + 1) d 61 13 L S M Q = (vc n d 61 17 L S M Q) := nr rfl
set_option maxRecDepth 100000 in
theorem v61_16 (n d : Nat) (L : List (Option mL)) (S : List mV) (M : Mm) (Q : mQ) : vc (n + 1) d 61 16 L S M Q = (vc n d 61 17 L (.inl (-1) :: S) M Q) := nr rfl
set_option maxRecDepth 100000 in
theorem v61_17 (n d : Nat) (L : List (Option mL)) (S : List mV) (M : Mm) (Q : mQ) : vc (n + 1) d 61 17 L S M Q = (pI S fun x S => S = [] ∧ (0 = 0 ∨ x = 0 ∨ x = 1) ∧ Q (some (.inl x)) M) := nr rfl
set_option maxRecDepth 100000 in
theorem v62_0 (n d : Nat) (L : List (Option mL)) (S : List mV) (M : Mm) (Q : mQ) : vc (n + 1) d 62 0 L S M Q = (gR L 0 fun x => vc n d 62 1 L (.inr (.inr x) :: S) M Q) := nr rfl
set_option maxRecDepth 100000 in
theorem v62_1 (n d : Nat) (L : List (Option mL)) (S : List mV) (M : Mm) (Q : mQ) : vc (n + 1) d 62 1 L S M Q = (pA S fun a S => shO M a 0 (vc n d 62 4 L (.inl (M.it a 18) :: S) M Q)) := nr rfl
set_option maxRecDepth 100000 in
theorem v62_4 (n d : Nat) (L : List (Option mL)) (S : List mV) (M : Mm) (Q : mQ) : vc (n + 1) d 62 4 L S M Q = (pI S fun x S => (x = 0 → vc n d 62 9 L S M Q) ∧ (¬ (x = 0) → vc n d 62 7 L S M Q)) := nr rfl
set_option maxRecDepth 100000 in
theorem v62_7 (n d : Nat) (L : List (Option mL)) (S : List mV) (M : Mm) (Q : mQ) : vc (n + 1) d 62 7 L S M Q = (vc n d 62 8 L (.inl (-1) :: S) M Q) := nr rfl
set_option maxRecDepth 100000 in
theorem v62_8 (n d : Nat) (L : List (Option mL)) (S : List mV) (M : Mm) (Q : mQ) : vc (n + 1) d 62 8 L S M Q = (pI S fun x S => S = [] ∧ (0 = 0 ∨ x = 0 ∨ x = 1) ∧ Q (some (.inl x)) M) := nr rfl
set_option maxRecDepth 100000 in
theorem v62_9 (n d : Nat) (L : List (Option mL)) (S : List mV) (M : Mm) (Q : mQ) : vc (n + 1) d 62 9 L S M Q = (gR L 0 fun x => vc n d 62 10 L (.inr (.inr x) :: S) M Q) := nr rfl
set_option maxRecDepth 100000 in
theorem v62_10 (n d : Nat) (L : List (Option mL)) (S : List mV) (M : Mm) (Q : mQ) : vc (n + 1) d 62 10 L S M Q = (pA S fun a S => shO M a 0 (rrf M a 5 fun r => vc n d 62 13 L (.inr (.inr r) :: S) M Q)) := nr rfl
set_option maxRecDepth 100000 in
theorem v62_13 (n d : Nat) (L : List (Option mL)) (S : List mV) (M : Mm) (Q : mQ) : vc (n + 1) d 62 13 L S M Q = (gI L 1 fun x => vc n d 62 14 L (.inl x :: S) M Q) := nr rfl
set_option maxRecDepth 100000 in
theorem v62_14 (n d : Nat) (L : List (Option mL)) (S : List mV) (M : Mm) (Q : mQ) : vc (n + 1) d 62 14 L S M Q = (pAs 1 S fun as S => pA S fun a S => shO M a 5 (stk S ≤ 8 ∧ XC d 60 (.inr (some a) :: as) M (fun r M => ∃ x : Int32, r = some (.inl x) ∧ X d 62 17 L (.inl x :: S) M Q))) := nr rfl
set_option maxRecDepth 100000 in
theorem v62_17 (n d : Nat) (L : List (Option mL)) (S : List mV) (M : Mm) (Q : mQ) : vc (n + 1) d 62 17 L S M Q = (pI S fun x S => sL L 2 (some (.inl x)) fun L => vc n d 62 18 L S M Q) := nr rfl
set_option maxRecDepth 100000 in
theorem v62_18 (n d : Nat) (L : List (Option mL)) (S : List mV) (M : Mm) (Q : mQ) : vc (n + 1) d 62 18 L S M Q = (gI L 2 fun x => vc n d 62 19 L (.inl x :: S) M Q) := nr rfl
set_option maxRecDepth 100000 in
theorem v62_19 (n d : Nat) (L : List (Option mL)) (S : List mV) (M : Mm) (Q : mQ) : vc (n + 1) d 62 19 L S M Q = (vc n d 62 20 L (.inl (-1) :: S) M Q) := nr rfl
set_option maxRecDepth 100000 in
theorem v62_20 (n d : Nat) (L : List (Option mL)) (S : List mV) (M : Mm) (Q : mQ) : vc (n + 1) d 62 20 L S M Q = (pI S fun y S => pI S fun x S => (¬ x = y → vc n d 62 25 L S M Q) ∧ (¬ (¬ x = y) → vc n d 62 23 L S M Q)) := nr rfl
set_option maxRecDepth 100000 in
theorem v62_23 (n d : Nat) (L : List (Option mL)) (S : List mV) (M : Mm) (Q : mQ) : vc (n + 1) d 62 23 L S M Q = (vc n d 62 24 L (.inl (-1) :: S) M Q) := nr rfl
set_option maxRecDepth 100000 in
theorem v62_24 (n d : Nat) (L : List (Option mL)) (S : List mV) (M : Mm) (Q : mQ) : vc (n + 1) d 62 24 L S M Q = (pI S fun x S => S = [] ∧ (0 = 0 ∨ x = 0 ∨ x = 1) ∧ Q (some (.inl x)) M) := nr rfl
set_option maxRecDepth 100000 in
theorem v62_25 (n d : Nat) (L : List (Option mL)) (S : List mV) (M : Mm) (Q : mQ) : vc (n + 1) d 62 25 L S M Q = (gR L 0 fun x => vc n d 62 26 L (.inr (.inr x) :: S) M Q) := nr rfl
set_option maxRecDepth 100000 in
theorem v62_26 (n d : Nat) (L : List (Option mL)) (S : List mV) (M : Mm) (Q : mQ) : vc (n + 1) d 62 26 L S M Q = (gI L 2 fun x => vc n d 62 27 L (.inl x :: S) M Q) := nr rfl
set_option maxRecDepth 100000 in
theorem v62_27 (n d : Nat) (L : List (Option mL)) (S : List mV) (M : Mm) (Q : mQ) : vc (n + 1) d 62 27 L S M Q = (pAs 1 S fun as S => pA S fun a S => shO M a 0 (stk S ≤ 8 ∧ XC d 22 (.inr (some a) :: as) M (fun r M => r = none ∧ X d 62 30 L S M Q))) := nr rfl
set_option maxRecDepth 100000 in
theorem v62_30 (n d : Nat) (L : List (Option mL)) (S : List mV) (M : Mm) (Q : mQ) : vc (n + 1) d 62 30 L S M Q = (gR L 0 fun x => vc n d 62 31 L (.inr (.inr x) :: S) M Q) := nr rfl
set_option maxRecDepth 100000 in
theorem v62_31 (n d : Nat) (L : List (Option mL)) (S : List mV) (M : Mm) (Q : mQ) : vc (n + 1) d 62 31 L S M Q = (gI L 2 fun x => vc n d 62 32 L (.inl x :: S) M Q) := nr rfl
set_option maxRecDepth 100000 in
theorem v62_32 (n d : Nat) (L : List (Option mL)) (S : List mV) (M : Mm) (Q : mQ) : vc (n + 1) d 62 32 L S M Q = (gR L 0 fun x => vc n d 62 33 L (.inr (.inr x) :: S) M Q) := nr rfl
set_option maxRecDepth 100000 in
theorem v62_33 (n d : Nat) (L : List (Option mL)) (S : List mV) (M : Mm) (Q : mQ) : vc (n + 1) d 62 33 L S M Q = (pA S fun a S => shO M a 0 (rrf M a 7 fun r => vc n d 62 36 L (.inr (.inr r) :: S) M Q)) := nr rfl
set_option maxRecDepth 100000 in
theorem v62_36 (n d : Nat) (L : List (Option mL)) (S : List mV) (M : Mm) (Q : mQ) : vc (n + 1) d 62 36 L S M Q = (pAs 2 S fun as S => pA S fun a S => shO M a 0 (stk S ≤ 8 ∧ XC d 31 (.inr (some a) :: as) M (fun r M => r = none ∧ X d 62 39 L S M Q))) := nr rfl
set_option maxRecDepth 100000 in
theorem v62_39 (n d : Nat) (L : List (Option mL)) (S : List mV) (M : Mm) (Q : mQ) : vc (n + 1) d 62 39 L S M Q = (gR L 0 fun x => vc n d 62 40 L (.inr (.inr x) :: S) M Q) := nr rfl
set_option maxRecDepth 100000 in
theorem v62_40 (n d : Nat) (L : List (Option mL)) (S : List mV) (M : Mm) (Q : mQ) : vc (n + 1) d 62 40 L S M Q = (pA S fun a S => shO M a 0 (rrf M a 7 fun r => vc n d 62 43 L (.inr (.inr r) :: S) M Q)) := nr rfl
set_option maxRecDepth 100000 in
theorem v62_43 (n d : Nat) (L : List (Option mL)) (S : List mV) (M : Mm) (Q : mQ) : vc (n + 1) d 62 43 L S M Q = (pA S fun a S => shO M a 1 (vc n d 62 46 L (.inl (M.it a 1) :: S) M Q)) := nr rfl
set_option maxRecDepth 100000 in
theorem v62_46 (n d : Nat) (L : List (Option mL)) (S : List mV) (M : Mm) (Q : mQ) : vc (n + 1) d 62 46 L S M Q = (pI S fun x S => S = [] ∧ (0 = 0 ∨ x = 0 ∨ x = 1) ∧ Q (some (.inl x)) M) := nr rfl
set_option maxRecDepth 100000 in
theorem v63_0 (n d : Nat) (L : List (Option mL)) (S : List mV) (M : Mm) (Q : mQ) : vc (n + 1) d 63 0 L S M Q = (gR L 0 fun x => vc n d 63 1 L (.inr (.inr x) :: S) M Q) := nr rfl
set_option maxRecDepth 100000 in
theorem v63_1 (n d : Nat) (L : List (Option mL)) (S : List mV) (M : Mm) (Q : mQ) : vc (n + 1) d 63 1 L S M Q = (pA S fun a S => shO M a 0 (rrf M a 7 fun r => vc n d 63 4 L (.inr (.inr r) :: S) M Q)) := nr rfl
set_option maxRecDepth 100000 in
theorem v63_4 (n d : Nat) (L : List (Option mL)) (S : List mV) (M : Mm) (Q : mQ) : vc (n + 1) d 63 4 L S M Q = (gI L 1 fun x => vc n d 63 5 L (.inl x :: S) M Q) := nr rfl
set_option maxRecDepth 100000 in
theorem v63_5 (n d : Nat) (L : List (Option mL)) (S : List mV) (M : Mm) (Q : mQ) : vc (n + 1) d 63 5 L S M Q = (pAs 1 S fun as S => pA S fun a S => shO M a 1 (stk S ≤ 8 ∧ XC d 36 (.inr (some a) :: as) M (fun r M => ∃ x : Int32, r = some (.inl x) ∧ X d 63 8 L (.inl x :: S) M Q))) := nr rfl
set_option maxRecDepth 100000 in
theorem v63_8 (n d : Nat) (L : List (Option mL)) (S : List mV) (M : Mm) (Q : mQ) : vc (n + 1) d 63 8 L S M Q = (pI S fun x S => S = [] ∧ (0 = 0 ∨ x = 0 ∨ x = 1) ∧ Q (some (.inl x)) M) := nr rfl
set_option maxRecDepth 100000 in
theorem v64_0 (n d : Nat) (L : List (Option mL)) (S : List mV) (M : Mm) (Q : mQ) : vc (n + 1) d 64 0 L S M Q = (gR L 0 fun x => vc n d 64 1 L (.inr (.inr x) :: S) M Q) := nr rfl
set_option maxRecDepth 100000 in
theorem v64_1 (n d : Nat) (L : List (Option mL)) (S : List mV) (M : Mm) (Q : mQ) : vc (n + 1) d 64 1 L S M Q = (pA S fun a S => shO M a 0 (vc n d 64 4 L (.inl (M.it a 18) :: S) M Q)) := nr rfl
set_option maxRecDepth 100000 in
theorem v64_4 (n d : Nat) (L : List (Option mL)) (S : List mV) (M : Mm) (Q : mQ) : vc (n + 1) d 64 4 L S M Q = (pI S fun x S => (¬ x = 0 → vc n d 64 11 L S M Q) ∧ (¬ (¬ x = 0) → vc n d 64 7 L S M Q)) := nr rfl
set_option maxRecDepth 100000 in
theorem v64_7 (n d : Nat) (L : List (Option mL)) (S : List mV) (M : Mm) (Q : mQ) : vc (n + 1) d 64 7 L S M Q = (gI L 1 fun x => vc n d 64 8 L (.inl x :: S) M Q) := nr rfl
set_option maxRecDepth 100000 in
theorem v64_8 (n d : Nat) (L : List (Option mL)) (S : List mV) (M : Mm) (Q : mQ) : vc (n + 1) d 64 8 L S M Q = (pI S fun x S => (0 ≤ x → vc n d 64 13 L S M Q) ∧ (¬ (0 ≤ x) → vc n d 64 11 L S M Q)) := nr rfl
set_option maxRecDepth 100000 in
theorem v64_11 (n d : Nat) (L : List (Option mL)) (S : List mV) (M : Mm) (Q : mQ) : vc (n + 1) d 64 11 L S M Q = (vc n d 64 12 L (.inl (-1) :: S) M Q) := nr rfl
set_option maxRecDepth 100000 in
theorem v64_12 (n d : Nat) (L : List (Option mL)) (S : List mV) (M : Mm) (Q : mQ) : vc (n + 1) d 64 12 L S M Q = (pI S fun x S => S = [] ∧ (0 = 0 ∨ x = 0 ∨ x = 1) ∧ Q (some (.inl x)) M) := nr rfl
set_option maxRecDepth 100000 in
theorem v64_13 (n d : Nat) (L : List (Option mL)) (S : List mV) (M : Mm) (Q : mQ) : vc (n + 1) d 64 13 L S M Q = (vc n d 64 14 L (.inl 0 :: S) M Q) := nr rfl
set_option maxRecDepth 100000 in
theorem v64_14 (n d : Nat) (L : List (Option mL)) (S : List mV) (M : Mm) (Q : mQ) : vc (n + 1) d 64 14 L S M Q = (pI S fun x S => sL L 2 (some (.inl x)) fun L => vc n d 64 15 L S M Q) := nr rfl
set_option maxRecDepth 100000 in
theorem v64_15 (n d : Nat) (L : List (Option mL)) (S : List mV) (M : Mm) (Q : mQ) : vc (n + 1) d 64 15 L S M Q = (vc n d 64 16 L (.inl 0 :: S) M Q) := nr rfl
set_option maxRecDepth 100000 in
theorem v64_16 (n d : Nat) (L : List (Option mL)) (S : List mV) (M : Mm) (Q : mQ) : vc (n + 1) d 64 16 L S M Q = (pI S fun x S => sL L 3 (some (.inl x)) fun L => X d 64 17 L S M Q) := nr rfl
set_option maxRecDepth 100000 in
theorem v64_17 (n d : Nat) (L : List (Option mL)) (S : List mV) (M : Mm) (Q : mQ) : vc (n + 1) d 64 17 L S M Q = (gI L 3 fun x => vc n d 64 18 L (.inl x :: S) M Q) := nr rfl
set_option maxRecDepth 100000 in
theorem v64_18 (n d : Nat) (L : List (Option mL)) (S : List mV) (M : Mm) (Q : mQ) : vc (n + 1) d 64 18 L S M Q = (vc n d 64 20 L (.inl 48 :: S) M Q) := nr rfl
set_option maxRecDepth 100000 in
theorem v64_20 (n d : Nat) (L : List (Option mL)) (S : List mV) (M : Mm) (Q : mQ) : vc (n + 1) d 64 20 L S M Q = (pI S fun y S => pI S fun x S => (y ≤ x → vc n d 64 51 L S M Q) ∧ (¬ (y ≤ x) → vc n d 64 23 L S M Q)) := nr rfl
set_option maxRecDepth 100000 in
theorem v64_23 (n d : Nat) (L : List (Option mL)) (S : List mV) (M : Mm) (Q : mQ) : vc (n + 1) d 64 23 L S M Q = (gR L 0 fun x => vc n d 64 24 L (.inr (.inr x) :: S) M Q) := nr rfl
set_option maxRecDepth 100000 in
theorem v64_24 (n d : Nat) (L : List (Option mL)) (S : List mV) (M : Mm) (Q : mQ) : vc (n + 1) d 64 24 L S M Q = (pA S fun a S => shO M a 0 (rrf M a 5 fun r => vc n d 64 27 L (.inr (.inr r) :: S) M Q)) := nr rfl
set_option maxRecDepth 100000 in
theorem v64_27 (n d : Nat) (L : List (Option mL)) (S : List mV) (M : Mm) (Q : mQ) : vc (n + 1) d 64 27 L S M Q = (gI L 3 fun x => vc n d 64 28 L (.inl x :: S) M Q) := nr rfl
set_option maxRecDepth 100000 in
theorem v64_28 (n d : Nat) (L : List (Option mL)) (S : List mV) (M : Mm) (Q : mQ) : vc (n + 1) d 64 28 L S M Q = (pAs 1 S fun as S => pA S fun a S => shO M a 5 (stk S ≤ 8 ∧ XC d 60 (.inr (some a) :: as) M (fun r M => ∃ x : Int32, r = some (.inl x) ∧ X d 64 31 L (.inl x :: S) M Q))) := nr rfl
set_option maxRecDepth 100000 in
theorem v64_31 (n d : Nat) (L : List (Option mL)) (S : List mV) (M : Mm) (Q : mQ) : vc (n + 1) d 64 31 L S M Q = (vc n d 64 32 L (.inl (-1) :: S) M Q) := nr rfl
set_option maxRecDepth 100000 in
theorem v64_32 (n d : Nat) (L : List (Option mL)) (S : List mV) (M : Mm) (Q : mQ) : vc (n + 1) d 64 32 L S M Q = (pI S fun y S => pI S fun x S => (x = y → vc n d 64 45 L S M Q) ∧ (¬ (x = y) → vc n d 64 35 L S M Q)) := nr rfl
set_option maxRecDepth 100000 in
theorem v64_35 (n d : Nat) (L : List (Option mL)) (S : List mV) (M : Mm) (Q : mQ) : vc (n + 1) d 64 35 L S M Q = (gI L 2 fun x => vc n d 64 36 L (.inl x :: S) M Q) := nr rfl
set_option maxRecDepth 100000 in
theorem v64_36 (n d : Nat) (L : List (Option mL)) (S : List mV) (M : Mm) (Q : mQ) : vc (n + 1) d 64 36 L S M Q = (gI L 1 fun x => vc n d 64 37 L (.inl x :: S) M Q) := nr rfl
set_option maxRecDepth 100000 in
theorem v64_37 (n d : Nat) (L : List (Option mL)) (S : List mV) (M : Mm) (Q : mQ) : vc (n + 1) d 64 37 L S M Q = (pI S fun y S => pI S fun x S => (¬ x = y → vc n d 64 42 L S M Q) ∧ (¬ (¬ x = y) → vc n d 64 40 L S M Q)) := nr rfl
set_option maxRecDepth 100000 in
theorem v64_40 (n d : Nat) (L : List (Option mL)) (S : List mV) (M : Mm) (Q : mQ) : vc (n + 1) d 64 40 L S M Q = (gI L 3 fun x => vc n d 64 41 L (.inl x :: S) M Q) := nr rfl
set_option maxRecDepth 100000 in
theorem v64_41 (n d : Nat) (L : List (Option mL)) (S : List mV) (M : Mm) (Q : mQ) : vc (n + 1) d 64 41 L S M Q = (pI S fun x S => S = [] ∧ (0 = 0 ∨ x = 0 ∨ x = 1) ∧ Q (some (.inl x)) M) := nr rfl
set_option maxRecDepth 100000 in
theorem v64_42 (n d : Nat) (L : List (Option mL)) (S : List mV) (M : Mm) (Q : mQ) : vc (n + 1) d 64 42 L S M Q = (gI L 2 fun x => sL L 2 (some (.inl (x + 1))) fun L => vc n d 64 45 L S M Q) := nr rfl
set_option maxRecDepth 100000 in
theorem v64_45 (n d : Nat) (L : List (Option mL)) (S : List mV) (M : Mm) (Q : mQ) : vc (n + 1) d 64 45 L S M Q = (gI L 3 fun x => sL L 3 (some (.inl (x + 1))) fun L => vc n d 64 48 L S M Q) := nr rfl
set_option maxRecDepth 100000 in
theorem v64_48 (n d : Nat) (L : List (Option mL)) (S : List mV) (M : Mm) (Q : mQ) : vc (n + 1) d 64 48 L S M Q = (X d 64 17 L S M Q) := nr rfl
set_option maxRecDepth 100000 in
theorem v64_51 (n d : Nat) (L : List (Option mL)) (S : List mV) (M : Mm) (Q : mQ) : vc (n + 1) d 64 51 L S M Q = (vc n d 64 52 L (.inl (-1) :: S) M Q) := nr rfl
set_option maxRecDepth 100000 in
theorem v64_52 (n d : Nat) (L : List (Option mL)) (S : List mV) (M : Mm) (Q : mQ) : vc (n + 1) d 64 52 L S M Q = (pI S fun x S => S = [] ∧ (0 = 0 ∨ x = 0 ∨ x = 1) ∧ Q (some (.inl x)) M) := nr rfl
set_option maxRecDepth 100000 in
theorem v65_0 (n d : Nat) (L : List (Option mL)) (S : List mV) (M : Mm) (Q : mQ) : vc (n + 1) d 65 0 L S M Q = (gR L 0 fun x => vc n d 65 1 L (.inr (.inr x) :: S) M Q) := nr rfl
set_option maxRecDepth 100000 in
theorem v65_1 (n d : Nat) (L : List (Option mL)) (S : List mV) (M : Mm) (Q : mQ) : vc (n + 1) d 65 1 L S M Q = (pA S fun a S => shO M a 0 (vc n d 65 4 L (.inl (M.it a 18) :: S) M Q)) := nr rfl
set_option maxRecDepth 100000 in
theorem v65_4 (n d : Nat) (L : List (Option mL)) (S : List mV) (M : Mm) (Q : mQ) : vc (n + 1) d 65 4 L S M Q = (pI S fun x S => (x = 0 → vc n d 65 9 L S M Q) ∧ (¬ (x = 0) → vc n d 65 7 L S M Q)) := nr rfl
set_option maxRecDepth 100000 in
theorem v65_7 (n d : Nat) (L : List (Option mL)) (S : List mV) (M : Mm) (Q : mQ) : vc (n + 1) d 65 7 L S M Q = (vc n d 65 8 L (.inl (-1) :: S) M Q) := nr rfl
set_option maxRecDepth 100000 in
theorem v65_8 (n d : Nat) (L : List (Option mL)) (S : List mV) (M : Mm) (Q : mQ) : vc (n + 1) d 65 8 L S M Q = (pI S fun x S => S = [] ∧ (0 = 0 ∨ x = 0 ∨ x = 1) ∧ Q (some (.inl x)) M) := nr rfl
set_option maxRecDepth 100000 in
theorem v65_9 (n d : Nat) (L : List (Option mL)) (S : List mV) (M : Mm) (Q : mQ) : vc (n + 1) d 65 9 L S M Q = (gR L 0 fun x => vc n d 65 10 L (.inr (.inr x) :: S) M Q) := nr rfl
set_option maxRecDepth 100000 in
theorem v65_10 (n d : Nat) (L : List (Option mL)) (S : List mV) (M : Mm) (Q : mQ) : vc (n + 1) d 65 10 L S M Q = (pA S fun a S => shO M a 0 (rrf M a 5 fun r => vc n d 65 13 L (.inr (.inr r) :: S) M Q)) := nr rfl
set_option maxRecDepth 100000 in
theorem v65_13 (n d : Nat) (L : List (Option mL)) (S : List mV) (M : Mm) (Q : mQ) : vc (n + 1) d 65 13 L S M Q = (pA S fun a S => shO M a 5 (rrf M a 0 fun r => vc n d 65 16 L (.inr (.inr r) :: S) M Q)) := nr rfl
set_option maxRecDepth 100000 in
theorem v65_16 (n d : Nat) (L : List (Option mL)) (S : List mV) (M : Mm) (Q : mQ) : vc (n + 1) d 65 16 L S M Q = (pA S fun a S => shO M a 4 (vc n d 65 19 L (.inl (M.it a 1) :: S) M Q)) := nr rfl
set_option maxRecDepth 100000 in
theorem v65_19 (n d : Nat) (L : List (Option mL)) (S : List mV) (M : Mm) (Q : mQ) : vc (n + 1) d 65 19 L S M Q = (pI S fun x S => (¬ x = 0 → vc n d 65 24 L S M Q) ∧ (¬ (¬ x = 0) → vc n d 65 22 L S M Q)) := nr rfl
set_option maxRecDepth 100000 in
theorem v65_22 (n d : Nat) (L : List (Option mL)) (S : List mV) (M : Mm) (Q : mQ) : vc (n + 1) d 65 22 L S M Q = (vc n d 65 23 L (.inl 0 :: S) M Q) := nr rfl
set_option maxRecDepth 100000 in
theorem v65_23 (n d : Nat) (L : List (Option mL)) (S : List mV) (M : Mm) (Q : mQ) : vc (n + 1) d 65 23 L S M Q = (pI S fun x S => S = [] ∧ (0 = 0 ∨ x = 0 ∨ x = 1) ∧ Q (some (.inl x)) M) := nr rfl
set_option maxRecDepth 100000 in
theorem v65_24 (n d : Nat) (L : List (Option mL)) (S : List mV) (M : Mm) (Q : mQ) : vc (n + 1) d 65 24 L S M Q = (gR L 0 fun x => vc n d 65 25 L (.inr (.inr x) :: S) M Q) := nr rfl
set_option maxRecDepth 100000 in
theorem v65_25 (n d : Nat) (L : List (Option mL)) (S : List mV) (M : Mm) (Q : mQ) : vc (n + 1) d 65 25 L S M Q = (pA S fun a S => shO M a 0 (rrf M a 5 fun r => vc n d 65 28 L (.inr (.inr r) :: S) M Q)) := nr rfl
set_option maxRecDepth 100000 in
theorem v65_28 (n d : Nat) (L : List (Option mL)) (S : List mV) (M : Mm) (Q : mQ) : vc (n + 1) d 65 28 L S M Q = (pA S fun a S => shO M a 5 (vc n d 65 31 L (.inl (M.it a 2) :: S) M Q)) := nr rfl
set_option maxRecDepth 100000 in
theorem v65_31 (n d : Nat) (L : List (Option mL)) (S : List mV) (M : Mm) (Q : mQ) : vc (n + 1) d 65 31 L S M Q = (vc n d 65 32 L (.inl 3 :: S) M Q) := nr rfl
set_option maxRecDepth 100000 in
theorem v65_32 (n d : Nat) (L : List (Option mL)) (S : List mV) (M : Mm) (Q : mQ) : vc (n + 1) d 65 32 L S M Q = (pI S fun y S => pI S fun x S => (x < y → vc n d 65 39 L S M Q) ∧ (¬ (x < y) → vc n d 65 35 L S M Q)) := nr rfl
set_option maxRecDepth 100000 in
theorem v65_35 (n d : Nat) (L : List (Option mL)) (S : List mV) (M : Mm) (Q : mQ) : vc (n + 1) d 65 35 L S M Q = (vc n d 65 36 L (.inl 1 :: S) M Q) := nr rfl
set_option maxRecDepth 100000 in
theorem v65_36 (n d : Nat) (L : List (Option mL)) (S : List mV) (M : Mm) (Q : mQ) : vc (n + 1) d 65 36 L S M Q = (X d 65 40 L S M Q) := nr rfl
set_option maxRecDepth 100000 in
theorem v65_39 (n d : Nat) (L : List (Option mL)) (S : List mV) (M : Mm) (Q : mQ) : vc (n + 1) d 65 39 L S M Q = (X d 65 40 L (.inl 0 :: S) M Q) := nr rfl
set_option maxRecDepth 100000 in
theorem v65_40 (n d : Nat) (L : List (Option mL)) (S : List mV) (M : Mm) (Q : mQ) : vc (n + 1) d 65 40 L S M Q = (pI S fun x S => sL L 1 (some (.inl x)) fun L => vc n d 65 41 L S M Q) := nr rfl
set_option maxRecDepth 100000 in
theorem v65_41 (n d : Nat) (L : List (Option mL)) (S : List mV) (M : Mm) (Q : mQ) : vc (n + 1) d 65 41 L S M Q = (gI L 1 fun x => vc n d 65 42 L (.inl x :: S) M Q) := nr rfl
set_option maxRecDepth 100000 in
theorem v65_42 (n d : Nat) (L : List (Option mL)) (S : List mV) (M : Mm) (Q : mQ) : vc (n + 1) d 65 42 L S M Q = (pI S fun x S => (x = 0 → vc n d 65 55 L S M Q) ∧ (¬ (x = 0) → vc n d 65 45 L S M Q)) := nr rfl
set_option maxRecDepth 100000 in
theorem v65_45 (n d : Nat) (L : List (Option mL)) (S : List mV) (M : Mm) (Q : mQ) : vc (n + 1) d 65 45 L S M Q = (gR L 0 fun x => vc n d 65 46 L (.inr (.inr x) :: S) M Q) := nr rfl
set_option maxRecDepth 100000 in
theorem v65_46 (n d : Nat) (L : List (Option mL)) (S : List mV) (M : Mm) (Q : mQ) : vc (n + 1) d 65 46 L S M Q = (pA S fun a S => shO M a 0 (rrf M a 5 fun r => vc n d 65 49 L (.inr (.inr r) :: S) M Q)) := nr rfl
set_option maxRecDepth 100000 in
theorem v65_49 (n d : Nat) (L : List (Option mL)) (S : List mV) (M : Mm) (Q : mQ) : vc (n + 1) d 65 49 L S M Q = (pAs 0 S fun as S => pA S fun a S => shO M a 5 (stk S ≤ 8 ∧ XC d 66 (.inr (some a) :: as) M (fun r M => ∃ x : Int32, r = some (.inl x) ∧ X d 65 52 L (.inl x :: S) M Q))) := nr rfl
set_option maxRecDepth 100000 in
theorem v65_52 (n d : Nat) (L : List (Option mL)) (S : List mV) (M : Mm) (Q : mQ) : vc (n + 1) d 65 52 L S M Q = (X d 65 65 L S M Q) := nr rfl
set_option maxRecDepth 100000 in
theorem v65_55 (n d : Nat) (L : List (Option mL)) (S : List mV) (M : Mm) (Q : mQ) : vc (n + 1) d 65 55 L S M Q = (gR L 0 fun x => vc n d 65 56 L (.inr (.inr x) :: S) M Q) := nr rfl
set_option maxRecDepth 100000 in
theorem v65_56 (n d : Nat) (L : List (Option mL)) (S : List mV) (M : Mm) (Q : mQ) : vc (n + 1) d 65 56 L S M Q = (pA S fun a S => shO M a 0 (rrf M a 5 fun r => vc n d 65 59 L (.inr (.inr r) :: S) M Q)) := nr rfl
set_option maxRecDepth 100000 in
theorem v65_59 (n d : Nat) (L : List (Option mL)) (S : List mV) (M : Mm) (Q : mQ) : vc (n + 1) d 65 59 L S M Q = (pA S fun a S => shO M a 5 (rrf M a 0 fun r => vc n d 65 62 L (.inr (.inr r) :: S) M Q)) := nr rfl
set_option maxRecDepth 100000 in
theorem v65_62 (n d : Nat) (L : List (Option mL)) (S : List mV) (M : Mm) (Q : mQ) : vc (n + 1) d 65 62 L S M Q = (pA S fun a S => shO M a 4 (X d 65 65 L (.inl (M.it a 1) :: S) M Q)) := nr rfl
set_option maxRecDepth 100000 in
theorem v65_65 (n d : Nat) (L : List (Option mL)) (S : List mV) (M : Mm) (Q : mQ) : vc (n + 1) d 65 65 L S M Q = (pAs 1 S fun as S => stk S ≤ 8 ∧ XC d 67 as M (fun r M => ∃ x : Int32, r = some (.inl x) ∧ X d 65 68 L (.inl x :: S) M Q)) := nr rfl
set_option maxRecDepth 100000 in
theorem v65_68 (n d : Nat) (L : List (Option mL)) (S : List mV) (M : Mm) (Q : mQ) : vc (n + 1) d 65 68 L S M Q = (pAs 1 S fun as S => stk S ≤ 8 ∧ XC d 29 as M (fun r M => ∃ x : Int32, r = some (.inl x) ∧ X d 65 71 L (.inl x :: S) M Q)) := nr rfl
set_option maxRecDepth 100000 in
theorem v65_71 (n d : Nat) (L : List (Option mL)) (S : List mV) (M : Mm) (Q : mQ) : vc (n + 1) d 65 71 L S M Q = (pI S fun x S => sL L 2 (some (.inl x)) fun L => vc n d 65 72 L S M Q) := nr rfl
set_option maxRecDepth 100000 in
theorem v65_72 (n d : Nat) (L : List (Option mL)) (S : List mV) (M : Mm) (Q : mQ) : vc (n + 1) d 65 72 L S M Q = (gR L 0 fun x => vc n d 65 73 L (.inr (.inr x) :: S) M Q) := nr rfl
set_option maxRecDepth 100000 in
theorem v65_73 (n d : Nat) (L : List (Option mL)) (S : List mV) (M : Mm) (Q : mQ) : vc (n + 1) d 65 73 L S M Q = (pA S fun a S => shO M a 0 (rrf M a 4 fun r => vc n d 65 76 L (.inr (.inr r) :: S) M Q)) := nr rfl
set_option maxRecDepth 100000 in
theorem v65_76 (n d : Nat) (L : List (Option mL)) (S : List mV) (M : Mm) (Q : mQ) : vc (n + 1) d 65 76 L S M Q = (gR L 0 fun x => vc n d 65 77 L (.inr (.inr x) :: S) M Q) := nr rfl
set_option maxRecDepth 100000 in
theorem v65_77 (n d : Nat) (L : List (Option mL)) (S : List mV) (M : Mm) (Q : mQ) : vc (n + 1) d 65 77 L S M Q = (pA S fun a S => shO M a 0 (rrf M a 3 fun r => vc n d 65 80 L (.inr (.inr r) :: S) M Q)) := nr rfl
set_option maxRecDepth 100000 in
theorem v65_80 (n d : Nat) (L : List (Option mL)) (S : List mV) (M : Mm) (Q : mQ) : vc (n + 1) d 65 80 L S M Q = (pAs 1 S fun as S => pA S fun a S => shO M a 6 (stk S ≤ 8 ∧ XC d 46 (.inr (some a) :: as) M (fun r M => r = none ∧ X d 65 83 L S M Q))) := nr rfl
set_option maxRecDepth 100000 in
theorem v65_83 (n d : Nat) (L : List (Option mL)) (S : List mV) (M : Mm) (Q : mQ) : vc (n + 1) d 65 83 L S M Q = (gR L 0 fun x => vc n d 65 84 L (.inr (.inr x) :: S) M Q) := nr rfl
set_option maxRecDepth 100000 in
theorem v65_84 (n d : Nat) (L : List (Option mL)) (S : List mV) (M : Mm) (Q : mQ) : vc (n + 1) d 65 84 L S M Q = (pA S fun a S => shO M a 0 (rrf M a 4 fun r => vc n d 65 87 L (.inr (.inr r) :: S) M Q)) := nr rfl
set_option maxRecDepth 100000 in
theorem v65_87 (n d : Nat) (L : List (Option mL)) (S : List mV) (M : Mm) (Q : mQ) : vc (n + 1) d 65 87 L S M Q = (gI L 2 fun x => vc n d 65 88 L (.inl x :: S) M Q) := nr rfl
set_option maxRecDepth 100000 in
theorem v65_88 (n d : Nat) (L : List (Option mL)) (S : List mV) (M : Mm) (Q : mQ) : vc (n + 1) d 65 88 L S M Q = (vc n d 65 89 L (.inl 1 :: S) M Q) := nr rfl
set_option maxRecDepth 100000 in
theorem v65_89 (n d : Nat) (L : List (Option mL)) (S : List mV) (M : Mm) (Q : mQ) : vc (n + 1) d 65 89 L S M Q = (pAs 2 S fun as S => pA S fun a S => shO M a 6 (stk S ≤ 8 ∧ XC d 47 (.inr (some a) :: as) M (fun r M => ∃ x : Int32, r = some (.inl x) ∧ X d 65 92 L (.inl x :: S) M Q))) := nr rfl
set_option maxRecDepth 100000 in
theorem v65_92 (n d : Nat) (L : List (Option mL)) (S : List mV) (M : Mm) (Q : mQ) : vc (n + 1) d 65 92 L S M Q = (vc n d 65 93 L (.inl (-1) :: S) M Q) := nr rfl
set_option maxRecDepth 100000 in
theorem v65_93 (n d : Nat) (L : List (Option mL)) (S : List mV) (M : Mm) (Q : mQ) : vc (n + 1) d 65 93 L S M Q = (pI S fun y S => pI S fun x S => (¬ x = y → vc n d 65 99 L S M Q) ∧ (¬ (¬ x = y) → vc n d 65 96 L S M Q)) := nr rfl
set_option maxRecDepth 100000 in
theorem v65_96 (n d : Nat) (L : List (Option mL)) (S : List mV) (M : Mm) (Q : mQ) : vc (n + 1) d 65 96 L S M Q = (vc n d 65 98 L (.inl (-2) :: S) M Q) := nr rfl
set_option maxRecDepth 100000 in
theorem v65_98 (n d : Nat) (L : List (Option mL)) (S : List mV) (M : Mm) (Q : mQ) : vc (n + 1) d 65 98 L S M Q = (pI S fun x S => S = [] ∧ (0 = 0 ∨ x = 0 ∨ x = 1) ∧ Q (some (.inl x)) M) := nr rfl
set_option maxRecDepth 100000 in
theorem v65_99 (n d : Nat) (L : List (Option mL)) (S : List mV) (M : Mm) (Q : mQ) : vc (n + 1) d 65 99 L S M Q = (gR L 0 fun x => vc n d 65 100 L (.inr (.inr x) :: S) M Q) := nr rfl
set_option maxRecDepth 100000 in
theorem v65_100 (n d : Nat) (L : List (Option mL)) (S : List mV) (M : Mm) (Q : mQ) : vc (n + 1) d 65 100 L S M Q = (pA S fun a S => shO M a 0 (rrf M a 1 fun r => vc n d 65 103 L (.inr (.inr r) :: S) M Q)) := nr rfl
set_option maxRecDepth 100000 in
theorem v65_103 (n d : Nat) (L : List (Option mL)) (S : List mV) (M : Mm) (Q : mQ) : vc (n + 1) d 65 103 L S M Q = (gI L 2 fun x => vc n d 65 104 L (.inl x :: S) M Q) := nr rfl
set_option maxRecDepth 100000 in
theorem v65_104 (n d : Nat) (L : List (Option mL)) (S : List mV) (M : Mm) (Q : mQ) : vc (n + 1) d 65 104 L S M Q = (vc n d 65 105 L (.inl 1 :: S) M Q) := nr rfl
set_option maxRecDepth 100000 in
theorem v65_105 (n d : Nat) (L : List (Option mL)) (S : List mV) (M : Mm) (Q : mQ) : vc (n + 1) d 65 105 L S M Q = (pI S fun y S => pI S fun x S => vc n d 65 106 L (.inl (x + y) :: S) M Q) := nr rfl
set_option maxRecDepth 100000 in
theorem v65_106 (n d : Nat) (L : List (Option mL)) (S : List mV) (M : Mm) (Q : mQ) : vc (n + 1) d 65 106 L S M Q = (pAs 1 S fun as S => pA S fun a S => shO M a 7 (stk S ≤ 8 ∧ XC d 51 (.inr (some a) :: as) M (fun r M => ∃ x : Int32, r = some (.inl x) ∧ X d 65 109 L (.inl x :: S) M Q))) := nr rfl
set_option maxRecDepth 100000 in
theorem v65_109 (n d : Nat) (L : List (Option mL)) (S : List mV) (M : Mm) (Q : mQ) : vc (n + 1) d 65 109 L S M Q = (pI S fun x S => (¬ x = 0 → vc n d 65 115 L S M Q) ∧ (¬ (¬ x = 0) → vc n d 65 112 L S M Q)) := nr rfl
set_option maxRecDepth 100000 in
theorem v65_112 (n d : Nat) (L : List (Option mL)) (S : List mV) (M : Mm) (Q : mQ) : vc (n + 1) d 65 112 L S M Q = (vc n d 65 114 L (.inl (-3) :: S) M Q) := nr rfl
set_option maxRecDepth 100000 in
theorem v65_114 (n d : Nat) (L : List (Option mL)) (S : List mV) (M : Mm) (Q : mQ) : vc (n + 1) d 65 114 L S M Q = (pI S fun x S => S = [] ∧ (0 = 0 ∨ x = 0 ∨ x = 1) ∧ Q (some (.inl x)) M) := nr rfl
set_option maxRecDepth 100000 in
theorem v65_115 (n d : Nat) (L : List (Option mL)) (S : List mV) (M : Mm) (Q : mQ) : vc (n + 1) d 65 115 L S M Q = (gR L 0 fun x => vc n d 65 116 L (.inr (.inr x) :: S) M Q) := nr rfl
set_option maxRecDepth 100000 in
theorem v65_116 (n d : Nat) (L : List (Option mL)) (S : List mV) (M : Mm) (Q : mQ) : vc (n + 1) d 65 116 L S M Q = (gR L 0 fun x => vc n d 65 117 L (.inr (.inr x) :: S) M Q) := nr rfl
set_option maxRecDepth 100000 in
theorem v65_117 (n d : Nat) (L : List (Option mL)) (S : List mV) (M : Mm) (Q : mQ) : vc (n + 1) d 65 117 L S M Q = (gI L 1 fun x => vc n d 65 118 L (.inl x :: S) M Q) := nr rfl
set_option maxRecDepth 100000 in
theorem v65_118 (n d : Nat) (L : List (Option mL)) (S : List mV) (M : Mm) (Q : mQ) : vc (n + 1) d 65 118 L S M Q = (pAs 1 S fun as S => pA S fun a S => shO M a 0 (stk S ≤ 8 ∧ XC d 68 (.inr (some a) :: as) M (fun r M => ∃ x : Int32, r = some (.inl x) ∧ X d 65 121 L (.inl x :: S) M Q))) := nr rfl
set_option maxRecDepth 100000 in
theorem v65_121 (n d : Nat) (L : List (Option mL)) (S : List mV) (M : Mm) (Q : mQ) : vc (n + 1) d 65 121 L S M Q = (vc n d 65 122 L (.inl (-1) :: S) M Q) := nr rfl
set_option maxRecDepth 100000 in
theorem v65_122 (n d : Nat) (L : List (Option mL)) (S : List mV) (M : Mm) (Q : mQ) : vc (n + 1) d 65 122 L S M Q = (pAs 2 S fun as S => pA S fun a S => shO M a 0 (stk S ≤ 8 ∧ XC d 78 (.inr (some a) :: as) M (fun r M => r = none ∧ X d 65 125 L S M Q))) := nr rfl
set_option maxRecDepth 100000 in
theorem v65_125 (n d : Nat) (L : List (Option mL)) (S : List mV) (M : Mm) (Q : mQ) : vc (n + 1) d 65 125 L S M Q = (vc n d 65 126 L (.inl 1 :: S) M Q) := nr rfl
set_option maxRecDepth 100000 in
theorem v65_126 (n d : Nat) (L : List (Option mL)) (S : List mV) (M : Mm) (Q : mQ) : vc (n + 1) d 65 126 L S M Q = (pI S fun x S => S = [] ∧ (0 = 0 ∨ x = 0 ∨ x = 1) ∧ Q (some (.inl x)) M) := nr rfl
set_option maxRecDepth 100000 in
theorem v66_0 (n d : Nat) (L : List (Option mL)) (S : List mV) (M : Mm) (Q : mQ) : vc (n + 1) d 66 0 L S M Q = (vc n d 66 1 L (.inl 0 :: S) M Q) := nr rfl
set_option maxRecDepth 100000 in
theorem v66_1 (n d : Nat) (L : List (Option mL)) (S : List mV) (M : Mm) (Q : mQ) : vc (n + 1) d 66 1 L S M Q = (pI S fun x S => sL L 1 (some (.inl x)) fun L => vc n d 66 2 L S M Q) := nr rfl
set_option maxRecDepth 100000 in
theorem v66_2 (n d : Nat) (L : List (Option mL)) (S : List mV) (M : Mm) (Q : mQ) : vc (n + 1) d 66 2 L S M Q = (vc n d 66 3 L (.inl 0 :: S) M Q) := nr rfl
set_option maxRecDepth 100000 in
theorem v66_3 (n d : Nat) (L : List (Option mL)) (S : List mV) (M : Mm) (Q : mQ) : vc (n + 1) d 66 3 L S M Q = (pI S fun x S => sL L 2 (some (.inl x)) fun L => X d 66 4 L S M Q) := nr rfl
set_option maxRecDepth 100000 in
theorem v66_4 (n d : Nat) (L : List (Option mL)) (S : List mV) (M : Mm) (Q : mQ) : vc (n + 1) d 66 4 L S M Q = (gI L 2 fun x => vc n d 66 5 L (.inl x :: S) M Q) := nr rfl
set_option maxRecDepth 100000 in
theorem v66_5 (n d : Nat) (L : List (Option mL)) (S : List mV) (M : Mm) (Q : mQ) : vc (n + 1) d 66 5 L S M Q = (vc n d 66 7 L (.inl 48 :: S) M Q) := nr rfl
set_option maxRecDepth 100000 in
theorem v66_7 (n d : Nat) (L : List (Option mL)) (S : List mV) (M : Mm) (Q : mQ) : vc (n + 1) d 66 7 L S M Q = (pI S fun y S => pI S fun x S => (y ≤ x → vc n d 66 28 L S M Q) ∧ (¬ (y ≤ x) → vc n d 66 10 L S M Q)) := nr rfl
set_option maxRecDepth 100000 in
theorem v66_10 (n d : Nat) (L : List (Option mL)) (S : List mV) (M : Mm) (Q : mQ) : vc (n + 1) d 66 10 L S M Q = (gR L 0 fun x => vc n d 66 11 L (.inr (.inr x) :: S) M Q) := nr rfl
set_option maxRecDepth 100000 in
theorem v66_11 (n d : Nat) (L : List (Option mL)) (S : List mV) (M : Mm) (Q : mQ) : vc (n + 1) d 66 11 L S M Q = (gI L 2 fun x => vc n d 66 12 L (.inl x :: S) M Q) := nr rfl
set_option maxRecDepth 100000 in
theorem v66_12 (n d : Nat) (L : List (Option mL)) (S : List mV) (M : Mm) (Q : mQ) : vc (n + 1) d 66 12 L S M Q = (pAs 1 S fun as S => pA S fun a S => shO M a 5 (stk S ≤ 8 ∧ XC d 60 (.inr (some a) :: as) M (fun r M => ∃ x : Int32, r = some (.inl x) ∧ X d 66 15 L (.inl x :: S) M Q))) := nr rfl
set_option maxRecDepth 100000 in
theorem v66_15 (n d : Nat) (L : List (Option mL)) (S : List mV) (M : Mm) (Q : mQ) : vc (n + 1) d 66 15 L S M Q = (vc n d 66 16 L (.inl (-1) :: S) M Q) := nr rfl
set_option maxRecDepth 100000 in
theorem v66_16 (n d : Nat) (L : List (Option mL)) (S : List mV) (M : Mm) (Q : mQ) : vc (n + 1) d 66 16 L S M Q = (pI S fun y S => pI S fun x S => (x = y → vc n d 66 22 L S M Q) ∧ (¬ (x = y) → vc n d 66 19 L S M Q)) := nr rfl
set_option maxRecDepth 100000 in
theorem v66_19 (n d : Nat) (L : List (Option mL)) (S : List mV) (M : Mm) (Q : mQ) : vc (n + 1) d 66 19 L S M Q = (gI L 1 fun x => sL L 1 (some (.inl (x + 1))) fun L => vc n d 66 22 L S M Q) := nr rfl
set_option maxRecDepth 100000 in
theorem v66_22 (n d : Nat) (L : List (Option mL)) (S : List mV) (M : Mm) (Q : mQ) : vc (n + 1) d 66 22 L S M Q = (gI L 2 fun x => sL L 2 (some (.inl (x + 1))) fun L => vc n d 66 25 L S M Q) := nr rfl
set_option maxRecDepth 100000 in
theorem v66_25 (n d : Nat) (L : List (Option mL)) (S : List mV) (M : Mm) (Q : mQ) : vc (n + 1) d 66 25 L S M Q = (X d 66 4 L S M Q) := nr rfl
set_option maxRecDepth 100000 in
theorem v66_28 (n d : Nat) (L : List (Option mL)) (S : List mV) (M : Mm) (Q : mQ) : vc (n + 1) d 66 28 L S M Q = (gI L 1 fun x => vc n d 66 29 L (.inl x :: S) M Q) := nr rfl
set_option maxRecDepth 100000 in
theorem v66_29 (n d : Nat) (L : List (Option mL)) (S : List mV) (M : Mm) (Q : mQ) : vc (n + 1) d 66 29 L S M Q = (pI S fun x S => S = [] ∧ (0 = 0 ∨ x = 0 ∨ x = 1) ∧ Q (some (.inl x)) M) := nr rfl
set_option maxRecDepth 100000 in
theorem v67_0 (n d : Nat) (L : List (Option mL)) (S : List mV) (M : Mm) (Q : mQ) : vc (n + 1) d 67 0 L S M Q = (vc n d 67 1 L (.inl 1 :: S) M Q) := nr rfl
set_option maxRecDepth 100000 in
theorem v67_1 (n d : Nat) (L : List (Option mL)) (S : List mV) (M : Mm) (Q : mQ) : vc (n + 1) d 67 1 L S M Q = (vc n d 67 2 L (.inl 3 :: S) M Q) := nr rfl
set_option maxRecDepth 100000 in
theorem v67_2 (n d : Nat) (L : List (Option mL)) (S : List mV) (M : Mm) (Q : mQ) : vc (n + 1) d 67 2 L S M Q = (gI L 0 fun x => vc n d 67 3 L (.inl x :: S) M Q) := nr rfl
set_option maxRecDepth 100000 in
theorem v67_3 (n d : Nat) (L : List (Option mL)) (S : List mV) (M : Mm) (Q : mQ) : vc (n + 1) d 67 3 L S M Q = (pI S fun y S => pI S fun x S => vc n d 67 4 L (.inl (x * y) :: S) M Q) := nr rfl
set_option maxRecDepth 100000 in
theorem v67_4 (n d : Nat) (L : List (Option mL)) (S : List mV) (M : Mm) (Q : mQ) : vc (n + 1) d 67 4 L S M Q = (pI S fun y S => pI S fun x S => vc n d 67 5 L (.inl (x + y) :: S) M Q) := nr rfl
set_option maxRecDepth 100000 in
theorem v67_5 (n d : Nat) (L : List (Option mL)) (S : List mV) (M : Mm) (Q : mQ) : vc (n + 1) d 67 5 L S M Q = (pI S fun x S => S = [] ∧ (0 = 0 ∨ x = 0 ∨ x = 1) ∧ Q (some (.inl x)) M) := nr rfl
set_option maxRecDepth 100000 in
theorem v68_0 (n d : Nat) (L : List (Option mL)) (S : List mV) (M : Mm) (Q : mQ) : vc (n + 1) d 68 0 L S M Q = (gR L 0 fun x => vc n d 68 1 L (.inr (.inr x) :: S) M Q) := nr rfl
set_option maxRecDepth 100000 in
theorem v68_1 (n d : Nat) (L : List (Option mL)) (S : List mV) (M : Mm) (Q : mQ) : vc (n + 1) d 68 1 L S M Q = (pA S fun a S => shO M a 0 (rrf M a 5 fun r => vc n d 68 4 L (.inr (.inr r) :: S) M Q)) := nr rfl
set_option maxRecDepth 100000 in
theorem v68_4 (n d : Nat) (L : List (Option mL)) (S : List mV) (M : Mm) (Q : mQ) : vc (n + 1) d 68 4 L S M Q = (gI L 1 fun x => vc n d 68 5 L (.inl x :: S) M Q) := nr rfl
set_option maxRecDepth 100000 in
theorem v68_5 (n d : Nat) (L : List (Option mL)) (S : List mV) (M : Mm) (Q : mQ) : vc (n + 1) d 68 5 L S M Q = (pAs 1 S fun as S => pA S fun a S => shO M a 5 (stk S ≤ 8 ∧ XC d 69 (.inr (some a) :: as) M (fun r M => r = none ∧ X d 68 8 L S M Q))) := nr rfl
set_option maxRecDepth 100000 in
theorem v68_8 (n d : Nat) (L : List (Option mL)) (S : List mV) (M : Mm) (Q : mQ) : vc (n + 1) d 68 8 L S M Q = (gR L 0 fun x => vc n d 68 9 L (.inr (.inr x) :: S) M Q) := nr rfl
set_option maxRecDepth 100000 in
theorem v68_9 (n d : Nat) (L : List (Option mL)) (S : List mV) (M : Mm) (Q : mQ) : vc (n + 1) d 68 9 L S M Q = (pA S fun a S => shO M a 0 (rrf M a 5 fun r => vc n d 68 12 L (.inr (.inr r) :: S) M Q)) := nr rfl
set_option maxRecDepth 100000 in
theorem v68_12 (n d : Nat) (L : List (Option mL)) (S : List mV) (M : Mm) (Q : mQ) : vc (n + 1) d 68 12 L S M Q = (pA S fun a S => shO M a 5 (rrf M a 3 fun r => vc n d 68 15 L (.inr (.inr r) :: S) M Q)) := nr rfl
set_option maxRecDepth 100000 in
theorem v68_15 (n d : Nat) (L : List (Option mL)) (S : List mV) (M : Mm) (Q : mQ) : vc (n + 1) d 68 15 L S M Q = (gR L 0 fun x => vc n d 68 16 L (.inr (.inr x) :: S) M Q) := nr rfl
set_option maxRecDepth 100000 in
theorem v68_16 (n d : Nat) (L : List (Option mL)) (S : List mV) (M : Mm) (Q : mQ) : vc (n + 1) d 68 16 L S M Q = (pA S fun a S => shO M a 0 (rrf M a 8 fun r => vc n d 68 19 L (.inr (.inr r) :: S) M Q)) := nr rfl
set_option maxRecDepth 100000 in
theorem v68_19 (n d : Nat) (L : List (Option mL)) (S : List mV) (M : Mm) (Q : mQ) : vc (n + 1) d 68 19 L S M Q = (pAs 1 S fun as S => pA S fun a S => shO M a 4 (stk S ≤ 8 ∧ XC d 70 (.inr (some a) :: as) M (fun r M => r = none ∧ X d 68 22 L S M Q))) := nr rfl
set_option maxRecDepth 100000 in
theorem v68_22 (n d : Nat) (L : List (Option mL)) (S : List mV) (M : Mm) (Q : mQ) : vc (n + 1) d 68 22 L S M Q = (gR L 0 fun x => vc n d 68 23 L (.inr (.inr x) :: S) M Q) := nr rfl
set_option maxRecDepth 100000 in
theorem v68_23 (n d : Nat) (L : List (Option mL)) (S : List mV) (M : Mm) (Q : mQ) : vc (n + 1) d 68 23 L S M Q = (vc n d 68 24 L (.inl 2 :: S) M Q) := nr rfl
set_option maxRecDepth 100000 in
theorem v68_24 (n d : Nat) (L : List (Option mL)) (S : List mV) (M : Mm) (Q : mQ) : vc (n + 1) d 68 24 L S M Q = (vc n d 68 25 L (.inl 0 :: S) M Q) := nr rfl
set_option maxRecDepth 100000 in
theorem v68_25 (n d : Nat) (L : List (Option mL)) (S : List mV) (M : Mm) (Q : mQ) : vc (n + 1) d 68 25 L S M Q = (vc n d 68 26 L (.inl 1 :: S) M Q) := nr rfl
set_option maxRecDepth 100000 in
theorem v68_26 (n d : Nat) (L : List (Option mL)) (S : List mV) (M : Mm) (Q : mQ) : vc (n + 1) d 68 26 L S M Q = (pAs 3 S fun as S => pA S fun a S => shO M a 0 (stk S ≤ 8 ∧ XC d 52 (.inr (some a) :: as) M (fun r M => ∃ x : Int32, r = some (.inl x) ∧ X d 68 29 L (.inl x :: S) M Q))) := nr rfl
set_option maxRecDepth 100000 in
theorem v68_29 (n d : Nat) (L : List (Option mL)) (S : List mV) (M : Mm) (Q : mQ) : vc (n + 1) d 68 29 L S M Q = (pI S fun x S => sL L 2 (some (.inl x)) fun L => vc n d 68 30 L S M Q) := nr rfl
set_option maxRecDepth 100000 in
theorem v68_30 (n d : Nat) (L : List (Option mL)) (S : List mV) (M : Mm) (Q : mQ) : vc (n + 1) d 68 30 L S M Q = (gR L 0 fun x => vc n d 68 31 L (.inr (.inr x) :: S) M Q) := nr rfl
set_option maxRecDepth 100000 in
theorem v68_31 (n d : Nat) (L : List (Option mL)) (S : List mV) (M : Mm) (Q : mQ) : vc (n + 1) d 68 31 L S M Q = (pA S fun a S => shO M a 0 (rrf M a 8 fun r => vc n d 68 34 L (.inr (.inr r) :: S) M Q)) := nr rfl
set_option maxRecDepth 100000 in
theorem v68_34 (n d : Nat) (L : List (Option mL)) (S : List mV) (M : Mm) (Q : mQ) : vc (n + 1) d 68 34 L S M Q = (pA S fun a S => shO M a 1 (vc n d 68 37 L (.inl (M.it a 1) :: S) M Q)) := nr rfl
set_option maxRecDepth 100000 in
theorem v68_37 (n d : Nat) (L : List (Option mL)) (S : List mV) (M : Mm) (Q : mQ) : vc (n + 1) d 68 37 L S M Q = (pAs 1 S fun as S => stk S ≤ 8 ∧ XC d 29 as M (fun r M => ∃ x : Int32, r = some (.inl x) ∧ X d 68 40 L (.inl x :: S) M Q)) := nr rfl
set_option maxRecDepth 100000 in
theorem v68_40 (n d : Nat) (L : List (Option mL)) (S : List mV) (M : Mm) (Q : mQ) : vc (n + 1) d 68 40 L S M Q = (pI S fun x S => sL L 3 (some (.inl x)) fun L => vc n d 68 41 L S M Q) := nr rfl
set_option maxRecDepth 100000 in
theorem v68_41 (n d : Nat) (L : List (Option mL)) (S : List mV) (M : Mm) (Q : mQ) : vc (n + 1) d 68 41 L S M Q = (gR L 0 fun x => vc n d 68 42 L (.inr (.inr x) :: S) M Q) := nr rfl
set_option maxRecDepth 100000 in
theorem v68_42 (n d : Nat) (L : List (Option mL)) (S : List mV) (M : Mm) (Q : mQ) : vc (n + 1) d 68 42 L S M Q = (gI L 3 fun x => vc n d 68 43 L (.inl x :: S) M Q) := nr rfl
set_option maxRecDepth 100000 in
theorem v68_43 (n d : Nat) (L : List (Option mL)) (S : List mV) (M : Mm) (Q : mQ) : vc (n + 1) d 68 43 L S M Q = (pAs 1 S fun as S => pA S fun a S => shO M a 0 (stk S ≤ 8 ∧ XC d 71 (.inr (some a) :: as) M (fun r M => r = none ∧ X d 68 46 L S M Q))) := nr rfl
set_option maxRecDepth 100000 in
theorem v68_46 (n d : Nat) (L : List (Option mL)) (S : List mV) (M : Mm) (Q : mQ) : vc (n + 1) d 68 46 L S M Q = (gR L 0 fun x => vc n d 68 47 L (.inr (.inr x) :: S) M Q) := nr rfl
set_option maxRecDepth 100000 in
theorem v68_47 (n d : Nat) (L : List (Option mL)) (S : List mV) (M : Mm) (Q : mQ) : vc (n + 1) d 68 47 L S M Q = (pA S fun a S => shO M a 0 (rrf M a 5 fun r => vc n d 68 50 L (.inr (.inr r) :: S) M Q)) := nr rfl
set_option maxRecDepth 100000 in
theorem v68_50 (n d : Nat) (L : List (Option mL)) (S : List mV) (M : Mm) (Q : mQ) : vc (n + 1) d 68 50 L S M Q = (gI L 1 fun x => vc n d 68 51 L (.inl x :: S) M Q) := nr rfl
set_option maxRecDepth 100000 in
theorem v68_51 (n d : Nat) (L : List (Option mL)) (S : List mV) (M : Mm) (Q : mQ) : vc (n + 1) d 68 51 L S M Q = (gI L 2 fun x => vc n d 68 52 L (.inl x :: S) M Q) := nr rfl
set_option maxRecDepth 100000 in
theorem v68_52 (n d : Nat) (L : List (Option mL)) (S : List mV) (M : Mm) (Q : mQ) : vc (n + 1) d 68 52 L S M Q = (pAs 2 S fun as S => pA S fun a S => shO M a 5 (stk S ≤ 8 ∧ XC d 77 (.inr (some a) :: as) M (fun r M => r = none ∧ X d 68 55 L S M Q))) := nr rfl
set_option maxRecDepth 100000 in
theorem v68_55 (n d : Nat) (L : List (Option mL)) (S : List mV) (M : Mm) (Q : mQ) : vc (n + 1) d 68 55 L S M Q = (gI L 3 fun x => vc n d 68 56 L (.inl x :: S) M Q) := nr rfl
set_option maxRecDepth 100000 in
theorem v68_56 (n d : Nat) (L : List (Option mL)) (S : List mV) (M : Mm) (Q : mQ) : vc (n + 1) d 68 56 L S M Q = (pI S fun x S => S = [] ∧ (0 = 0 ∨ x = 0 ∨ x = 1) ∧ Q (some (.inl x)) M) := nr rfl
set_option maxRecDepth 100000 in
theorem v69_0 (n d : Nat) (L : List (Option mL)) (S : List mV) (M : Mm) (Q : mQ) : vc (n + 1) d 69 0 L S M Q = (gR L 0 fun x => vc n d 69 1 L (.inr (.inr x) :: S) M Q) := nr rfl
set_option maxRecDepth 100000 in
theorem v69_1 (n d : Nat) (L : List (Option mL)) (S : List mV) (M : Mm) (Q : mQ) : vc (n + 1) d 69 1 L S M Q = (pA S fun a S => shO M a 5 (rrf M a 3 fun r => vc n d 69 4 L (.inr (.inr r) :: S) M Q)) := nr rfl
set_option maxRecDepth 100000 in
theorem v69_4 (n d : Nat) (L : List (Option mL)) (S : List mV) (M : Mm) (Q : mQ) : vc (n + 1) d 69 4 L S M Q = (pAs 0 S fun as S => pA S fun a S => shO M a 4 (stk S ≤ 8 ∧ XC d 11 (.inr (some a) :: as) M (fun r M => r = none ∧ X d 69 7 L S M Q))) := nr rfl
set_option maxRecDepth 100000 in
theorem v69_7 (n d : Nat) (L : List (Option mL)) (S : List mV) (M : Mm) (Q : mQ) : vc (n + 1) d 69 7 L S M Q = (vc n d 69 8 L (.inl 0 :: S) M Q) := nr rfl
set_option maxRecDepth 100000 in
theorem v69_8 (n d : Nat) (L : List (Option mL)) (S : List mV) (M : Mm) (Q : mQ) : vc (n + 1) d 69 8 L S M Q = (pI S fun x S => sL L 2 (some (.inl x)) fun L => X d 69 9 L S M Q) := nr rfl
set_option maxRecDepth 100000 in
theorem v69_9 (n d : Nat) (L : List (Option mL)) (S : List mV) (M : Mm) (Q : mQ) : vc (n + 1) d 69 9 L S M Q = (gI L 2 fun x => vc n d 69 10 L (.inl x :: S) M Q) := nr rfl
set_option maxRecDepth 100000 in
theorem v69_10 (n d : Nat) (L : List (Option mL)) (S : List mV) (M : Mm) (Q : mQ) : vc (n + 1) d 69 10 L S M Q = (vc n d 69 12 L (.inl 48 :: S) M Q) := nr rfl
set_option maxRecDepth 100000 in
theorem v69_12 (n d : Nat) (L : List (Option mL)) (S : List mV) (M : Mm) (Q : mQ) : vc (n + 1) d 69 12 L S M Q = (pI S fun y S => pI S fun x S => (y ≤ x → vc n d 69 49 L S M Q) ∧ (¬ (y ≤ x) → vc n d 69 15 L S M Q)) := nr rfl
set_option maxRecDepth 100000 in
theorem v69_15 (n d : Nat) (L : List (Option mL)) (S : List mV) (M : Mm) (Q : mQ) : vc (n + 1) d 69 15 L S M Q = (gR L 0 fun x => vc n d 69 16 L (.inr (.inr x) :: S) M Q) := nr rfl
set_option maxRecDepth 100000 in
theorem v69_16 (n d : Nat) (L : List (Option mL)) (S : List mV) (M : Mm) (Q : mQ) : vc (n + 1) d 69 16 L S M Q = (pA S fun a S => shO M a 5 (rrf M a 3 fun r => vc n d 69 19 L (.inr (.inr r) :: S) M Q)) := nr rfl
set_option maxRecDepth 100000 in
theorem v69_19 (n d : Nat) (L : List (Option mL)) (S : List mV) (M : Mm) (Q : mQ) : vc (n + 1) d 69 19 L S M Q = (gI L 2 fun x => vc n d 69 20 L (.inl x :: S) M Q) := nr rfl
set_option maxRecDepth 100000 in
theorem v69_20 (n d : Nat) (L : List (Option mL)) (S : List mV) (M : Mm) (Q : mQ) : vc (n + 1) d 69 20 L S M Q = (gI L 1 fun x => vc n d 69 21 L (.inl x :: S) M Q) := nr rfl
set_option maxRecDepth 100000 in
theorem v69_21 (n d : Nat) (L : List (Option mL)) (S : List mV) (M : Mm) (Q : mQ) : vc (n + 1) d 69 21 L S M Q = (pI S fun x S => (x = 0 → vc n d 69 32 L S M Q) ∧ (¬ (x = 0) → vc n d 69 24 L S M Q)) := nr rfl
set_option maxRecDepth 100000 in
theorem v69_24 (n d : Nat) (L : List (Option mL)) (S : List mV) (M : Mm) (Q : mQ) : vc (n + 1) d 69 24 L S M Q = (gR L 0 fun x => vc n d 69 25 L (.inr (.inr x) :: S) M Q) := nr rfl
set_option maxRecDepth 100000 in
theorem v69_25 (n d : Nat) (L : List (Option mL)) (S : List mV) (M : Mm) (Q : mQ) : vc (n + 1) d 69 25 L S M Q = (gI L 2 fun x => vc n d 69 26 L (.inl x :: S) M Q) := nr rfl
set_option maxRecDepth 100000 in
theorem v69_26 (n d : Nat) (L : List (Option mL)) (S : List mV) (M : Mm) (Q : mQ) : vc (n + 1) d 69 26 L S M Q = (pAs 1 S fun as S => pA S fun a S => shO M a 5 (stk S ≤ 8 ∧ XC d 60 (.inr (some a) :: as) M (fun r M => ∃ x : Int32, r = some (.inl x) ∧ X d 69 29 L (.inl x :: S) M Q))) := nr rfl
set_option maxRecDepth 100000 in
theorem v69_29 (n d : Nat) (L : List (Option mL)) (S : List mV) (M : Mm) (Q : mQ) : vc (n + 1) d 69 29 L S M Q = (X d 69 40 L S M Q) := nr rfl
set_option maxRecDepth 100000 in
theorem v69_32 (n d : Nat) (L : List (Option mL)) (S : List mV) (M : Mm) (Q : mQ) : vc (n + 1) d 69 32 L S M Q = (gR L 0 fun x => vc n d 69 33 L (.inr (.inr x) :: S) M Q) := nr rfl
set_option maxRecDepth 100000 in
theorem v69_33 (n d : Nat) (L : List (Option mL)) (S : List mV) (M : Mm) (Q : mQ) : vc (n + 1) d 69 33 L S M Q = (pA S fun a S => shO M a 5 (rrf M a 0 fun r => vc n d 69 36 L (.inr (.inr r) :: S) M Q)) := nr rfl
set_option maxRecDepth 100000 in
theorem v69_36 (n d : Nat) (L : List (Option mL)) (S : List mV) (M : Mm) (Q : mQ) : vc (n + 1) d 69 36 L S M Q = (gI L 2 fun x => vc n d 69 37 L (.inl x :: S) M Q) := nr rfl
set_option maxRecDepth 100000 in
theorem v69_37 (n d : Nat) (L : List (Option mL)) (S : List mV) (M : Mm) (Q : mQ) : vc (n + 1) d 69 37 L S M Q = (pAs 1 S fun as S => pA S fun a S => shO M a 4 (stk S ≤ 8 ∧ XC d 61 (.inr (some a) :: as) M (fun r M => ∃ x : Int32, r = some (.inl x) ∧ X d 69 40 L (.inl x :: S) M Q))) := nr rfl
set_option maxRecDepth 100000 in
theorem v69_40 (n d : Nat) (L : List (Option mL)) (S : List mV) (M : Mm) (Q : mQ) : vc (n + 1) d 69 40 L S M Q = (pAs 2 S fun as S => pA S fun a S => shO M a 4 (stk S ≤ 8 ∧ XC d 38 (.inr (some a) :: as) M (fun r M => r = none ∧ X d 69 43 L S M Q))) := nr rfl
set_option maxRecDepth 100000 in
theorem v69_43 (n d : Nat) (L : List (Option mL)) (S : List mV) (M : Mm) (Q : mQ) : vc (n + 1) d 69 43 L S M Q = (gI L 2 fun x => sL L 2 (some (.inl (x + 1))) fun L => vc n d 69 46 L S M Q) := nr rfl
set_option maxRecDepth 100000 in
theorem v69_46 (n d : Nat) (L : List (Option mL)) (S : List mV) (M : Mm) (Q : mQ) : vc (n + 1) d 69 46 L S M Q = (X d 69 9 L S M Q) := nr rfl
set_option maxRecDepth 100000 in
theorem v69_49 (n d : Nat) (L : List (Option mL)) (S : List mV) (M : Mm) (Q : mQ) : vc (n + 1) d 69 49 L S M Q = (S = [] ∧ Q none M) := nr rfl
set_option maxRecDepth 100000 in
theorem v70_0 (n d : Nat) (L : List (Option mL)) (S : List mV) (M : Mm) (Q : mQ) : vc (n + 1) d 70 0 L S M Q = (gR L 1 fun x => vc n d 70 1 L (.inr (.inr x) :: S) M Q) := nr rfl
set_option maxRecDepth 100000 in
theorem v70_1 (n d : Nat) (L : List (Option mL)) (S : List mV) (M : Mm) (Q : mQ) : vc (n + 1) d 70 1 L S M Q = (pAs 0 S fun as S => pA S fun a S => shO M a 1 (stk S ≤ 8 ∧ XC d 32 (.inr (some a) :: as) M (fun r M => r = none ∧ X d 70 4 L S M Q))) := nr rfl
set_option maxRecDepth 100000 in
theorem v70_4 (n d : Nat) (L : List (Option mL)) (S : List mV) (M : Mm) (Q : mQ) : vc (n + 1) d 70 4 L S M Q = (gR L 1 fun x => vc n d 70 5 L (.inr (.inr x) :: S) M Q) := nr rfl
set_option maxRecDepth 100000 in
theorem v70_5 (n d : Nat) (L : List (Option mL)) (S : List mV) (M : Mm) (Q : mQ) : vc (n + 1) d 70 5 L S M Q = (gR L 0 fun x => vc n d 70 6 L (.inr (.inr x) :: S) M Q) := nr rfl
set_option maxRecDepth 100000 in
theorem v70_6 (n d : Nat) (L : List (Option mL)) (S : List mV) (M : Mm) (Q : mQ) : vc (n + 1) d 70 6 L S M Q = (pA S fun a S => shO M a 4 (vc n d 70 9 L (.inl (M.it a 1) :: S) M Q)) := nr rfl
set_option maxRecDepth 100000 in
theorem v70_9 (n d : Nat) (L : List (Option mL)) (S : List mV) (M : Mm) (Q : mQ) : vc (n + 1) d 70 9 L S M Q = (pAs 1 S fun as S => pA S fun a S => shO M a 1 (stk S ≤ 8 ∧ XC d 33 (.inr (some a) :: as) M (fun r M => r = none ∧ X d 70 12 L S M Q))) := nr rfl
set_option maxRecDepth 100000 in
theorem v70_12 (n d : Nat) (L : List (Option mL)) (S : List mV) (M : Mm) (Q : mQ) : vc (n + 1) d 70 12 L S M Q = (vc n d 70 13 L (.inl 0 :: S) M Q) := nr rfl
set_option maxRecDepth 100000 in
theorem v70_13 (n d : Nat) (L : List (Option mL)) (S : List mV) (M : Mm) (Q : mQ) : vc (n + 1) d 70 13 L S M Q = (pI S fun x S => sL L 2 (some (.inl x)) fun L => X d 70 14 L S M Q) := nr rfl
set_option maxRecDepth 100000 in
theorem v70_14 (n d : Nat) (L : List (Option mL)) (S : List mV) (M : Mm) (Q : mQ) : vc (n + 1) d 70 14 L S M Q = (gI L 2 fun x => vc n d 70 15 L (.inl x :: S) M Q) := nr rfl
set_option maxRecDepth 100000 in
theorem v70_15 (n d : Nat) (L : List (Option mL)) (S : List mV) (M : Mm) (Q : mQ) : vc (n + 1) d 70 15 L S M Q = (vc n d 70 17 L (.inl 48 :: S) M Q) := nr rfl
set_option maxRecDepth 100000 in
theorem v70_17 (n d : Nat) (L : List (Option mL)) (S : List mV) (M : Mm) (Q : mQ) : vc (n + 1) d 70 17 L S M Q = (pI S fun y S => pI S fun x S => (y ≤ x → vc n d 70 81 L S M Q) ∧ (¬ (y ≤ x) → vc n d 70 20 L S M Q)) := nr rfl
set_option maxRecDepth 100000 in
theorem v70_20 (n d : Nat) (L : List (Option mL)) (S : List mV) (M : Mm) (Q : mQ) : vc (n + 1) d 70 20 L S M Q = (gR L 0 fun x => vc n d 70 21 L (.inr (.inr x) :: S) M Q) := nr rfl
set_option maxRecDepth 100000 in
theorem v70_21 (n d : Nat) (L : List (Option mL)) (S : List mV) (M : Mm) (Q : mQ) : vc (n + 1) d 70 21 L S M Q = (pA S fun a S => shO M a 4 (rrf M a 0 fun r => vc n d 70 24 L (.inr (.inr r) :: S) M Q)) := nr rfl
set_option maxRecDepth 100000 in
theorem v70_24 (n d : Nat) (L : List (Option mL)) (S : List mV) (M : Mm) (Q : mQ) : vc (n + 1) d 70 24 L S M Q = (gI L 2 fun x => vc n d 70 25 L (.inl x :: S) M Q) := nr rfl
set_option maxRecDepth 100000 in
theorem v70_25 (n d : Nat) (L : List (Option mL)) (S : List mV) (M : Mm) (Q : mQ) : vc (n + 1) d 70 25 L S M Q = (pI S fun i S => pA S fun a S => shA M a fun t k => (t = 40 ∨ t = 41) ∧ inB i k ∧ vc n d 70 26 L (.inl (M.it a i.toNatClampNeg) :: S) M Q) := nr rfl
set_option maxRecDepth 100000 in
theorem v70_26 (n d : Nat) (L : List (Option mL)) (S : List mV) (M : Mm) (Q : mQ) : vc (n + 1) d 70 26 L S M Q = (pI S fun x S => sL L 3 (some (.inl x)) fun L => vc n d 70 27 L S M Q) := nr rfl
set_option maxRecDepth 100000 in
theorem v70_27 (n d : Nat) (L : List (Option mL)) (S : List mV) (M : Mm) (Q : mQ) : vc (n + 1) d 70 27 L S M Q = (gI L 3 fun x => vc n d 70 28 L (.inl x :: S) M Q) := nr rfl
set_option maxRecDepth 100000 in
theorem v70_28 (n d : Nat) (L : List (Option mL)) (S : List mV) (M : Mm) (Q : mQ) : vc (n + 1) d 70 28 L S M Q = (vc n d 70 29 L (.inl (-1) :: S) M Q) := nr rfl
set_option maxRecDepth 100000 in
theorem v70_29 (n d : Nat) (L : List (Option mL)) (S : List mV) (M : Mm) (Q : mQ) : vc (n + 1) d 70 29 L S M Q = (pI S fun y S => pI S fun x S => (x = y → X d 70 75 L S M Q) ∧ (¬ (x = y) → vc n d 70 32 L S M Q)) := nr rfl
set_option maxRecDepth 100000 in
theorem v70_32 (n d : Nat) (L : List (Option mL)) (S : List mV) (M : Mm) (Q : mQ) : vc (n + 1) d 70 32 L S M Q = (gR L 1 fun x => vc n d 70 33 L (.inr (.inr x) :: S) M Q) := nr rfl
set_option maxRecDepth 100000 in
theorem v70_33 (n d : Nat) (L : List (Option mL)) (S : List mV) (M : Mm) (Q : mQ) : vc (n + 1) d 70 33 L S M Q = (gI L 2 fun x => vc n d 70 34 L (.inl x :: S) M Q) := nr rfl
set_option maxRecDepth 100000 in
theorem v70_34 (n d : Nat) (L : List (Option mL)) (S : List mV) (M : Mm) (Q : mQ) : vc (n + 1) d 70 34 L S M Q = (pAs 1 S fun as S => pA S fun a S => shO M a 1 (stk S ≤ 8 ∧ XC d 33 (.inr (some a) :: as) M (fun r M => r = none ∧ X d 70 37 L S M Q))) := nr rfl
set_option maxRecDepth 100000 in
theorem v70_37 (n d : Nat) (L : List (Option mL)) (S : List mV) (M : Mm) (Q : mQ) : vc (n + 1) d 70 37 L S M Q = (gR L 1 fun x => vc n d 70 38 L (.inr (.inr x) :: S) M Q) := nr rfl
set_option maxRecDepth 100000 in
theorem v70_38 (n d : Nat) (L : List (Option mL)) (S : List mV) (M : Mm) (Q : mQ) : vc (n + 1) d 70 38 L S M Q = (gI L 3 fun x => vc n d 70 39 L (.inl x :: S) M Q) := nr rfl
set_option maxRecDepth 100000 in
theorem v70_39 (n d : Nat) (L : List (Option mL)) (S : List mV) (M : Mm) (Q : mQ) : vc (n + 1) d 70 39 L S M Q = (vc n d 70 41 L (.inl (-2) :: S) M Q) := nr rfl
set_option maxRecDepth 100000 in
theorem v70_41 (n d : Nat) (L : List (Option mL)) (S : List mV) (M : Mm) (Q : mQ) : vc (n + 1) d 70 41 L S M Q = (pI S fun y S => pI S fun x S => (¬ x = y → vc n d 70 50 L S M Q) ∧ (¬ (¬ x = y) → vc n d 70 44 L S M Q)) := nr rfl
set_option maxRecDepth 100000 in
theorem v70_44 (n d : Nat) (L : List (Option mL)) (S : List mV) (M : Mm) (Q : mQ) : vc (n + 1) d 70 44 L S M Q = (vc n d 70 47 L (.inl 255 :: S) M Q) := nr rfl
set_option maxRecDepth 100000 in
theorem v70_47 (n d : Nat) (L : List (Option mL)) (S : List mV) (M : Mm) (Q : mQ) : vc (n + 1) d 70 47 L S M Q = (X d 70 54 L S M Q) := nr rfl
set_option maxRecDepth 100000 in
theorem v70_50 (n d : Nat) (L : List (Option mL)) (S : List mV) (M : Mm) (Q : mQ) : vc (n + 1) d 70 50 L S M Q = (gI L 3 fun x => vc n d 70 51 L (.inl x :: S) M Q) := nr rfl
set_option maxRecDepth 100000 in
theorem v70_51 (n d : Nat) (L : List (Option mL)) (S : List mV) (M : Mm) (Q : mQ) : vc (n + 1) d 70 51 L S M Q = (vc n d 70 53 L (.inl 16 :: S) M Q) := nr rfl
set_option maxRecDepth 100000 in
theorem v70_53 (n d : Nat) (L : List (Option mL)) (S : List mV) (M : Mm) (Q : mQ) : vc (n + 1) d 70 53 L S M Q = (pI S fun y S => pI S fun x S => ¬ y = 0 ∧ X d 70 54 L (.inl (x / y) :: S) M Q) := nr rfl
set_option maxRecDepth 100000 in
theorem v70_54 (n d : Nat) (L : List (Option mL)) (S : List mV) (M : Mm) (Q : mQ) : vc (n + 1) d 70 54 L S M Q = (pAs 1 S fun as S => pA S fun a S => shO M a 1 (stk S ≤ 8 ∧ XC d 33 (.inr (some a) :: as) M (fun r M => r = none ∧ X d 70 57 L S M Q))) := nr rfl
set_option maxRecDepth 100000 in
theorem v70_57 (n d : Nat) (L : List (Option mL)) (S : List mV) (M : Mm) (Q : mQ) : vc (n + 1) d 70 57 L S M Q = (gR L 1 fun x => vc n d 70 58 L (.inr (.inr x) :: S) M Q) := nr rfl
set_option maxRecDepth 100000 in
theorem v70_58 (n d : Nat) (L : List (Option mL)) (S : List mV) (M : Mm) (Q : mQ) : vc (n + 1) d 70 58 L S M Q = (gI L 3 fun x => vc n d 70 59 L (.inl x :: S) M Q) := nr rfl
set_option maxRecDepth 100000 in
theorem v70_59 (n d : Nat) (L : List (Option mL)) (S : List mV) (M : Mm) (Q : mQ) : vc (n + 1) d 70 59 L S M Q = (vc n d 70 61 L (.inl (-2) :: S) M Q) := nr rfl
set_option maxRecDepth 100000 in
theorem v70_61 (n d : Nat) (L : List (Option mL)) (S : List mV) (M : Mm) (Q : mQ) : vc (n + 1) d 70 61 L S M Q = (pI S fun y S => pI S fun x S => (¬ x = y → vc n d 70 68 L S M Q) ∧ (¬ (¬ x = y) → vc n d 70 64 L S M Q)) := nr rfl
set_option maxRecDepth 100000 in
theorem v70_64 (n d : Nat) (L : List (Option mL)) (S : List mV) (M : Mm) (Q : mQ) : vc (n + 1) d 70 64 L S M Q = (vc n d 70 65 L (.inl 0 :: S) M Q) := nr rfl
set_option maxRecDepth 100000 in
theorem v70_65 (n d : Nat) (L : List (Option mL)) (S : List mV) (M : Mm) (Q : mQ) : vc (n + 1) d 70 65 L S M Q = (X d 70 72 L S M Q) := nr rfl
set_option maxRecDepth 100000 in
theorem v70_68 (n d : Nat) (L : List (Option mL)) (S : List mV) (M : Mm) (Q : mQ) : vc (n + 1) d 70 68 L S M Q = (gI L 3 fun x => vc n d 70 69 L (.inl x :: S) M Q) := nr rfl
set_option maxRecDepth 100000 in
theorem v70_69 (n d : Nat) (L : List (Option mL)) (S : List mV) (M : Mm) (Q : mQ) : vc (n + 1) d 70 69 L S M Q = (vc n d 70 71 L (.inl 16 :: S) M Q) := nr rfl
set_option maxRecDepth 100000 in
theorem v70_71 (n d : Nat) (L : List (Option mL)) (S : List mV) (M : Mm) (Q : mQ) : vc (n + 1) d 70 71 L S M Q = (pI S fun y S => pI S fun x S => ¬ y = 0 ∧ X d 70 72 L (.inl (x - x / y * y) :: S) M Q) := nr rfl
set_option maxRecDepth 100000 in
theorem v70_72 (n d : Nat) (L : List (Option mL)) (S : List mV) (M : Mm) (Q : mQ) : vc (n + 1) d 70 72 L S M Q = (pAs 1 S fun as S => pA S fun a S => shO M a 1 (stk S ≤ 8 ∧ XC d 33 (.inr (some a) :: as) M (fun r M => r = none ∧ X d 70 75 L S M Q))) := nr rfl
set_option maxRecDepth 100000 in
theorem v70_75 (n d : Nat) (L : List (Option mL)) (S : List mV) (M : Mm) (Q : mQ) : vc (n + 1) d 70 75 L S M Q = (gI L 2 fun x => sL L 2 (some (.inl (x + 1))) fun L => vc n d 70 78 L S M Q) := nr rfl
set_option maxRecDepth 100000 in
theorem v70_78 (n d : Nat) (L : List (Option mL)) (S : List mV) (M : Mm) (Q : mQ) : vc (n + 1) d 70 78 L S M Q = (X d 70 14 L S M Q) := nr rfl
set_option maxRecDepth 100000 in
theorem v70_81 (n d : Nat) (L : List (Option mL)) (S : List mV) (M : Mm) (Q : mQ) : vc (n + 1) d 70 81 L S M Q = (S = [] ∧ Q none M) := nr rfl
