/-! what each instruction leaves to show, printed by gen_rows.py -/
set_option maxRecDepth 100000 in
theorem v71_0 (n d : Nat) (L : List (Option mL)) (S : List mV) (M : Mm) (Q : mQ) : vc (n + 1) d 71 0 L S M Q = (gR L 0 fun x => vc n d 71 1 L (.inr (.inr x) :: S) M Q) := nr rfl
set_option maxRecDepth 100000 in
theorem v71_1 (n d : Nat) (L : List (Option mL)) (S : List mV) (M : Mm) (Q : mQ) : vc (n + 1) d 71 1 L S M Q = (pAs 0 S fun as S => pA S fun a S => shO M a 0 (stk S ≤ 8 ∧ XC d 72 (.inr (some a) :: as) M (fun r M => r = none ∧ X d 71 4 L S M Q))) := nr rfl
set_option maxRecDepth 100000 in
theorem v71_4 (n d : Nat) (L : List (Option mL)) (S : List mV) (M : Mm) (Q : mQ) : vc (n + 1) d 71 4 L S M Q = (vc n d 71 5 L (.inl 0 :: S) M Q) := nr rfl
set_option maxRecDepth 100000 in
theorem v71_5 (n d : Nat) (L : List (Option mL)) (S : List mV) (M : Mm) (Q : mQ) : vc (n + 1) d 71 5 L S M Q = (pI S fun x S => sL L 2 (some (.inl x)) fun L => X d 71 6 L S M Q) := nr rfl
set_option maxRecDepth 100000 in
theorem v71_6 (n d : Nat) (L : List (Option mL)) (S : List mV) (M : Mm) (Q : mQ) : vc (n + 1) d 71 6 L S M Q = (gI L 2 fun x => vc n d 71 7 L (.inl x :: S) M Q) := nr rfl
set_option maxRecDepth 100000 in
theorem v71_7 (n d : Nat) (L : List (Option mL)) (S : List mV) (M : Mm) (Q : mQ) : vc (n + 1) d 71 7 L S M Q = (vc n d 71 9 L (.inl 48 :: S) M Q) := nr rfl
set_option maxRecDepth 100000 in
theorem v71_9 (n d : Nat) (L : List (Option mL)) (S : List mV) (M : Mm) (Q : mQ) : vc (n + 1) d 71 9 L S M Q = (pI S fun y S => pI S fun x S => (y ≤ x → vc n d 71 33 L S M Q) ∧ (¬ (y ≤ x) → vc n d 71 12 L S M Q)) := nr rfl
set_option maxRecDepth 100000 in
theorem v71_12 (n d : Nat) (L : List (Option mL)) (S : List mV) (M : Mm) (Q : mQ) : vc (n + 1) d 71 12 L S M Q = (gR L 0 fun x => vc n d 71 13 L (.inr (.inr x) :: S) M Q) := nr rfl
set_option maxRecDepth 100000 in
theorem v71_13 (n d : Nat) (L : List (Option mL)) (S : List mV) (M : Mm) (Q : mQ) : vc (n + 1) d 71 13 L S M Q = (gR L 0 fun x => vc n d 71 14 L (.inr (.inr x) :: S) M Q) := nr rfl
set_option maxRecDepth 100000 in
theorem v71_14 (n d : Nat) (L : List (Option mL)) (S : List mV) (M : Mm) (Q : mQ) : vc (n + 1) d 71 14 L S M Q = (pA S fun a S => shO M a 0 (rrf M a 5 fun r => vc n d 71 17 L (.inr (.inr r) :: S) M Q)) := nr rfl
set_option maxRecDepth 100000 in
theorem v71_17 (n d : Nat) (L : List (Option mL)) (S : List mV) (M : Mm) (Q : mQ) : vc (n + 1) d 71 17 L S M Q = (pA S fun a S => shO M a 5 (rrf M a 3 fun r => vc n d 71 20 L (.inr (.inr r) :: S) M Q)) := nr rfl
set_option maxRecDepth 100000 in
theorem v71_20 (n d : Nat) (L : List (Option mL)) (S : List mV) (M : Mm) (Q : mQ) : vc (n + 1) d 71 20 L S M Q = (gI L 2 fun x => vc n d 71 21 L (.inl x :: S) M Q) := nr rfl
set_option maxRecDepth 100000 in
theorem v71_21 (n d : Nat) (L : List (Option mL)) (S : List mV) (M : Mm) (Q : mQ) : vc (n + 1) d 71 21 L S M Q = (pAs 1 S fun as S => pA S fun a S => shO M a 4 (stk S ≤ 8 ∧ XC d 61 (.inr (some a) :: as) M (fun r M => ∃ x : Int32, r = some (.inl x) ∧ X d 71 24 L (.inl x :: S) M Q))) := nr rfl
set_option maxRecDepth 100000 in
theorem v71_24 (n d : Nat) (L : List (Option mL)) (S : List mV) (M : Mm) (Q : mQ) : vc (n + 1) d 71 24 L S M Q = (pAs 1 S fun as S => pA S fun a S => shO M a 0 (stk S ≤ 8 ∧ XC d 73 (.inr (some a) :: as) M (fun r M => r = none ∧ X d 71 27 L S M Q))) := nr rfl
set_option maxRecDepth 100000 in
theorem v71_27 (n d : Nat) (L : List (Option mL)) (S : List mV) (M : Mm) (Q : mQ) : vc (n + 1) d 71 27 L S M Q = (gI L 2 fun x => sL L 2 (some (.inl (x + 1))) fun L => vc n d 71 30 L S M Q) := nr rfl
set_option maxRecDepth 100000 in
theorem v71_30 (n d : Nat) (L : List (Option mL)) (S : List mV) (M : Mm) (Q : mQ) : vc (n + 1) d 71 30 L S M Q = (X d 71 6 L S M Q) := nr rfl
set_option maxRecDepth 100000 in
theorem v71_33 (n d : Nat) (L : List (Option mL)) (S : List mV) (M : Mm) (Q : mQ) : vc (n + 1) d 71 33 L S M Q = (gR L 0 fun x => vc n d 71 34 L (.inr (.inr x) :: S) M Q) := nr rfl
set_option maxRecDepth 100000 in
theorem v71_34 (n d : Nat) (L : List (Option mL)) (S : List mV) (M : Mm) (Q : mQ) : vc (n + 1) d 71 34 L S M Q = (pA S fun a S => shO M a 0 (rrf M a 1 fun r => vc n d 71 37 L (.inr (.inr r) :: S) M Q)) := nr rfl
set_option maxRecDepth 100000 in
theorem v71_37 (n d : Nat) (L : List (Option mL)) (S : List mV) (M : Mm) (Q : mQ) : vc (n + 1) d 71 37 L S M Q = (pA S fun a S => shO M a 7 (vc n d 71 40 L (.inl (M.it a 1) :: S) M Q)) := nr rfl
set_option maxRecDepth 100000 in
theorem v71_40 (n d : Nat) (L : List (Option mL)) (S : List mV) (M : Mm) (Q : mQ) : vc (n + 1) d 71 40 L S M Q = (gI L 1 fun x => vc n d 71 41 L (.inl x :: S) M Q) := nr rfl
set_option maxRecDepth 100000 in
theorem v71_41 (n d : Nat) (L : List (Option mL)) (S : List mV) (M : Mm) (Q : mQ) : vc (n + 1) d 71 41 L S M Q = (pI S fun y S => pI S fun x S => vc n d 71 42 L (.inl (x - y) :: S) M Q) := nr rfl
set_option maxRecDepth 100000 in
theorem v71_42 (n d : Nat) (L : List (Option mL)) (S : List mV) (M : Mm) (Q : mQ) : vc (n + 1) d 71 42 L S M Q = (pI S fun x S => sL L 2 (some (.inl x)) fun L => vc n d 71 43 L S M Q) := nr rfl
set_option maxRecDepth 100000 in
theorem v71_43 (n d : Nat) (L : List (Option mL)) (S : List mV) (M : Mm) (Q : mQ) : vc (n + 1) d 71 43 L S M Q = (vc n d 71 44 L (.inl 0 :: S) M Q) := nr rfl
set_option maxRecDepth 100000 in
theorem v71_44 (n d : Nat) (L : List (Option mL)) (S : List mV) (M : Mm) (Q : mQ) : vc (n + 1) d 71 44 L S M Q = (pI S fun x S => sL L 3 (some (.inl x)) fun L => X d 71 45 L S M Q) := nr rfl
set_option maxRecDepth 100000 in
theorem v71_45 (n d : Nat) (L : List (Option mL)) (S : List mV) (M : Mm) (Q : mQ) : vc (n + 1) d 71 45 L S M Q = (gI L 3 fun x => vc n d 71 46 L (.inl x :: S) M Q) := nr rfl
set_option maxRecDepth 100000 in
theorem v71_46 (n d : Nat) (L : List (Option mL)) (S : List mV) (M : Mm) (Q : mQ) : vc (n + 1) d 71 46 L S M Q = (gI L 2 fun x => vc n d 71 47 L (.inl x :: S) M Q) := nr rfl
set_option maxRecDepth 100000 in
theorem v71_47 (n d : Nat) (L : List (Option mL)) (S : List mV) (M : Mm) (Q : mQ) : vc (n + 1) d 71 47 L S M Q = (pI S fun y S => pI S fun x S => (y ≤ x → vc n d 71 102 L S M Q) ∧ (¬ (y ≤ x) → vc n d 71 50 L S M Q)) := nr rfl
set_option maxRecDepth 100000 in
theorem v71_50 (n d : Nat) (L : List (Option mL)) (S : List mV) (M : Mm) (Q : mQ) : vc (n + 1) d 71 50 L S M Q = (gR L 0 fun x => vc n d 71 51 L (.inr (.inr x) :: S) M Q) := nr rfl
set_option maxRecDepth 100000 in
theorem v71_51 (n d : Nat) (L : List (Option mL)) (S : List mV) (M : Mm) (Q : mQ) : vc (n + 1) d 71 51 L S M Q = (pA S fun a S => shO M a 0 (rrf M a 1 fun r => vc n d 71 54 L (.inr (.inr r) :: S) M Q)) := nr rfl
set_option maxRecDepth 100000 in
theorem v71_54 (n d : Nat) (L : List (Option mL)) (S : List mV) (M : Mm) (Q : mQ) : vc (n + 1) d 71 54 L S M Q = (gI L 3 fun x => vc n d 71 55 L (.inl x :: S) M Q) := nr rfl
set_option maxRecDepth 100000 in
theorem v71_55 (n d : Nat) (L : List (Option mL)) (S : List mV) (M : Mm) (Q : mQ) : vc (n + 1) d 71 55 L S M Q = (pAs 1 S fun as S => pA S fun a S => shO M a 7 (stk S ≤ 8 ∧ XC d 74 (.inr (some a) :: as) M (fun r M => ∃ x : Option Nat, r = some (.inr (.inr x)) ∧ X d 71 58 L (.inr (.inr x) :: S) M Q))) := nr rfl
set_option maxRecDepth 100000 in
theorem v71_58 (n d : Nat) (L : List (Option mL)) (S : List mV) (M : Mm) (Q : mQ) : vc (n + 1) d 71 58 L S M Q = (pR S fun x S => sL L 4 (some (.inr x)) fun L => vc n d 71 60 L S M Q) := nr rfl
set_option maxRecDepth 100000 in
theorem v71_60 (n d : Nat) (L : List (Option mL)) (S : List mV) (M : Mm) (Q : mQ) : vc (n + 1) d 71 60 L S M Q = (gR L 4 fun x => vc n d 71 62 L (.inr (.inr x) :: S) M Q) := nr rfl
set_option maxRecDepth 100000 in
theorem v71_62 (n d : Nat) (L : List (Option mL)) (S : List mV) (M : Mm) (Q : mQ) : vc (n + 1) d 71 62 L S M Q = (pR S fun x S => (x = none → X d 71 96 L S M Q) ∧ (¬ (x = none) → vc n d 71 65 L S M Q)) := nr rfl
set_option maxRecDepth 100000 in
theorem v71_65 (n d : Nat) (L : List (Option mL)) (S : List mV) (M : Mm) (Q : mQ) : vc (n + 1) d 71 65 L S M Q = (gR L 4 fun x => vc n d 71 67 L (.inr (.inr x) :: S) M Q) := nr rfl
set_option maxRecDepth 100000 in
theorem v71_67 (n d : Nat) (L : List (Option mL)) (S : List mV) (M : Mm) (Q : mQ) : vc (n + 1) d 71 67 L S M Q = (pAs 0 S fun as S => pA S fun a S => shO M a 9 (stk S ≤ 8 ∧ XC d 75 (.inr (some a) :: as) M (fun r M => ∃ x : Int32, r = some (.inl x) ∧ X d 71 70 L (.inl x :: S) M Q))) := nr rfl
set_option maxRecDepth 100000 in
theorem v71_70 (n d : Nat) (L : List (Option mL)) (S : List mV) (M : Mm) (Q : mQ) : vc (n + 1) d 71 70 L S M Q = (pI S fun x S => (x = 0 → X d 71 96 L S M Q) ∧ (¬ (x = 0) → vc n d 71 73 L S M Q)) := nr rfl
set_option maxRecDepth 100000 in
theorem v71_73 (n d : Nat) (L : List (Option mL)) (S : List mV) (M : Mm) (Q : mQ) : vc (n + 1) d 71 73 L S M Q = (gR L 0 fun x => vc n d 71 74 L (.inr (.inr x) :: S) M Q) := nr rfl
set_option maxRecDepth 100000 in
theorem v71_74 (n d : Nat) (L : List (Option mL)) (S : List mV) (M : Mm) (Q : mQ) : vc (n + 1) d 71 74 L S M Q = (pA S fun a S => shO M a 0 (rrf M a 10 fun r => vc n d 71 77 L (.inr (.inr r) :: S) M Q)) := nr rfl
set_option maxRecDepth 100000 in
theorem v71_77 (n d : Nat) (L : List (Option mL)) (S : List mV) (M : Mm) (Q : mQ) : vc (n + 1) d 71 77 L S M Q = (gR L 4 fun x => vc n d 71 79 L (.inr (.inr x) :: S) M Q) := nr rfl
set_option maxRecDepth 100000 in
theorem v71_79 (n d : Nat) (L : List (Option mL)) (S : List mV) (M : Mm) (Q : mQ) : vc (n + 1) d 71 79 L S M Q = (pA S fun a S => shO M a 9 (vc n d 71 82 L (.inl (M.it a 3) :: S) M Q)) := nr rfl
set_option maxRecDepth 100000 in
theorem v71_82 (n d : Nat) (L : List (Option mL)) (S : List mV) (M : Mm) (Q : mQ) : vc (n + 1) d 71 82 L S M Q = (pI S fun i S => pA S fun a S => shA M a fun t k => (t = 42 ∨ t = 44) ∧ inB i k ∧ vc n d 71 83 L (.inl (M.it a i.toNatClampNeg) :: S) M Q) := nr rfl
set_option maxRecDepth 100000 in
theorem v71_83 (n d : Nat) (L : List (Option mL)) (S : List mV) (M : Mm) (Q : mQ) : vc (n + 1) d 71 83 L S M Q = (pI S fun x S => (x = 0 → X d 71 96 L S M Q) ∧ (¬ (x = 0) → vc n d 71 86 L S M Q)) := nr rfl
set_option maxRecDepth 100000 in
theorem v71_86 (n d : Nat) (L : List (Option mL)) (S : List mV) (M : Mm) (Q : mQ) : vc (n + 1) d 71 86 L S M Q = (gR L 0 fun x => vc n d 71 87 L (.inr (.inr x) :: S) M Q) := nr rfl
set_option maxRecDepth 100000 in
theorem v71_87 (n d : Nat) (L : List (Option mL)) (S : List mV) (M : Mm) (Q : mQ) : vc (n + 1) d 71 87 L S M Q = (pA S fun a S => shO M a 0 (rrf M a 1 fun r => vc n d 71 90 L (.inr (.inr r) :: S) M Q)) := nr rfl
set_option maxRecDepth 100000 in
theorem v71_90 (n d : Nat) (L : List (Option mL)) (S : List mV) (M : Mm) (Q : mQ) : vc (n + 1) d 71 90 L S M Q = (gI L 1 fun x => vc n d 71 91 L (.inl x :: S) M Q) := nr rfl
set_option maxRecDepth 100000 in
theorem v71_91 (n d : Nat) (L : List (Option mL)) (S : List mV) (M : Mm) (Q : mQ) : vc (n + 1) d 71 91 L S M Q = (gR L 4 fun x => vc n d 71 93 L (.inr (.inr x) :: S) M Q) := nr rfl
set_option maxRecDepth 100000 in
theorem v71_93 (n d : Nat) (L : List (Option mL)) (S : List mV) (M : Mm) (Q : mQ) : vc (n + 1) d 71 93 L S M Q = (pAs 2 S fun as S => pA S fun a S => shO M a 7 (stk S ≤ 8 ∧ XC d 76 (.inr (some a) :: as) M (fun r M => r = none ∧ X d 71 96 L S M Q))) := nr rfl
set_option maxRecDepth 100000 in
theorem v71_96 (n d : Nat) (L : List (Option mL)) (S : List mV) (M : Mm) (Q : mQ) : vc (n + 1) d 71 96 L S M Q = (gI L 3 fun x => sL L 3 (some (.inl (x + 1))) fun L => vc n d 71 99 L S M Q) := nr rfl
set_option maxRecDepth 100000 in
theorem v71_99 (n d : Nat) (L : List (Option mL)) (S : List mV) (M : Mm) (Q : mQ) : vc (n + 1) d 71 99 L S M Q = (X d 71 45 L S M Q) := nr rfl
set_option maxRecDepth 100000 in
theorem v71_102 (n d : Nat) (L : List (Option mL)) (S : List mV) (M : Mm) (Q : mQ) : vc (n + 1) d 71 102 L S M Q = (S = [] ∧ Q none M) := nr rfl
set_option maxRecDepth 100000 in
theorem v72_0 (n d : Nat) (L : List (Option mL)) (S : List mV) (M : Mm) (Q : mQ) : vc (n + 1) d 72 0 L S M Q = (vc n d 72 1 L (.inl 0 :: S) M Q) := nr rfl
set_option maxRecDepth 100000 in
theorem v72_1 (n d : Nat) (L : List (Option mL)) (S : List mV) (M : Mm) (Q : mQ) : vc (n + 1) d 72 1 L S M Q = (pI S fun x S => sL L 1 (some (.inl x)) fun L => X d 72 2 L S M Q) := nr rfl
set_option maxRecDepth 100000 in
theorem v72_2 (n d : Nat) (L : List (Option mL)) (S : List mV) (M : Mm) (Q : mQ) : vc (n + 1) d 72 2 L S M Q = (gI L 1 fun x => vc n d 72 3 L (.inl x :: S) M Q) := nr rfl
set_option maxRecDepth 100000 in
theorem v72_3 (n d : Nat) (L : List (Option mL)) (S : List mV) (M : Mm) (Q : mQ) : vc (n + 1) d 72 3 L S M Q = (vc n d 72 6 L (.inl 128 :: S) M Q) := nr rfl
set_option maxRecDepth 100000 in
theorem v72_6 (n d : Nat) (L : List (Option mL)) (S : List mV) (M : Mm) (Q : mQ) : vc (n + 1) d 72 6 L S M Q = (pI S fun y S => pI S fun x S => (y ≤ x → vc n d 72 22 L S M Q) ∧ (¬ (y ≤ x) → vc n d 72 9 L S M Q)) := nr rfl
set_option maxRecDepth 100000 in
theorem v72_9 (n d : Nat) (L : List (Option mL)) (S : List mV) (M : Mm) (Q : mQ) : vc (n + 1) d 72 9 L S M Q = (gR L 0 fun x => vc n d 72 10 L (.inr (.inr x) :: S) M Q) := nr rfl
set_option maxRecDepth 100000 in
theorem v72_10 (n d : Nat) (L : List (Option mL)) (S : List mV) (M : Mm) (Q : mQ) : vc (n + 1) d 72 10 L S M Q = (pA S fun a S => shO M a 0 (rrf M a 10 fun r => vc n d 72 13 L (.inr (.inr r) :: S) M Q)) := nr rfl
set_option maxRecDepth 100000 in
theorem v72_13 (n d : Nat) (L : List (Option mL)) (S : List mV) (M : Mm) (Q : mQ) : vc (n + 1) d 72 13 L S M Q = (gI L 1 fun x => vc n d 72 14 L (.inl x :: S) M Q) := nr rfl
set_option maxRecDepth 100000 in
theorem v72_14 (n d : Nat) (L : List (Option mL)) (S : List mV) (M : Mm) (Q : mQ) : vc (n + 1) d 72 14 L S M Q = (vc n d 72 15 L (.inl 0 :: S) M Q) := nr rfl
set_option maxRecDepth 100000 in
theorem v72_15 (n d : Nat) (L : List (Option mL)) (S : List mV) (M : Mm) (Q : mQ) : vc (n + 1) d 72 15 L S M Q = (pI S fun x S => pI S fun i S => pA S fun a S => shA M a fun t k => (t = 42 ∨ t = 44) ∧ inB i k ∧ vc n d 72 16 L S (M.si a i.toNatClampNeg (bnar t x)) Q) := nr rfl
set_option maxRecDepth 100000 in
theorem v72_16 (n d : Nat) (L : List (Option mL)) (S : List mV) (M : Mm) (Q : mQ) : vc (n + 1) d 72 16 L S M Q = (gI L 1 fun x => sL L 1 (some (.inl (x + 1))) fun L => vc n d 72 19 L S M Q) := nr rfl
set_option maxRecDepth 100000 in
theorem v72_19 (n d : Nat) (L : List (Option mL)) (S : List mV) (M : Mm) (Q : mQ) : vc (n + 1) d 72 19 L S M Q = (X d 72 2 L S M Q) := nr rfl
set_option maxRecDepth 100000 in
theorem v72_22 (n d : Nat) (L : List (Option mL)) (S : List mV) (M : Mm) (Q : mQ) : vc (n + 1) d 72 22 L S M Q = (S = [] ∧ Q none M) := nr rfl
set_option maxRecDepth 100000 in
theorem v73_0 (n d : Nat) (L : List (Option mL)) (S : List mV) (M : Mm) (Q : mQ) : vc (n + 1) d 73 0 L S M Q = (gI L 1 fun x => vc n d 73 1 L (.inl x :: S) M Q) := nr rfl
set_option maxRecDepth 100000 in
theorem v73_1 (n d : Nat) (L : List (Option mL)) (S : List mV) (M : Mm) (Q : mQ) : vc (n + 1) d 73 1 L S M Q = (pI S fun x S => (0 ≤ x → vc n d 73 5 L S M Q) ∧ (¬ (0 ≤ x) → vc n d 73 4 L S M Q)) := nr rfl
set_option maxRecDepth 100000 in
theorem v73_4 (n d : Nat) (L : List (Option mL)) (S : List mV) (M : Mm) (Q : mQ) : vc (n + 1) d 73 4 L S M Q = (S = [] ∧ Q none M) := nr rfl
set_option maxRecDepth 100000 in
theorem v73_5 (n d : Nat) (L : List (Option mL)) (S : List mV) (M : Mm) (Q : mQ) : vc (n + 1) d 73 5 L S M Q = (gI L 1 fun x => vc n d 73 6 L (.inl x :: S) M Q) := nr rfl
set_option maxRecDepth 100000 in
theorem v73_6 (n d : Nat) (L : List (Option mL)) (S : List mV) (M : Mm) (Q : mQ) : vc (n + 1) d 73 6 L S M Q = (gR L 0 fun x => vc n d 73 7 L (.inr (.inr x) :: S) M Q) := nr rfl
set_option maxRecDepth 100000 in
theorem v73_7 (n d : Nat) (L : List (Option mL)) (S : List mV) (M : Mm) (Q : mQ) : vc (n + 1) d 73 7 L S M Q = (gI L 1 fun x => vc n d 73 8 L (.inl x :: S) M Q) := nr rfl
set_option maxRecDepth 100000 in
theorem v73_8 (n d : Nat) (L : List (Option mL)) (S : List mV) (M : Mm) (Q : mQ) : vc (n + 1) d 73 8 L S M Q = (pAs 1 S fun as S => pA S fun a S => shO M a 0 (stk S ≤ 8 ∧ XC d 23 (.inr (some a) :: as) M (fun r M => ∃ x : Int32, r = some (.inl x) ∧ X d 73 11 L (.inl x :: S) M Q))) := nr rfl
set_option maxRecDepth 100000 in
theorem v73_11 (n d : Nat) (L : List (Option mL)) (S : List mV) (M : Mm) (Q : mQ) : vc (n + 1) d 73 11 L S M Q = (pI S fun y S => pI S fun x S => vc n d 73 12 L (.inl (x + y) :: S) M Q) := nr rfl
set_option maxRecDepth 100000 in
theorem v73_12 (n d : Nat) (L : List (Option mL)) (S : List mV) (M : Mm) (Q : mQ) : vc (n + 1) d 73 12 L S M Q = (vc n d 73 15 L (.inl 128 :: S) M Q) := nr rfl
set_option maxRecDepth 100000 in
theorem v73_15 (n d : Nat) (L : List (Option mL)) (S : List mV) (M : Mm) (Q : mQ) : vc (n + 1) d 73 15 L S M Q = (pI S fun y S => pI S fun x S => 0 < d ∧ stk S ≤ 8 ∧ vc n d 73 18 L (.inl (imin x y) :: S) M Q) := nr rfl
set_option maxRecDepth 100000 in
theorem v73_18 (n d : Nat) (L : List (Option mL)) (S : List mV) (M : Mm) (Q : mQ) : vc (n + 1) d 73 18 L S M Q = (pI S fun x S => sL L 2 (some (.inl x)) fun L => vc n d 73 19 L S M Q) := nr rfl
set_option maxRecDepth 100000 in
theorem v73_19 (n d : Nat) (L : List (Option mL)) (S : List mV) (M : Mm) (Q : mQ) : vc (n + 1) d 73 19 L S M Q = (gI L 1 fun x => vc n d 73 20 L (.inl x :: S) M Q) := nr rfl
set_option maxRecDepth 100000 in
theorem v73_20 (n d : Nat) (L : List (Option mL)) (S : List mV) (M : Mm) (Q : mQ) : vc (n + 1) d 73 20 L S M Q = (pI S fun x S => sL L 3 (some (.inl x)) fun L => X d 73 21 L S M Q) := nr rfl
set_option maxRecDepth 100000 in
theorem v73_21 (n d : Nat) (L : List (Option mL)) (S : List mV) (M : Mm) (Q : mQ) : vc (n + 1) d 73 21 L S M Q = (gI L 3 fun x => vc n d 73 22 L (.inl x :: S) M Q) := nr rfl
set_option maxRecDepth 100000 in
theorem v73_22 (n d : Nat) (L : List (Option mL)) (S : List mV) (M : Mm) (Q : mQ) : vc (n + 1) d 73 22 L S M Q = (gI L 2 fun x => vc n d 73 23 L (.inl x :: S) M Q) := nr rfl
set_option maxRecDepth 100000 in
theorem v73_23 (n d : Nat) (L : List (Option mL)) (S : List mV) (M : Mm) (Q : mQ) : vc (n + 1) d 73 23 L S M Q = (pI S fun y S => pI S fun x S => (y ≤ x → vc n d 73 39 L S M Q) ∧ (¬ (y ≤ x) → vc n d 73 26 L S M Q)) := nr rfl
set_option maxRecDepth 100000 in
theorem v73_26 (n d : Nat) (L : List (Option mL)) (S : List mV) (M : Mm) (Q : mQ) : vc (n + 1) d 73 26 L S M Q = (gR L 0 fun x => vc n d 73 27 L (.inr (.inr x) :: S) M Q) := nr rfl
set_option maxRecDepth 100000 in
theorem v73_27 (n d : Nat) (L : List (Option mL)) (S : List mV) (M : Mm) (Q : mQ) : vc (n + 1) d 73 27 L S M Q = (pA S fun a S => shO M a 0 (rrf M a 10 fun r => vc n d 73 30 L (.inr (.inr r) :: S) M Q)) := nr rfl
set_option maxRecDepth 100000 in
theorem v73_30 (n d : Nat) (L : List (Option mL)) (S : List mV) (M : Mm) (Q : mQ) : vc (n + 1) d 73 30 L S M Q = (gI L 3 fun x => vc n d 73 31 L (.inl x :: S) M Q) := nr rfl
set_option maxRecDepth 100000 in
theorem v73_31 (n d : Nat) (L : List (Option mL)) (S : List mV) (M : Mm) (Q : mQ) : vc (n + 1) d 73 31 L S M Q = (vc n d 73 32 L (.inl 1 :: S) M Q) := nr rfl
set_option maxRecDepth 100000 in
theorem v73_32 (n d : Nat) (L : List (Option mL)) (S : List mV) (M : Mm) (Q : mQ) : vc (n + 1) d 73 32 L S M Q = (pI S fun x S => pI S fun i S => pA S fun a S => shA M a fun t k => (t = 42 ∨ t = 44) ∧ inB i k ∧ vc n d 73 33 L S (M.si a i.toNatClampNeg (bnar t x)) Q) := nr rfl
set_option maxRecDepth 100000 in
theorem v73_33 (n d : Nat) (L : List (Option mL)) (S : List mV) (M : Mm) (Q : mQ) : vc (n + 1) d 73 33 L S M Q = (gI L 3 fun x => sL L 3 (some (.inl (x + 1))) fun L => vc n d 73 36 L S M Q) := nr rfl
set_option maxRecDepth 100000 in
theorem v73_36 (n d : Nat) (L : List (Option mL)) (S : List mV) (M : Mm) (Q : mQ) : vc (n + 1) d 73 36 L S M Q = (X d 73 21 L S M Q) := nr rfl
set_option maxRecDepth 100000 in
theorem v73_39 (n d : Nat) (L : List (Option mL)) (S : List mV) (M : Mm) (Q : mQ) : vc (n + 1) d 73 39 L S M Q = (S = [] ∧ Q none M) := nr rfl
set_option maxRecDepth 100000 in
theorem v74_0 (n d : Nat) (L : List (Option mL)) (S : List mV) (M : Mm) (Q : mQ) : vc (n + 1) d 74 0 L S M Q = (gI L 1 fun x => vc n d 74 1 L (.inl x :: S) M Q) := nr rfl
set_option maxRecDepth 100000 in
theorem v74_1 (n d : Nat) (L : List (Option mL)) (S : List mV) (M : Mm) (Q : mQ) : vc (n + 1) d 74 1 L S M Q = (pI S fun x S => (x < 0 → vc n d 74 21 L S M Q) ∧ (¬ (x < 0) → vc n d 74 4 L S M Q)) := nr rfl
set_option maxRecDepth 100000 in
theorem v74_4 (n d : Nat) (L : List (Option mL)) (S : List mV) (M : Mm) (Q : mQ) : vc (n + 1) d 74 4 L S M Q = (gI L 1 fun x => vc n d 74 5 L (.inl x :: S) M Q) := nr rfl
set_option maxRecDepth 100000 in
theorem v74_5 (n d : Nat) (L : List (Option mL)) (S : List mV) (M : Mm) (Q : mQ) : vc (n + 1) d 74 5 L S M Q = (gR L 0 fun x => vc n d 74 6 L (.inr (.inr x) :: S) M Q) := nr rfl
set_option maxRecDepth 100000 in
theorem v74_6 (n d : Nat) (L : List (Option mL)) (S : List mV) (M : Mm) (Q : mQ) : vc (n + 1) d 74 6 L S M Q = (pA S fun a S => shO M a 7 (vc n d 74 9 L (.inl (M.it a 1) :: S) M Q)) := nr rfl
set_option maxRecDepth 100000 in
theorem v74_9 (n d : Nat) (L : List (Option mL)) (S : List mV) (M : Mm) (Q : mQ) : vc (n + 1) d 74 9 L S M Q = (pI S fun y S => pI S fun x S => (y ≤ x → vc n d 74 21 L S M Q) ∧ (¬ (y ≤ x) → vc n d 74 12 L S M Q)) := nr rfl
set_option maxRecDepth 100000 in
theorem v74_12 (n d : Nat) (L : List (Option mL)) (S : List mV) (M : Mm) (Q : mQ) : vc (n + 1) d 74 12 L S M Q = (gR L 0 fun x => vc n d 74 13 L (.inr (.inr x) :: S) M Q) := nr rfl
set_option maxRecDepth 100000 in
theorem v74_13 (n d : Nat) (L : List (Option mL)) (S : List mV) (M : Mm) (Q : mQ) : vc (n + 1) d 74 13 L S M Q = (pA S fun a S => shO M a 7 (rrf M a 0 fun r => vc n d 74 16 L (.inr (.inr r) :: S) M Q)) := nr rfl
set_option maxRecDepth 100000 in
theorem v74_16 (n d : Nat) (L : List (Option mL)) (S : List mV) (M : Mm) (Q : mQ) : vc (n + 1) d 74 16 L S M Q = (gI L 1 fun x => vc n d 74 17 L (.inl x :: S) M Q) := nr rfl
set_option maxRecDepth 100000 in
theorem v74_17 (n d : Nat) (L : List (Option mL)) (S : List mV) (M : Mm) (Q : mQ) : vc (n + 1) d 74 17 L S M Q = (pI S fun i S => pA S fun a S => shA M a fun t k => rTyB t = true ∧ inB i k ∧ rrf M a i.toNatClampNeg fun r => vc n d 74 18 L (.inr (.inr r) :: S) M Q) := nr rfl
set_option maxRecDepth 100000 in
theorem v74_18 (n d : Nat) (L : List (Option mL)) (S : List mV) (M : Mm) (Q : mQ) : vc (n + 1) d 74 18 L S M Q = (vc n d 74 22 L S M Q) := nr rfl
set_option maxRecDepth 100000 in
theorem v74_21 (n d : Nat) (L : List (Option mL)) (S : List mV) (M : Mm) (Q : mQ) : vc (n + 1) d 74 21 L S M Q = (vc n d 74 22 L (.inr (.inr none) :: S) M Q) := nr rfl
set_option maxRecDepth 100000 in
theorem v74_22 (n d : Nat) (L : List (Option mL)) (S : List mV) (M : Mm) (Q : mQ) : vc (n + 1) d 74 22 L S M Q = (pR S fun r S => S = [] ∧ Q (some (.inr (.inr r))) M) := nr rfl
set_option maxRecDepth 100000 in
theorem v75_0 (n d : Nat) (L : List (Option mL)) (S : List mV) (M : Mm) (Q : mQ) : vc (n + 1) d 75 0 L S M Q = (gR L 0 fun x => vc n d 75 1 L (.inr (.inr x) :: S) M Q) := nr rfl
set_option maxRecDepth 100000 in
theorem v75_1 (n d : Nat) (L : List (Option mL)) (S : List mV) (M : Mm) (Q : mQ) : vc (n + 1) d 75 1 L S M Q = (pA S fun a S => shO M a 9 (vc n d 75 4 L (.inl (M.it a 3) :: S) M Q)) := nr rfl
set_option maxRecDepth 100000 in
theorem v75_4 (n d : Nat) (L : List (Option mL)) (S : List mV) (M : Mm) (Q : mQ) : vc (n + 1) d 75 4 L S M Q = (pI S fun x S => (x < 0 → vc n d 75 21 L S M Q) ∧ (¬ (x < 0) → vc n d 75 7 L S M Q)) := nr rfl
set_option maxRecDepth 100000 in
theorem v75_7 (n d : Nat) (L : List (Option mL)) (S : List mV) (M : Mm) (Q : mQ) : vc (n + 1) d 75 7 L S M Q = (gR L 0 fun x => vc n d 75 8 L (.inr (.inr x) :: S) M Q) := nr rfl
set_option maxRecDepth 100000 in
theorem v75_8 (n d : Nat) (L : List (Option mL)) (S : List mV) (M : Mm) (Q : mQ) : vc (n + 1) d 75 8 L S M Q = (pA S fun a S => shO M a 9 (vc n d 75 11 L (.inl (M.it a 3) :: S) M Q)) := nr rfl
set_option maxRecDepth 100000 in
theorem v75_11 (n d : Nat) (L : List (Option mL)) (S : List mV) (M : Mm) (Q : mQ) : vc (n + 1) d 75 11 L S M Q = (vc n d 75 14 L (.inl 128 :: S) M Q) := nr rfl
set_option maxRecDepth 100000 in
theorem v75_14 (n d : Nat) (L : List (Option mL)) (S : List mV) (M : Mm) (Q : mQ) : vc (n + 1) d 75 14 L S M Q = (pI S fun y S => pI S fun x S => (y ≤ x → vc n d 75 21 L S M Q) ∧ (¬ (y ≤ x) → vc n d 75 17 L S M Q)) := nr rfl
set_option maxRecDepth 100000 in
theorem v75_17 (n d : Nat) (L : List (Option mL)) (S : List mV) (M : Mm) (Q : mQ) : vc (n + 1) d 75 17 L S M Q = (vc n d 75 18 L (.inl 1 :: S) M Q) := nr rfl
set_option maxRecDepth 100000 in
theorem v75_18 (n d : Nat) (L : List (Option mL)) (S : List mV) (M : Mm) (Q : mQ) : vc (n + 1) d 75 18 L S M Q = (vc n d 75 22 L S M Q) := nr rfl
set_option maxRecDepth 100000 in
theorem v75_21 (n d : Nat) (L : List (Option mL)) (S : List mV) (M : Mm) (Q : mQ) : vc (n + 1) d 75 21 L S M Q = (vc n d 75 22 L (.inl 0 :: S) M Q) := nr rfl
set_option maxRecDepth 100000 in
theorem v75_22 (n d : Nat) (L : List (Option mL)) (S : List mV) (M : Mm) (Q : mQ) : vc (n + 1) d 75 22 L S M Q = (pI S fun x S => S = [] ∧ (1 = 0 ∨ x = 0 ∨ x = 1) ∧ Q (some (.inl x)) M) := nr rfl
set_option maxRecDepth 100000 in
theorem v76_0 (n d : Nat) (L : List (Option mL)) (S : List mV) (M : Mm) (Q : mQ) : vc (n + 1) d 76 0 L S M Q = (gR L 0 fun x => vc n d 76 1 L (.inr (.inr x) :: S) M Q) := nr rfl
set_option maxRecDepth 100000 in
theorem v76_1 (n d : Nat) (L : List (Option mL)) (S : List mV) (M : Mm) (Q : mQ) : vc (n + 1) d 76 1 L S M Q = (pA S fun a S => shO M a 7 (vc n d 76 4 L (.inl (M.it a 1) :: S) M Q)) := nr rfl
set_option maxRecDepth 100000 in
theorem v76_4 (n d : Nat) (L : List (Option mL)) (S : List mV) (M : Mm) (Q : mQ) : vc (n + 1) d 76 4 L S M Q = (gI L 1 fun x => vc n d 76 5 L (.inl x :: S) M Q) := nr rfl
set_option maxRecDepth 100000 in
theorem v76_5 (n d : Nat) (L : List (Option mL)) (S : List mV) (M : Mm) (Q : mQ) : vc (n + 1) d 76 5 L S M Q = (pI S fun y S => pI S fun x S => vc n d 76 6 L (.inl (x - y) :: S) M Q) := nr rfl
set_option maxRecDepth 100000 in
theorem v76_6 (n d : Nat) (L : List (Option mL)) (S : List mV) (M : Mm) (Q : mQ) : vc (n + 1) d 76 6 L S M Q = (vc n d 76 7 L (.inl 0 :: S) M Q) := nr rfl
set_option maxRecDepth 100000 in
theorem v76_7 (n d : Nat) (L : List (Option mL)) (S : List mV) (M : Mm) (Q : mQ) : vc (n + 1) d 76 7 L S M Q = (pI S fun y S => pI S fun x S => 0 < d ∧ stk S ≤ 8 ∧ vc n d 76 10 L (.inl (imax x y) :: S) M Q) := nr rfl
set_option maxRecDepth 100000 in
theorem v76_10 (n d : Nat) (L : List (Option mL)) (S : List mV) (M : Mm) (Q : mQ) : vc (n + 1) d 76 10 L S M Q = (pI S fun x S => sL L 3 (some (.inl x)) fun L => X d 76 11 L S M Q) := nr rfl
set_option maxRecDepth 100000 in
theorem v76_11 (n d : Nat) (L : List (Option mL)) (S : List mV) (M : Mm) (Q : mQ) : vc (n + 1) d 76 11 L S M Q = (gI L 3 fun x => vc n d 76 12 L (.inl x :: S) M Q) := nr rfl
set_option maxRecDepth 100000 in
theorem v76_12 (n d : Nat) (L : List (Option mL)) (S : List mV) (M : Mm) (Q : mQ) : vc (n + 1) d 76 12 L S M Q = (gR L 0 fun x => vc n d 76 13 L (.inr (.inr x) :: S) M Q) := nr rfl
set_option maxRecDepth 100000 in
theorem v76_13 (n d : Nat) (L : List (Option mL)) (S : List mV) (M : Mm) (Q : mQ) : vc (n + 1) d 76 13 L S M Q = (pA S fun a S => shO M a 7 (vc n d 76 16 L (.inl (M.it a 1) :: S) M Q)) := nr rfl
set_option maxRecDepth 100000 in
theorem v76_16 (n d : Nat) (L : List (Option mL)) (S : List mV) (M : Mm) (Q : mQ) : vc (n + 1) d 76 16 L S M Q = (pI S fun y S => pI S fun x S => (y ≤ x → vc n d 76 35 L S M Q) ∧ (¬ (y ≤ x) → vc n d 76 19 L S M Q)) := nr rfl
set_option maxRecDepth 100000 in
theorem v76_19 (n d : Nat) (L : List (Option mL)) (S : List mV) (M : Mm) (Q : mQ) : vc (n + 1) d 76 19 L S M Q = (gR L 0 fun x => vc n d 76 20 L (.inr (.inr x) :: S) M Q) := nr rfl
set_option maxRecDepth 100000 in
theorem v76_20 (n d : Nat) (L : List (Option mL)) (S : List mV) (M : Mm) (Q : mQ) : vc (n + 1) d 76 20 L S M Q = (pA S fun a S => shO M a 7 (rrf M a 0 fun r => vc n d 76 23 L (.inr (.inr r) :: S) M Q)) := nr rfl
set_option maxRecDepth 100000 in
theorem v76_23 (n d : Nat) (L : List (Option mL)) (S : List mV) (M : Mm) (Q : mQ) : vc (n + 1) d 76 23 L S M Q = (gI L 3 fun x => vc n d 76 24 L (.inl x :: S) M Q) := nr rfl
set_option maxRecDepth 100000 in
theorem v76_24 (n d : Nat) (L : List (Option mL)) (S : List mV) (M : Mm) (Q : mQ) : vc (n + 1) d 76 24 L S M Q = (pI S fun i S => pA S fun a S => shA M a fun t k => rTyB t = true ∧ inB i k ∧ rrf M a i.toNatClampNeg fun r => vc n d 76 25 L (.inr (.inr r) :: S) M Q) := nr rfl
set_option maxRecDepth 100000 in
theorem v76_25 (n d : Nat) (L : List (Option mL)) (S : List mV) (M : Mm) (Q : mQ) : vc (n + 1) d 76 25 L S M Q = (gR L 2 fun x => vc n d 76 26 L (.inr (.inr x) :: S) M Q) := nr rfl
set_option maxRecDepth 100000 in
theorem v76_26 (n d : Nat) (L : List (Option mL)) (S : List mV) (M : Mm) (Q : mQ) : vc (n + 1) d 76 26 L S M Q = (pAs 1 S fun as S => pA S fun a S => shO M a 9 (stk S ≤ 8 ∧ XC d 58 (.inr (some a) :: as) M (fun r M => r = none ∧ X d 76 29 L S M Q))) := nr rfl
set_option maxRecDepth 100000 in
theorem v76_29 (n d : Nat) (L : List (Option mL)) (S : List mV) (M : Mm) (Q : mQ) : vc (n + 1) d 76 29 L S M Q = (gI L 3 fun x => sL L 3 (some (.inl (x + 1))) fun L => vc n d 76 32 L S M Q) := nr rfl
set_option maxRecDepth 100000 in
theorem v76_32 (n d : Nat) (L : List (Option mL)) (S : List mV) (M : Mm) (Q : mQ) : vc (n + 1) d 76 32 L S M Q = (X d 76 11 L S M Q) := nr rfl
set_option maxRecDepth 100000 in
theorem v76_35 (n d : Nat) (L : List (Option mL)) (S : List mV) (M : Mm) (Q : mQ) : vc (n + 1) d 76 35 L S M Q = (S = [] ∧ Q none M) := nr rfl
set_option maxRecDepth 100000 in
theorem v77_0 (n d : Nat) (L : List (Option mL)) (S : List mV) (M : Mm) (Q : mQ) : vc (n + 1) d 77 0 L S M Q = (gI L 1 fun x => vc n d 77 1 L (.inl x :: S) M Q) := nr rfl
set_option maxRecDepth 100000 in
theorem v77_1 (n d : Nat) (L : List (Option mL)) (S : List mV) (M : Mm) (Q : mQ) : vc (n + 1) d 77 1 L S M Q = (pI S fun x S => (¬ x = 0 → vc n d 77 12 L S M Q) ∧ (¬ (¬ x = 0) → vc n d 77 4 L S M Q)) := nr rfl
set_option maxRecDepth 100000 in
theorem v77_4 (n d : Nat) (L : List (Option mL)) (S : List mV) (M : Mm) (Q : mQ) : vc (n + 1) d 77 4 L S M Q = (gR L 0 fun x => vc n d 77 5 L (.inr (.inr x) :: S) M Q) := nr rfl
set_option maxRecDepth 100000 in
theorem v77_5 (n d : Nat) (L : List (Option mL)) (S : List mV) (M : Mm) (Q : mQ) : vc (n + 1) d 77 5 L S M Q = (pA S fun a S => shO M a 5 (vc n d 77 8 L (.inl (M.it a 2) :: S) M Q)) := nr rfl
set_option maxRecDepth 100000 in
theorem v77_8 (n d : Nat) (L : List (Option mL)) (S : List mV) (M : Mm) (Q : mQ) : vc (n + 1) d 77 8 L S M Q = (vc n d 77 9 L (.inl 3 :: S) M Q) := nr rfl
set_option maxRecDepth 100000 in
theorem v77_9 (n d : Nat) (L : List (Option mL)) (S : List mV) (M : Mm) (Q : mQ) : vc (n + 1) d 77 9 L S M Q = (pI S fun y S => pI S fun x S => (x < y → vc n d 77 17 L S M Q) ∧ (¬ (x < y) → vc n d 77 12 L S M Q)) := nr rfl
set_option maxRecDepth 100000 in
theorem v77_12 (n d : Nat) (L : List (Option mL)) (S : List mV) (M : Mm) (Q : mQ) : vc (n + 1) d 77 12 L S M Q = (gR L 0 fun x => vc n d 77 13 L (.inr (.inr x) :: S) M Q) := nr rfl
set_option maxRecDepth 100000 in
theorem v77_13 (n d : Nat) (L : List (Option mL)) (S : List mV) (M : Mm) (Q : mQ) : vc (n + 1) d 77 13 L S M Q = (vc n d 77 14 L (.inl 0 :: S) M Q) := nr rfl
set_option maxRecDepth 100000 in
theorem v77_14 (n d : Nat) (L : List (Option mL)) (S : List mV) (M : Mm) (Q : mQ) : vc (n + 1) d 77 14 L S M Q = (pI S fun x S => pA S fun a S => shO M a 5 (vc n d 77 17 L S (M.si a 2 x) Q)) := nr rfl
set_option maxRecDepth 100000 in
theorem v77_17 (n d : Nat) (L : List (Option mL)) (S : List mV) (M : Mm) (Q : mQ) : vc (n + 1) d 77 17 L S M Q = (gR L 0 fun x => vc n d 77 18 L (.inr (.inr x) :: S) M Q) := nr rfl
set_option maxRecDepth 100000 in
theorem v77_18 (n d : Nat) (L : List (Option mL)) (S : List mV) (M : Mm) (Q : mQ) : vc (n + 1) d 77 18 L S M Q = (pA S fun a S => shO M a 5 (rrf M a 1 fun r => vc n d 77 21 L (.inr (.inr r) :: S) M Q)) := nr rfl
set_option maxRecDepth 100000 in
theorem v77_21 (n d : Nat) (L : List (Option mL)) (S : List mV) (M : Mm) (Q : mQ) : vc (n + 1) d 77 21 L S M Q = (gR L 0 fun x => vc n d 77 22 L (.inr (.inr x) :: S) M Q) := nr rfl
set_option maxRecDepth 100000 in
theorem v77_22 (n d : Nat) (L : List (Option mL)) (S : List mV) (M : Mm) (Q : mQ) : vc (n + 1) d 77 22 L S M Q = (pA S fun a S => shO M a 5 (vc n d 77 25 L (.inl (M.it a 2) :: S) M Q)) := nr rfl
set_option maxRecDepth 100000 in
theorem v77_25 (n d : Nat) (L : List (Option mL)) (S : List mV) (M : Mm) (Q : mQ) : vc (n + 1) d 77 25 L S M Q = (pI S fun i S => pA S fun a S => shA M a fun t k => rTyB t = true ∧ inB i k ∧ rrf M a i.toNatClampNeg fun r => vc n d 77 26 L (.inr (.inr r) :: S) M Q) := nr rfl
set_option maxRecDepth 100000 in
theorem v77_26 (n d : Nat) (L : List (Option mL)) (S : List mV) (M : Mm) (Q : mQ) : vc (n + 1) d 77 26 L S M Q = (pR S fun x S => sL L 3 (some (.inr x)) fun L => vc n d 77 27 L S M Q) := nr rfl
set_option maxRecDepth 100000 in
theorem v77_27 (n d : Nat) (L : List (Option mL)) (S : List mV) (M : Mm) (Q : mQ) : vc (n + 1) d 77 27 L S M Q = (gR L 0 fun x => vc n d 77 28 L (.inr (.inr x) :: S) M Q) := nr rfl
set_option maxRecDepth 100000 in
theorem v77_28 (n d : Nat) (L : List (Option mL)) (S : List mV) (M : Mm) (Q : mQ) : vc (n + 1) d 77 28 L S M Q = (pA S fun a S => shO M a 5 (vc n d 77 31 L (.inl (M.it a 2) :: S) M Q)) := nr rfl
set_option maxRecDepth 100000 in
theorem v77_31 (n d : Nat) (L : List (Option mL)) (S : List mV) (M : Mm) (Q : mQ) : vc (n + 1) d 77 31 L S M Q = (pI S fun x S => sL L 4 (some (.inl x)) fun L => X d 77 33 L S M Q) := nr rfl
set_option maxRecDepth 100000 in
theorem v77_33 (n d : Nat) (L : List (Option mL)) (S : List mV) (M : Mm) (Q : mQ) : vc (n + 1) d 77 33 L S M Q = (gI L 4 fun x => vc n d 77 35 L (.inl x :: S) M Q) := nr rfl
set_option maxRecDepth 100000 in
theorem v77_35 (n d : Nat) (L : List (Option mL)) (S : List mV) (M : Mm) (Q : mQ) : vc (n + 1) d 77 35 L S M Q = (pI S fun x S => (x ≤ 0 → vc n d 77 60 L S M Q) ∧ (¬ (x ≤ 0) → vc n d 77 38 L S M Q)) := nr rfl
set_option maxRecDepth 100000 in
theorem v77_38 (n d : Nat) (L : List (Option mL)) (S : List mV) (M : Mm) (Q : mQ) : vc (n + 1) d 77 38 L S M Q = (gR L 0 fun x => vc n d 77 39 L (.inr (.inr x) :: S) M Q) := nr rfl
set_option maxRecDepth 100000 in
theorem v77_39 (n d : Nat) (L : List (Option mL)) (S : List mV) (M : Mm) (Q : mQ) : vc (n + 1) d 77 39 L S M Q = (pA S fun a S => shO M a 5 (rrf M a 1 fun r => vc n d 77 42 L (.inr (.inr r) :: S) M Q)) := nr rfl
set_option maxRecDepth 100000 in
theorem v77_42 (n d : Nat) (L : List (Option mL)) (S : List mV) (M : Mm) (Q : mQ) : vc (n + 1) d 77 42 L S M Q = (gI L 4 fun x => vc n d 77 44 L (.inl x :: S) M Q) := nr rfl
set_option maxRecDepth 100000 in
theorem v77_44 (n d : Nat) (L : List (Option mL)) (S : List mV) (M : Mm) (Q : mQ) : vc (n + 1) d 77 44 L S M Q = (gR L 0 fun x => vc n d 77 45 L (.inr (.inr x) :: S) M Q) := nr rfl
set_option maxRecDepth 100000 in
theorem v77_45 (n d : Nat) (L : List (Option mL)) (S : List mV) (M : Mm) (Q : mQ) : vc (n + 1) d 77 45 L S M Q = (pA S fun a S => shO M a 5 (rrf M a 1 fun r => vc n d 77 48 L (.inr (.inr r) :: S) M Q)) := nr rfl
set_option maxRecDepth 100000 in
theorem v77_48 (n d : Nat) (L : List (Option mL)) (S : List mV) (M : Mm) (Q : mQ) : vc (n + 1) d 77 48 L S M Q = (gI L 4 fun x => vc n d 77 50 L (.inl x :: S) M Q) := nr rfl
set_option maxRecDepth 100000 in
theorem v77_50 (n d : Nat) (L : List (Option mL)) (S : List mV) (M : Mm) (Q : mQ) : vc (n + 1) d 77 50 L S M Q = (vc n d 77 51 L (.inl 1 :: S) M Q) := nr rfl
set_option maxRecDepth 100000 in
theorem v77_51 (n d : Nat) (L : List (Option mL)) (S : List mV) (M : Mm) (Q : mQ) : vc (n + 1) d 77 51 L S M Q = (pI S fun y S => pI S fun x S => vc n d 77 52 L (.inl (x - y) :: S) M Q) := nr rfl
set_option maxRecDepth 100000 in
theorem v77_52 (n d : Nat) (L : List (Option mL)) (S : List mV) (M : Mm) (Q : mQ) : vc (n + 1) d 77 52 L S M Q = (pI S fun i S => pA S fun a S => shA M a fun t k => rTyB t = true ∧ inB i k ∧ rrf M a i.toNatClampNeg fun r => vc n d 77 53 L (.inr (.inr r) :: S) M Q) := nr rfl
set_option maxRecDepth 100000 in
theorem v77_53 (n d : Nat) (L : List (Option mL)) (S : List mV) (M : Mm) (Q : mQ) : vc (n + 1) d 77 53 L S M Q = (pR S fun x S => pI S fun i S => pA S fun a S => shA M a fun t k => rTyB t = true ∧ inB i k ∧ (∀ b : Nat, x = some b → M.sh b = some (t - 50, 0)) ∧ vc n d 77 54 L S (M.sr a i.toNatClampNeg x) Q) := nr rfl
set_option maxRecDepth 100000 in
theorem v77_54 (n d : Nat) (L : List (Option mL)) (S : List mV) (M : Mm) (Q : mQ) : vc (n + 1) d 77 54 L S M Q = (gI L 4 fun x => sL L 4 (some (.inl (x + (-1)))) fun L => vc n d 77 57 L S M Q) := nr rfl
set_option maxRecDepth 100000 in
theorem v77_57 (n d : Nat) (L : List (Option mL)) (S : List mV) (M : Mm) (Q : mQ) : vc (n + 1) d 77 57 L S M Q = (X d 77 33 L S M Q) := nr rfl
set_option maxRecDepth 100000 in
theorem v77_60 (n d : Nat) (L : List (Option mL)) (S : List mV) (M : Mm) (Q : mQ) : vc (n + 1) d 77 60 L S M Q = (gR L 0 fun x => vc n d 77 61 L (.inr (.inr x) :: S) M Q) := nr rfl
set_option maxRecDepth 100000 in
theorem v77_61 (n d : Nat) (L : List (Option mL)) (S : List mV) (M : Mm) (Q : mQ) : vc (n + 1) d 77 61 L S M Q = (pA S fun a S => shO M a 5 (rrf M a 1 fun r => vc n d 77 64 L (.inr (.inr r) :: S) M Q)) := nr rfl
set_option maxRecDepth 100000 in
theorem v77_64 (n d : Nat) (L : List (Option mL)) (S : List mV) (M : Mm) (Q : mQ) : vc (n + 1) d 77 64 L S M Q = (vc n d 77 65 L (.inl 0 :: S) M Q) := nr rfl
set_option maxRecDepth 100000 in
theorem v77_65 (n d : Nat) (L : List (Option mL)) (S : List mV) (M : Mm) (Q : mQ) : vc (n + 1) d 77 65 L S M Q = (gR L 0 fun x => vc n d 77 66 L (.inr (.inr x) :: S) M Q) := nr rfl
set_option maxRecDepth 100000 in
theorem v77_66 (n d : Nat) (L : List (Option mL)) (S : List mV) (M : Mm) (Q : mQ) : vc (n + 1) d 77 66 L S M Q = (pA S fun a S => shO M a 5 (rrf M a 3 fun r => vc n d 77 69 L (.inr (.inr r) :: S) M Q)) := nr rfl
set_option maxRecDepth 100000 in
theorem v77_69 (n d : Nat) (L : List (Option mL)) (S : List mV) (M : Mm) (Q : mQ) : vc (n + 1) d 77 69 L S M Q = (pR S fun x S => pI S fun i S => pA S fun a S => shA M a fun t k => rTyB t = true ∧ inB i k ∧ (∀ b : Nat, x = some b → M.sh b = some (t - 50, 0)) ∧ vc n d 77 70 L S (M.sr a i.toNatClampNeg x) Q) := nr rfl
set_option maxRecDepth 100000 in
theorem v77_70 (n d : Nat) (L : List (Option mL)) (S : List mV) (M : Mm) (Q : mQ) : vc (n + 1) d 77 70 L S M Q = (gR L 0 fun x => vc n d 77 71 L (.inr (.inr x) :: S) M Q) := nr rfl
set_option maxRecDepth 100000 in
theorem v77_71 (n d : Nat) (L : List (Option mL)) (S : List mV) (M : Mm) (Q : mQ) : vc (n + 1) d 77 71 L S M Q = (pA S fun a S => shO M a 5 (rrf M a 1 fun r => vc n d 77 74 L (.inr (.inr r) :: S) M Q)) := nr rfl
set_option maxRecDepth 100000 in
theorem v77_74 (n d : Nat) (L : List (Option mL)) (S : List mV) (M : Mm) (Q : mQ) : vc (n + 1) d 77 74 L S M Q = (vc n d 77 75 L (.inl 0 :: S) M Q) := nr rfl
set_option maxRecDepth 100000 in
theorem v77_75 (n d : Nat) (L : List (Option mL)) (S : List mV) (M : Mm) (Q : mQ) : vc (n + 1) d 77 75 L S M Q = (pI S fun i S => pA S fun a S => shA M a fun t k => rTyB t = true ∧ inB i k ∧ rrf M a i.toNatClampNeg fun r => vc n d 77 76 L (.inr (.inr r) :: S) M Q) := nr rfl
set_option maxRecDepth 100000 in
theorem v77_76 (n d : Nat) (L : List (Option mL)) (S : List mV) (M : Mm) (Q : mQ) : vc (n + 1) d 77 76 L S M Q = (gI L 2 fun x => vc n d 77 77 L (.inl x :: S) M Q) := nr rfl
set_option maxRecDepth 100000 in
theorem v77_77 (n d : Nat) (L : List (Option mL)) (S : List mV) (M : Mm) (Q : mQ) : vc (n + 1) d 77 77 L S M Q = (pI S fun x S => pA S fun a S => shO M a 4 (vc n d 77 80 L S (M.si a 2 x) Q)) := nr rfl
set_option maxRecDepth 100000 in
theorem v77_80 (n d : Nat) (L : List (Option mL)) (S : List mV) (M : Mm) (Q : mQ) : vc (n + 1) d 77 80 L S M Q = (gR L 0 fun x => vc n d 77 81 L (.inr (.inr x) :: S) M Q) := nr rfl
set_option maxRecDepth 100000 in
theorem v77_81 (n d : Nat) (L : List (Option mL)) (S : List mV) (M : Mm) (Q : mQ) : vc (n + 1) d 77 81 L S M Q = (gR L 3 fun x => vc n d 77 82 L (.inr (.inr x) :: S) M Q) := nr rfl
set_option maxRecDepth 100000 in
theorem v77_82 (n d : Nat) (L : List (Option mL)) (S : List mV) (M : Mm) (Q : mQ) : vc (n + 1) d 77 82 L S M Q = (pR S fun x S => pA S fun a S => shO M a 5 (vc n d 77 85 L S (M.sr a 3 x) Q)) := nr rfl
set_option maxRecDepth 100000 in
theorem v77_85 (n d : Nat) (L : List (Option mL)) (S : List mV) (M : Mm) (Q : mQ) : vc (n + 1) d 77 85 L S M Q = (gR L 0 fun x => vc n d 77 86 L (.inr (.inr x) :: S) M Q) := nr rfl
set_option maxRecDepth 100000 in
theorem v77_86 (n d : Nat) (L : List (Option mL)) (S : List mV) (M : Mm) (Q : mQ) : vc (n + 1) d 77 86 L S M Q = (pC S fun v S => vc n d 77 87 L (v :: v :: S) M Q) := nr rfl
set_option maxRecDepth 100000 in
theorem v77_87 (n d : Nat) (L : List (Option mL)) (S : List mV) (M : Mm) (Q : mQ) : vc (n + 1) d 77 87 L S M Q = (pA S fun a S => shO M a 5 (vc n d 77 90 L (.inl (M.it a 2) :: S) M Q)) := nr rfl
set_option maxRecDepth 100000 in
theorem v77_90 (n d : Nat) (L : List (Option mL)) (S : List mV) (M : Mm) (Q : mQ) : vc (n + 1) d 77 90 L S M Q = (vc n d 77 91 L (.inl 1 :: S) M Q) := nr rfl
set_option maxRecDepth 100000 in
theorem v77_91 (n d : Nat) (L : List (Option mL)) (S : List mV) (M : Mm) (Q : mQ) : vc (n + 1) d 77 91 L S M Q = (pI S fun y S => pI S fun x S => vc n d 77 92 L (.inl (x + y) :: S) M Q) := nr rfl
set_option maxRecDepth 100000 in
theorem v77_92 (n d : Nat) (L : List (Option mL)) (S : List mV) (M : Mm) (Q : mQ) : vc (n + 1) d 77 92 L S M Q = (pI S fun x S => pA S fun a S => shO M a 5 (vc n d 77 95 L S (M.si a 2 x) Q)) := nr rfl
set_option maxRecDepth 100000 in
theorem v77_95 (n d : Nat) (L : List (Option mL)) (S : List mV) (M : Mm) (Q : mQ) : vc (n + 1) d 77 95 L S M Q = (gR L 0 fun x => vc n d 77 96 L (.inr (.inr x) :: S) M Q) := nr rfl
set_option maxRecDepth 100000 in
theorem v77_96 (n d : Nat) (L : List (Option mL)) (S : List mV) (M : Mm) (Q : mQ) : vc (n + 1) d 77 96 L S M Q = (pA S fun a S => shO M a 5 (rrf M a 0 fun r => vc n d 77 99 L (.inr (.inr r) :: S) M Q)) := nr rfl
set_option maxRecDepth 100000 in
theorem v77_99 (n d : Nat) (L : List (Option mL)) (S : List mV) (M : Mm) (Q : mQ) : vc (n + 1) d 77 99 L S M Q = (pAs 0 S fun as S => pA S fun a S => shO M a 4 (stk S ≤ 8 ∧ XC d 11 (.inr (some a) :: as) M (fun r M => r = none ∧ X d 77 102 L S M Q))) := nr rfl
set_option maxRecDepth 100000 in
theorem v77_102 (n d : Nat) (L : List (Option mL)) (S : List mV) (M : Mm) (Q : mQ) : vc (n + 1) d 77 102 L S M Q = (S = [] ∧ Q none M) := nr rfl
set_option maxRecDepth 100000 in
theorem v78_0 (n d : Nat) (L : List (Option mL)) (S : List mV) (M : Mm) (Q : mQ) : vc (n + 1) d 78 0 L S M Q = (vc n d 78 3 L (.inr (.inr (some M.sz)) :: S) (M.nw (8, 0) 5) Q) := nr rfl
set_option maxRecDepth 100000 in
theorem v78_3 (n d : Nat) (L : List (Option mL)) (S : List mV) (M : Mm) (Q : mQ) : vc (n + 1) d 78 3 L S M Q = (pC S fun v S => vc n d 78 4 L (v :: v :: S) M Q) := nr rfl
set_option maxRecDepth 100000 in
theorem v78_4 (n d : Nat) (L : List (Option mL)) (S : List mV) (M : Mm) (Q : mQ) : vc (n + 1) d 78 4 L S M Q = (gR L 0 fun x => vc n d 78 5 L (.inr (.inr x) :: S) M Q) := nr rfl
set_option maxRecDepth 100000 in
theorem v78_5 (n d : Nat) (L : List (Option mL)) (S : List mV) (M : Mm) (Q : mQ) : vc (n + 1) d 78 5 L S M Q = (pA S fun a S => shO M a 0 (rrf M a 14 fun r => vc n d 78 8 L (.inr (.inr r) :: S) M Q)) := nr rfl
set_option maxRecDepth 100000 in
theorem v78_8 (n d : Nat) (L : List (Option mL)) (S : List mV) (M : Mm) (Q : mQ) : vc (n + 1) d 78 8 L S M Q = (pA S fun a S => shO M a 8 (vc n d 78 11 L (.inl (M.it a 0) :: S) M Q)) := nr rfl
set_option maxRecDepth 100000 in
theorem v78_11 (n d : Nat) (L : List (Option mL)) (S : List mV) (M : Mm) (Q : mQ) : vc (n + 1) d 78 11 L S M Q = (vc n d 78 12 L (.inl 1 :: S) M Q) := nr rfl
set_option maxRecDepth 100000 in
theorem v78_12 (n d : Nat) (L : List (Option mL)) (S : List mV) (M : Mm) (Q : mQ) : vc (n + 1) d 78 12 L S M Q = (pI S fun y S => pI S fun x S => vc n d 78 13 L (.inl (x + y) :: S) M Q) := nr rfl
set_option maxRecDepth 100000 in
theorem v78_13 (n d : Nat) (L : List (Option mL)) (S : List mV) (M : Mm) (Q : mQ) : vc (n + 1) d 78 13 L S M Q = (gR L 0 fun x => vc n d 78 14 L (.inr (.inr x) :: S) M Q) := nr rfl
set_option maxRecDepth 100000 in
theorem v78_14 (n d : Nat) (L : List (Option mL)) (S : List mV) (M : Mm) (Q : mQ) : vc (n + 1) d 78 14 L S M Q = (pA S fun a S => shO M a 0 (vc n d 78 17 L (.inl (M.it a 17) :: S) M Q)) := nr rfl
set_option maxRecDepth 100000 in
theorem v78_17 (n d : Nat) (L : List (Option mL)) (S : List mV) (M : Mm) (Q : mQ) : vc (n + 1) d 78 17 L S M Q = (gR L 0 fun x => vc n d 78 18 L (.inr (.inr x) :: S) M Q) := nr rfl
set_option maxRecDepth 100000 in
theorem v78_18 (n d : Nat) (L : List (Option mL)) (S : List mV) (M : Mm) (Q : mQ) : vc (n + 1) d 78 18 L S M Q = (pA S fun a S => shO M a 0 (vc n d 78 21 L (.inl (M.it a 16) :: S) M Q)) := nr rfl
set_option maxRecDepth 100000 in
theorem v78_21 (n d : Nat) (L : List (Option mL)) (S : List mV) (M : Mm) (Q : mQ) : vc (n + 1) d 78 21 L S M Q = (gR L 0 fun x => vc n d 78 22 L (.inr (.inr x) :: S) M Q) := nr rfl
set_option maxRecDepth 100000 in
theorem v78_22 (n d : Nat) (L : List (Option mL)) (S : List mV) (M : Mm) (Q : mQ) : vc (n + 1) d 78 22 L S M Q = (pA S fun a S => shO M a 0 (rrf M a 3 fun r => vc n d 78 25 L (.inr (.inr r) :: S) M Q)) := nr rfl
set_option maxRecDepth 100000 in
theorem v78_25 (n d : Nat) (L : List (Option mL)) (S : List mV) (M : Mm) (Q : mQ) : vc (n + 1) d 78 25 L S M Q = (pA S fun a S => shO M a 6 (rrf M a 0 fun r => vc n d 78 28 L (.inr (.inr r) :: S) M Q)) := nr rfl
set_option maxRecDepth 100000 in
theorem v78_28 (n d : Nat) (L : List (Option mL)) (S : List mV) (M : Mm) (Q : mQ) : vc (n + 1) d 78 28 L S M Q = (pA S fun a S => shA M a fun t k => 1005 = 1005 ∧ t = 41 ∧ 0 < d ∧ stk S ≤ 8 ∧ vc n d 78 31 L (.inr (.inr (some M.sz)) :: S) (M.cp a (t, k) k) Q) := nr rfl
set_option maxRecDepth 100000 in
theorem v78_31 (n d : Nat) (L : List (Option mL)) (S : List mV) (M : Mm) (Q : mQ) : vc (n + 1) d 78 31 L S M Q = (pA S fun a S => shA M a fun t _ => t = 41 ∧ vc n d 78 34 L (.inr (.inr (some a)) :: S) M Q) := nr rfl
set_option maxRecDepth 100000 in
theorem v78_34 (n d : Nat) (L : List (Option mL)) (S : List mV) (M : Mm) (Q : mQ) : vc (n + 1) d 78 34 L S M Q = (gR L 0 fun x => vc n d 78 35 L (.inr (.inr x) :: S) M Q) := nr rfl
set_option maxRecDepth 100000 in
theorem v78_35 (n d : Nat) (L : List (Option mL)) (S : List mV) (M : Mm) (Q : mQ) : vc (n + 1) d 78 35 L S M Q = (pA S fun a S => shO M a 0 (rrf M a 5 fun r => vc n d 78 38 L (.inr (.inr r) :: S) M Q)) := nr rfl
set_option maxRecDepth 100000 in
theorem v78_38 (n d : Nat) (L : List (Option mL)) (S : List mV) (M : Mm) (Q : mQ) : vc (n + 1) d 78 38 L S M Q = (pAs 0 S fun as S => pA S fun a S => shO M a 5 (stk S ≤ 8 ∧ XC d 79 (.inr (some a) :: as) M (fun r M => ∃ x : Option Nat, r = some (.inr (.inr x)) ∧ X d 78 41 L (.inr (.inr x) :: S) M Q))) := nr rfl
set_option maxRecDepth 100000 in
theorem v78_41 (n d : Nat) (L : List (Option mL)) (S : List mV) (M : Mm) (Q : mQ) : vc (n + 1) d 78 41 L S M Q = (pAs 5 S fun as S => pA S fun a S => stk S ≤ 8 ∧ XC d 4 (.inr (some a) :: as) M (fun r M => r = none ∧ X d 78 44 L S M Q)) := nr rfl
set_option maxRecDepth 100000 in
theorem v78_44 (n d : Nat) (L : List (Option mL)) (S : List mV) (M : Mm) (Q : mQ) : vc (n + 1) d 78 44 L S M Q = (pR S fun x S => sL L 3 (some (.inr x)) fun L => vc n d 78 45 L S M Q) := nr rfl
set_option maxRecDepth 100000 in
theorem v78_45 (n d : Nat) (L : List (Option mL)) (S : List mV) (M : Mm) (Q : mQ) : vc (n + 1) d 78 45 L S M Q = (gR L 0 fun x => vc n d 78 46 L (.inr (.inr x) :: S) M Q) := nr rfl
set_option maxRecDepth 100000 in
theorem v78_46 (n d : Nat) (L : List (Option mL)) (S : List mV) (M : Mm) (Q : mQ) : vc (n + 1) d 78 46 L S M Q = (pA S fun a S => shO M a 0 (rrf M a 1 fun r => vc n d 78 49 L (.inr (.inr r) :: S) M Q)) := nr rfl
set_option maxRecDepth 100000 in
theorem v78_49 (n d : Nat) (L : List (Option mL)) (S : List mV) (M : Mm) (Q : mQ) : vc (n + 1) d 78 49 L S M Q = (pA S fun a S => shO M a 7 (vc n d 78 52 L (.inl (M.it a 1) :: S) M Q)) := nr rfl
set_option maxRecDepth 100000 in
theorem v78_52 (n d : Nat) (L : List (Option mL)) (S : List mV) (M : Mm) (Q : mQ) : vc (n + 1) d 78 52 L S M Q = (pI S fun x S => sL L 4 (some (.inl x)) fun L => vc n d 78 54 L S M Q) := nr rfl
set_option maxRecDepth 100000 in
theorem v78_54 (n d : Nat) (L : List (Option mL)) (S : List mV) (M : Mm) (Q : mQ) : vc (n + 1) d 78 54 L S M Q = (gR L 0 fun x => vc n d 78 55 L (.inr (.inr x) :: S) M Q) := nr rfl
set_option maxRecDepth 100000 in
theorem v78_55 (n d : Nat) (L : List (Option mL)) (S : List mV) (M : Mm) (Q : mQ) : vc (n + 1) d 78 55 L S M Q = (pA S fun a S => shO M a 0 (rrf M a 1 fun r => vc n d 78 58 L (.inr (.inr r) :: S) M Q)) := nr rfl
set_option maxRecDepth 100000 in
theorem v78_58 (n d : Nat) (L : List (Option mL)) (S : List mV) (M : Mm) (Q : mQ) : vc (n + 1) d 78 58 L S M Q = (vc n d 78 61 L (.inl 128 :: S) M Q) := nr rfl
set_option maxRecDepth 100000 in
theorem v78_61 (n d : Nat) (L : List (Option mL)) (S : List mV) (M : Mm) (Q : mQ) : vc (n + 1) d 78 61 L S M Q = (gR L 3 fun x => vc n d 78 62 L (.inr (.inr x) :: S) M Q) := nr rfl
set_option maxRecDepth 100000 in
theorem v78_62 (n d : Nat) (L : List (Option mL)) (S : List mV) (M : Mm) (Q : mQ) : vc (n + 1) d 78 62 L S M Q = (pAs 0 S fun as S => pA S fun a S => shO M a 8 (stk S ≤ 8 ∧ XC d 81 (.inr (some a) :: as) M (fun r M => ∃ x : Int32, r = some (.inl x) ∧ X d 78 65 L (.inl x :: S) M Q))) := nr rfl
set_option maxRecDepth 100000 in
theorem v78_65 (n d : Nat) (L : List (Option mL)) (S : List mV) (M : Mm) (Q : mQ) : vc (n + 1) d 78 65 L S M Q = (pI S fun y S => pI S fun x S => vc n d 78 66 L (.inl (x + y) :: S) M Q) := nr rfl
set_option maxRecDepth 100000 in
theorem v78_66 (n d : Nat) (L : List (Option mL)) (S : List mV) (M : Mm) (Q : mQ) : vc (n + 1) d 78 66 L S M Q = (pAs 1 S fun as S => pA S fun a S => shO M a 7 (stk S ≤ 8 ∧ XC d 55 (.inr (some a) :: as) M (fun r M => ∃ x : Option Nat, r = some (.inr (.inr x)) ∧ X d 78 69 L (.inr (.inr x) :: S) M Q))) := nr rfl
set_option maxRecDepth 100000 in
theorem v78_69 (n d : Nat) (L : List (Option mL)) (S : List mV) (M : Mm) (Q : mQ) : vc (n + 1) d 78 69 L S M Q = (pR S fun x S => sL L 5 (some (.inr x)) fun L => vc n d 78 71 L S M Q) := nr rfl
set_option maxRecDepth 100000 in
theorem v78_71 (n d : Nat) (L : List (Option mL)) (S : List mV) (M : Mm) (Q : mQ) : vc (n + 1) d 78 71 L S M Q = (gR L 5 fun x => vc n d 78 73 L (.inr (.inr x) :: S) M Q) := nr rfl
set_option maxRecDepth 100000 in
theorem v78_73 (n d : Nat) (L : List (Option mL)) (S : List mV) (M : Mm) (Q : mQ) : vc (n + 1) d 78 73 L S M Q = (pR S fun x S => (x = none → vc n d 78 76 L S M Q) ∧ (¬ (x = none) → vc n d 78 77 L S M Q)) := nr rfl
set_option maxRecDepth 100000 in
theorem v78_76 (n d : Nat) (L : List (Option mL)) (S : List mV) (M : Mm) (Q : mQ) : vc (n + 1) d 78 76 L S M Q = (S = [] ∧ Q none M) := nr rfl
set_option maxRecDepth 100000 in
theorem v78_77 (n d : Nat) (L : List (Option mL)) (S : List mV) (M : Mm) (Q : mQ) : vc (n + 1) d 78 77 L S M Q = (gR L 5 fun x => vc n d 78 79 L (.inr (.inr x) :: S) M Q) := nr rfl
set_option maxRecDepth 100000 in
theorem v78_79 (n d : Nat) (L : List (Option mL)) (S : List mV) (M : Mm) (Q : mQ) : vc (n + 1) d 78 79 L S M Q = (gR L 3 fun x => vc n d 78 80 L (.inr (.inr x) :: S) M Q) := nr rfl
set_option maxRecDepth 100000 in
theorem v78_80 (n d : Nat) (L : List (Option mL)) (S : List mV) (M : Mm) (Q : mQ) : vc (n + 1) d 78 80 L S M Q = (pR S fun x S => pA S fun a S => shO M a 9 (vc n d 78 83 L S (M.sr a 4 x) Q)) := nr rfl
set_option maxRecDepth 100000 in
theorem v78_83 (n d : Nat) (L : List (Option mL)) (S : List mV) (M : Mm) (Q : mQ) : vc (n + 1) d 78 83 L S M Q = (gR L 5 fun x => vc n d 78 85 L (.inr (.inr x) :: S) M Q) := nr rfl
set_option maxRecDepth 100000 in
theorem v78_85 (n d : Nat) (L : List (Option mL)) (S : List mV) (M : Mm) (Q : mQ) : vc (n + 1) d 78 85 L S M Q = (gR L 0 fun x => vc n d 78 86 L (.inr (.inr x) :: S) M Q) := nr rfl
set_option maxRecDepth 100000 in
theorem v78_86 (n d : Nat) (L : List (Option mL)) (S : List mV) (M : Mm) (Q : mQ) : vc (n + 1) d 78 86 L S M Q = (pA S fun a S => shO M a 0 (rrf M a 1 fun r => vc n d 78 89 L (.inr (.inr r) :: S) M Q)) := nr rfl
set_option maxRecDepth 100000 in
theorem v78_89 (n d : Nat) (L : List (Option mL)) (S : List mV) (M : Mm) (Q : mQ) : vc (n + 1) d 78 89 L S M Q = (gR L 0 fun x => vc n d 78 90 L (.inr (.inr x) :: S) M Q) := nr rfl
set_option maxRecDepth 100000 in
theorem v78_90 (n d : Nat) (L : List (Option mL)) (S : List mV) (M : Mm) (Q : mQ) : vc (n + 1) d 78 90 L S M Q = (pA S fun a S => shO M a 0 (vc n d 78 93 L (.inl (M.it a 15) :: S) M Q)) := nr rfl
set_option maxRecDepth 100000 in
theorem v78_93 (n d : Nat) (L : List (Option mL)) (S : List mV) (M : Mm) (Q : mQ) : vc (n + 1) d 78 93 L S M Q = (pAs 1 S fun as S => pA S fun a S => shO M a 7 (stk S ≤ 8 ∧ XC d 54 (.inr (some a) :: as) M (fun r M => ∃ x : Option Nat, r = some (.inr (.inr x)) ∧ X d 78 96 L (.inr (.inr x) :: S) M Q))) := nr rfl
set_option maxRecDepth 100000 in
theorem v78_96 (n d : Nat) (L : List (Option mL)) (S : List mV) (M : Mm) (Q : mQ) : vc (n + 1) d 78 96 L S M Q = (pAs 1 S fun as S => pA S fun a S => shO M a 9 (stk S ≤ 8 ∧ XC d 58 (.inr (some a) :: as) M (fun r M => r = none ∧ X d 78 99 L S M Q))) := nr rfl
set_option maxRecDepth 100000 in
theorem v78_99 (n d : Nat) (L : List (Option mL)) (S : List mV) (M : Mm) (Q : mQ) : vc (n + 1) d 78 99 L S M Q = (vc n d 78 100 L (.inl 0 :: S) M Q) := nr rfl
set_option maxRecDepth 100000 in
theorem v78_100 (n d : Nat) (L : List (Option mL)) (S : List mV) (M : Mm) (Q : mQ) : vc (n + 1) d 78 100 L S M Q = (pI S fun x S => sL L 6 (some (.inl x)) fun L => X d 78 102 L S M Q) := nr rfl
set_option maxRecDepth 100000 in
theorem v78_102 (n d : Nat) (L : List (Option mL)) (S : List mV) (M : Mm) (Q : mQ) : vc (n + 1) d 78 102 L S M Q = (gI L 6 fun x => vc n d 78 104 L (.inl x :: S) M Q) := nr rfl
set_option maxRecDepth 100000 in
theorem v78_104 (n d : Nat) (L : List (Option mL)) (S : List mV) (M : Mm) (Q : mQ) : vc (n + 1) d 78 104 L S M Q = (gI L 4 fun x => vc n d 78 106 L (.inl x :: S) M Q) := nr rfl
set_option maxRecDepth 100000 in
theorem v78_106 (n d : Nat) (L : List (Option mL)) (S : List mV) (M : Mm) (Q : mQ) : vc (n + 1) d 78 106 L S M Q = (pI S fun y S => pI S fun x S => (y ≤ x → vc n d 78 156 L S M Q) ∧ (¬ (y ≤ x) → vc n d 78 109 L S M Q)) := nr rfl
set_option maxRecDepth 100000 in
theorem v78_109 (n d : Nat) (L : List (Option mL)) (S : List mV) (M : Mm) (Q : mQ) : vc (n + 1) d 78 109 L S M Q = (gR L 0 fun x => vc n d 78 110 L (.inr (.inr x) :: S) M Q) := nr rfl
set_option maxRecDepth 100000 in
theorem v78_110 (n d : Nat) (L : List (Option mL)) (S : List mV) (M : Mm) (Q : mQ) : vc (n + 1) d 78 110 L S M Q = (pA S fun a S => shO M a 0 (rrf M a 1 fun r => vc n d 78 113 L (.inr (.inr r) :: S) M Q)) := nr rfl
set_option maxRecDepth 100000 in
theorem v78_113 (n d : Nat) (L : List (Option mL)) (S : List mV) (M : Mm) (Q : mQ) : vc (n + 1) d 78 113 L S M Q = (gI L 6 fun x => vc n d 78 115 L (.inl x :: S) M Q) := nr rfl
set_option maxRecDepth 100000 in
theorem v78_115 (n d : Nat) (L : List (Option mL)) (S : List mV) (M : Mm) (Q : mQ) : vc (n + 1) d 78 115 L S M Q = (pAs 1 S fun as S => pA S fun a S => shO M a 7 (stk S ≤ 8 ∧ XC d 74 (.inr (some a) :: as) M (fun r M => ∃ x : Option Nat, r = some (.inr (.inr x)) ∧ X d 78 118 L (.inr (.inr x) :: S) M Q))) := nr rfl
set_option maxRecDepth 100000 in
theorem v78_118 (n d : Nat) (L : List (Option mL)) (S : List mV) (M : Mm) (Q : mQ) : vc (n + 1) d 78 118 L S M Q = (pR S fun x S => sL L 7 (some (.inr x)) fun L => vc n d 78 120 L S M Q) := nr rfl
set_option maxRecDepth 100000 in
theorem v78_120 (n d : Nat) (L : List (Option mL)) (S : List mV) (M : Mm) (Q : mQ) : vc (n + 1) d 78 120 L S M Q = (gR L 7 fun x => vc n d 78 122 L (.inr (.inr x) :: S) M Q) := nr rfl
set_option maxRecDepth 100000 in
theorem v78_122 (n d : Nat) (L : List (Option mL)) (S : List mV) (M : Mm) (Q : mQ) : vc (n + 1) d 78 122 L S M Q = (pR S fun x S => (x = none → X d 78 150 L S M Q) ∧ (¬ (x = none) → vc n d 78 125 L S M Q)) := nr rfl
set_option maxRecDepth 100000 in
theorem v78_125 (n d : Nat) (L : List (Option mL)) (S : List mV) (M : Mm) (Q : mQ) : vc (n + 1) d 78 125 L S M Q = (gI L 6 fun x => vc n d 78 127 L (.inl x :: S) M Q) := nr rfl
set_option maxRecDepth 100000 in
theorem v78_127 (n d : Nat) (L : List (Option mL)) (S : List mV) (M : Mm) (Q : mQ) : vc (n + 1) d 78 127 L S M Q = (gI L 4 fun x => vc n d 78 129 L (.inl x :: S) M Q) := nr rfl
set_option maxRecDepth 100000 in
theorem v78_129 (n d : Nat) (L : List (Option mL)) (S : List mV) (M : Mm) (Q : mQ) : vc (n + 1) d 78 129 L S M Q = (gI L 1 fun x => vc n d 78 130 L (.inl x :: S) M Q) := nr rfl
set_option maxRecDepth 100000 in
theorem v78_130 (n d : Nat) (L : List (Option mL)) (S : List mV) (M : Mm) (Q : mQ) : vc (n + 1) d 78 130 L S M Q = (pI S fun y S => pI S fun x S => vc n d 78 131 L (.inl (x - y) :: S) M Q) := nr rfl
set_option maxRecDepth 100000 in
theorem v78_131 (n d : Nat) (L : List (Option mL)) (S : List mV) (M : Mm) (Q : mQ) : vc (n + 1) d 78 131 L S M Q = (pI S fun y S => pI S fun x S => (y ≤ x → X d 78 143 L S M Q) ∧ (¬ (y ≤ x) → vc n d 78 134 L S M Q)) := nr rfl
set_option maxRecDepth 100000 in
theorem v78_134 (n d : Nat) (L : List (Option mL)) (S : List mV) (M : Mm) (Q : mQ) : vc (n + 1) d 78 134 L S M Q = (gR L 7 fun x => vc n d 78 136 L (.inr (.inr x) :: S) M Q) := nr rfl
set_option maxRecDepth 100000 in
theorem v78_136 (n d : Nat) (L : List (Option mL)) (S : List mV) (M : Mm) (Q : mQ) : vc (n + 1) d 78 136 L S M Q = (gI L 2 fun x => vc n d 78 137 L (.inl x :: S) M Q) := nr rfl
set_option maxRecDepth 100000 in
theorem v78_137 (n d : Nat) (L : List (Option mL)) (S : List mV) (M : Mm) (Q : mQ) : vc (n + 1) d 78 137 L S M Q = (pAs 1 S fun as S => pA S fun a S => shO M a 9 (stk S ≤ 8 ∧ XC d 82 (.inr (some a) :: as) M (fun r M => ∃ x : Int32, r = some (.inl x) ∧ X d 78 140 L (.inl x :: S) M Q))) := nr rfl
set_option maxRecDepth 100000 in
theorem v78_140 (n d : Nat) (L : List (Option mL)) (S : List mV) (M : Mm) (Q : mQ) : vc (n + 1) d 78 140 L S M Q = (pI S fun x S => (x = 0 → X d 78 150 L S M Q) ∧ (¬ (x = 0) → X d 78 143 L S M Q)) := nr rfl
set_option maxRecDepth 100000 in
theorem v78_143 (n d : Nat) (L : List (Option mL)) (S : List mV) (M : Mm) (Q : mQ) : vc (n + 1) d 78 143 L S M Q = (gR L 5 fun x => vc n d 78 145 L (.inr (.inr x) :: S) M Q) := nr rfl
set_option maxRecDepth 100000 in
theorem v78_145 (n d : Nat) (L : List (Option mL)) (S : List mV) (M : Mm) (Q : mQ) : vc (n + 1) d 78 145 L S M Q = (gR L 7 fun x => vc n d 78 147 L (.inr (.inr x) :: S) M Q) := nr rfl
set_option maxRecDepth 100000 in
theorem v78_147 (n d : Nat) (L : List (Option mL)) (S : List mV) (M : Mm) (Q : mQ) : vc (n + 1) d 78 147 L S M Q = (pAs 1 S fun as S => pA S fun a S => shO M a 9 (stk S ≤ 8 ∧ XC d 58 (.inr (some a) :: as) M (fun r M => r = none ∧ X d 78 150 L S M Q))) := nr rfl
set_option maxRecDepth 100000 in
theorem v78_150 (n d : Nat) (L : List (Option mL)) (S : List mV) (M : Mm) (Q : mQ) : vc (n + 1) d 78 150 L S M Q = (gI L 6 fun x => sL L 6 (some (.inl (x + 1))) fun L => vc n d 78 153 L S M Q) := nr rfl
set_option maxRecDepth 100000 in
theorem v78_153 (n d : Nat) (L : List (Option mL)) (S : List mV) (M : Mm) (Q : mQ) : vc (n + 1) d 78 153 L S M Q = (X d 78 102 L S M Q) := nr rfl
set_option maxRecDepth 100000 in
theorem v78_156 (n d : Nat) (L : List (Option mL)) (S : List mV) (M : Mm) (Q : mQ) : vc (n + 1) d 78 156 L S M Q = (gR L 0 fun x => vc n d 78 157 L (.inr (.inr x) :: S) M Q) := nr rfl
set_option maxRecDepth 100000 in
theorem v78_157 (n d : Nat) (L : List (Option mL)) (S : List mV) (M : Mm) (Q : mQ) : vc (n + 1) d 78 157 L S M Q = (gR L 3 fun x => vc n d 78 158 L (.inr (.inr x) :: S) M Q) := nr rfl
set_option maxRecDepth 100000 in
theorem v78_158 (n d : Nat) (L : List (Option mL)) (S : List mV) (M : Mm) (Q : mQ) : vc (n + 1) d 78 158 L S M Q = (pR S fun x S => pA S fun a S => shO M a 0 (vc n d 78 161 L S (M.sr a 14 x) Q)) := nr rfl
set_option maxRecDepth 100000 in
theorem v78_161 (n d : Nat) (L : List (Option mL)) (S : List mV) (M : Mm) (Q : mQ) : vc (n + 1) d 78 161 L S M Q = (gR L 0 fun x => vc n d 78 162 L (.inr (.inr x) :: S) M Q) := nr rfl
set_option maxRecDepth 100000 in
theorem v78_162 (n d : Nat) (L : List (Option mL)) (S : List mV) (M : Mm) (Q : mQ) : vc (n + 1) d 78 162 L S M Q = (gR L 5 fun x => vc n d 78 164 L (.inr (.inr x) :: S) M Q) := nr rfl
set_option maxRecDepth 100000 in
theorem v78_164 (n d : Nat) (L : List (Option mL)) (S : List mV) (M : Mm) (Q : mQ) : vc (n + 1) d 78 164 L S M Q = (pA S fun a S => shO M a 9 (vc n d 78 167 L (.inl (M.it a 2) :: S) M Q)) := nr rfl
set_option maxRecDepth 100000 in
theorem v78_167 (n d : Nat) (L : List (Option mL)) (S : List mV) (M : Mm) (Q : mQ) : vc (n + 1) d 78 167 L S M Q = (pI S fun x S => pA S fun a S => shO M a 0 (vc n d 78 170 L S (M.si a 15 x) Q)) := nr rfl
set_option maxRecDepth 100000 in
theorem v78_170 (n d : Nat) (L : List (Option mL)) (S : List mV) (M : Mm) (Q : mQ) : vc (n + 1) d 78 170 L S M Q = (S = [] ∧ Q none M) := nr rfl
set_option maxRecDepth 100000 in
theorem v79_0 (n d : Nat) (L : List (Option mL)) (S : List mV) (M : Mm) (Q : mQ) : vc (n + 1) d 79 0 L S M Q = (gR L 0 fun x => vc n d 79 1 L (.inr (.inr x) :: S) M Q) := nr rfl
set_option maxRecDepth 100000 in
theorem v79_1 (n d : Nat) (L : List (Option mL)) (S : List mV) (M : Mm) (Q : mQ) : vc (n + 1) d 79 1 L S M Q = (pA S fun a S => shO M a 5 (vc n d 79 4 L (.inl (M.it a 2) :: S) M Q)) := nr rfl
set_option maxRecDepth 100000 in
theorem v79_4 (n d : Nat) (L : List (Option mL)) (S : List mV) (M : Mm) (Q : mQ) : vc (n + 1) d 79 4 L S M Q = (vc n d 79 5 L (.inl 3 :: S) M Q) := nr rfl
set_option maxRecDepth 100000 in
theorem v79_5 (n d : Nat) (L : List (Option mL)) (S : List mV) (M : Mm) (Q : mQ) : vc (n + 1) d 79 5 L S M Q = (pI S fun y S => pI S fun x S => 0 < d ∧ stk S ≤ 8 ∧ vc n d 79 8 L (.inl (imin x y) :: S) M Q) := nr rfl
set_option maxRecDepth 100000 in
theorem v79_8 (n d : Nat) (L : List (Option mL)) (S : List mV) (M : Mm) (Q : mQ) : vc (n + 1) d 79 8 L S M Q = (pI S fun k S => 0 ≤ k.toInt ∧ k.toInt ≤ 100000 ∧ vc n d 79 10 L (.inr (.inr (some M.sz)) :: S) (M.nw (41, k.toNatClampNeg) k.toNatClampNeg) Q) := nr rfl
set_option maxRecDepth 100000 in
theorem v79_10 (n d : Nat) (L : List (Option mL)) (S : List mV) (M : Mm) (Q : mQ) : vc (n + 1) d 79 10 L S M Q = (pR S fun x S => sL L 1 (some (.inr x)) fun L => vc n d 79 11 L S M Q) := nr rfl
set_option maxRecDepth 100000 in
theorem v79_11 (n d : Nat) (L : List (Option mL)) (S : List mV) (M : Mm) (Q : mQ) : vc (n + 1) d 79 11 L S M Q = (vc n d 79 12 L (.inl 0 :: S) M Q) := nr rfl
set_option maxRecDepth 100000 in
theorem v79_12 (n d : Nat) (L : List (Option mL)) (S : List mV) (M : Mm) (Q : mQ) : vc (n + 1) d 79 12 L S M Q = (pI S fun x S => sL L 2 (some (.inl x)) fun L => X d 79 13 L S M Q) := nr rfl
set_option maxRecDepth 100000 in
theorem v79_13 (n d : Nat) (L : List (Option mL)) (S : List mV) (M : Mm) (Q : mQ) : vc (n + 1) d 79 13 L S M Q = (gI L 2 fun x => vc n d 79 14 L (.inl x :: S) M Q) := nr rfl
set_option maxRecDepth 100000 in
theorem v79_14 (n d : Nat) (L : List (Option mL)) (S : List mV) (M : Mm) (Q : mQ) : vc (n + 1) d 79 14 L S M Q = (gR L 1 fun x => vc n d 79 15 L (.inr (.inr x) :: S) M Q) := nr rfl
set_option maxRecDepth 100000 in
theorem v79_15 (n d : Nat) (L : List (Option mL)) (S : List mV) (M : Mm) (Q : mQ) : vc (n + 1) d 79 15 L S M Q = (pA S fun a S => shA M a fun t k => aTyB t = true ∧ vc n d 79 16 L (.inl (nI k) :: S) M Q) := nr rfl
set_option maxRecDepth 100000 in
theorem v79_16 (n d : Nat) (L : List (Option mL)) (S : List mV) (M : Mm) (Q : mQ) : vc (n + 1) d 79 16 L S M Q = (pI S fun y S => pI S fun x S => (y ≤ x → vc n d 79 33 L S M Q) ∧ (¬ (y ≤ x) → vc n d 79 19 L S M Q)) := nr rfl
set_option maxRecDepth 100000 in
theorem v79_19 (n d : Nat) (L : List (Option mL)) (S : List mV) (M : Mm) (Q : mQ) : vc (n + 1) d 79 19 L S M Q = (gR L 1 fun x => vc n d 79 20 L (.inr (.inr x) :: S) M Q) := nr rfl
set_option maxRecDepth 100000 in
theorem v79_20 (n d : Nat) (L : List (Option mL)) (S : List mV) (M : Mm) (Q : mQ) : vc (n + 1) d 79 20 L S M Q = (gI L 2 fun x => vc n d 79 21 L (.inl x :: S) M Q) := nr rfl
set_option maxRecDepth 100000 in
theorem v79_21 (n d : Nat) (L : List (Option mL)) (S : List mV) (M : Mm) (Q : mQ) : vc (n + 1) d 79 21 L S M Q = (gR L 0 fun x => vc n d 79 22 L (.inr (.inr x) :: S) M Q) := nr rfl
set_option maxRecDepth 100000 in
theorem v79_22 (n d : Nat) (L : List (Option mL)) (S : List mV) (M : Mm) (Q : mQ) : vc (n + 1) d 79 22 L S M Q = (gI L 2 fun x => vc n d 79 23 L (.inl x :: S) M Q) := nr rfl
set_option maxRecDepth 100000 in
theorem v79_23 (n d : Nat) (L : List (Option mL)) (S : List mV) (M : Mm) (Q : mQ) : vc (n + 1) d 79 23 L S M Q = (pAs 1 S fun as S => pA S fun a S => shO M a 5 (stk S ≤ 8 ∧ XC d 80 (.inr (some a) :: as) M (fun r M => ∃ x : Int32, r = some (.inl x) ∧ X d 79 26 L (.inl x :: S) M Q))) := nr rfl
set_option maxRecDepth 100000 in
theorem v79_26 (n d : Nat) (L : List (Option mL)) (S : List mV) (M : Mm) (Q : mQ) : vc (n + 1) d 79 26 L S M Q = (pI S fun x S => pI S fun i S => pA S fun a S => shA M a fun t k => t = 41 ∧ inB i k ∧ vc n d 79 27 L S (M.si a i.toNatClampNeg x) Q) := nr rfl
set_option maxRecDepth 100000 in
theorem v79_27 (n d : Nat) (L : List (Option mL)) (S : List mV) (M : Mm) (Q : mQ) : vc (n + 1) d 79 27 L S M Q = (gI L 2 fun x => sL L 2 (some (.inl (x + 1))) fun L => vc n d 79 30 L S M Q) := nr rfl
set_option maxRecDepth 100000 in
theorem v79_30 (n d : Nat) (L : List (Option mL)) (S : List mV) (M : Mm) (Q : mQ) : vc (n + 1) d 79 30 L S M Q = (X d 79 13 L S M Q) := nr rfl
set_option maxRecDepth 100000 in
theorem v79_33 (n d : Nat) (L : List (Option mL)) (S : List mV) (M : Mm) (Q : mQ) : vc (n + 1) d 79 33 L S M Q = (gR L 1 fun x => vc n d 79 34 L (.inr (.inr x) :: S) M Q) := nr rfl
set_option maxRecDepth 100000 in
theorem v79_34 (n d : Nat) (L : List (Option mL)) (S : List mV) (M : Mm) (Q : mQ) : vc (n + 1) d 79 34 L S M Q = (pR S fun r S => S = [] ∧ Q (some (.inr (.inr r))) M) := nr rfl
set_option maxRecDepth 100000 in
theorem v80_0 (n d : Nat) (L : List (Option mL)) (S : List mV) (M : Mm) (Q : mQ) : vc (n + 1) d 80 0 L S M Q = (gI L 1 fun x => vc n d 80 1 L (.inl x :: S) M Q) := nr rfl
set_option maxRecDepth 100000 in
theorem v80_1 (n d : Nat) (L : List (Option mL)) (S : List mV) (M : Mm) (Q : mQ) : vc (n + 1) d 80 1 L S M Q = (pI S fun x S => (x < 0 → vc n d 80 29 L S M Q) ∧ (¬ (x < 0) → vc n d 80 4 L S M Q)) := nr rfl
set_option maxRecDepth 100000 in
theorem v80_4 (n d : Nat) (L : List (Option mL)) (S : List mV) (M : Mm) (Q : mQ) : vc (n + 1) d 80 4 L S M Q = (gI L 1 fun x => vc n d 80 5 L (.inl x :: S) M Q) := nr rfl
set_option maxRecDepth 100000 in
theorem v80_5 (n d : Nat) (L : List (Option mL)) (S : List mV) (M : Mm) (Q : mQ) : vc (n + 1) d 80 5 L S M Q = (gR L 0 fun x => vc n d 80 6 L (.inr (.inr x) :: S) M Q) := nr rfl
set_option maxRecDepth 100000 in
theorem v80_6 (n d : Nat) (L : List (Option mL)) (S : List mV) (M : Mm) (Q : mQ) : vc (n + 1) d 80 6 L S M Q = (pA S fun a S => shO M a 5 (vc n d 80 9 L (.inl (M.it a 2) :: S) M Q)) := nr rfl
set_option maxRecDepth 100000 in
theorem v80_9 (n d : Nat) (L : List (Option mL)) (S : List mV) (M : Mm) (Q : mQ) : vc (n + 1) d 80 9 L S M Q = (pI S fun y S => pI S fun x S => (y ≤ x → vc n d 80 29 L S M Q) ∧ (¬ (y ≤ x) → vc n d 80 12 L S M Q)) := nr rfl
set_option maxRecDepth 100000 in
theorem v80_12 (n d : Nat) (L : List (Option mL)) (S : List mV) (M : Mm) (Q : mQ) : vc (n + 1) d 80 12 L S M Q = (gI L 1 fun x => vc n d 80 13 L (.inl x :: S) M Q) := nr rfl
set_option maxRecDepth 100000 in
theorem v80_13 (n d : Nat) (L : List (Option mL)) (S : List mV) (M : Mm) (Q : mQ) : vc (n + 1) d 80 13 L S M Q = (vc n d 80 14 L (.inl 3 :: S) M Q) := nr rfl
set_option maxRecDepth 100000 in
theorem v80_14 (n d : Nat) (L : List (Option mL)) (S : List mV) (M : Mm) (Q : mQ) : vc (n + 1) d 80 14 L S M Q = (pI S fun y S => pI S fun x S => (y ≤ x → vc n d 80 29 L S M Q) ∧ (¬ (y ≤ x) → vc n d 80 17 L S M Q)) := nr rfl
set_option maxRecDepth 100000 in
theorem v80_17 (n d : Nat) (L : List (Option mL)) (S : List mV) (M : Mm) (Q : mQ) : vc (n + 1) d 80 17 L S M Q = (gR L 0 fun x => vc n d 80 18 L (.inr (.inr x) :: S) M Q) := nr rfl
set_option maxRecDepth 100000 in
theorem v80_18 (n d : Nat) (L : List (Option mL)) (S : List mV) (M : Mm) (Q : mQ) : vc (n + 1) d 80 18 L S M Q = (pA S fun a S => shO M a 5 (rrf M a 1 fun r => vc n d 80 21 L (.inr (.inr r) :: S) M Q)) := nr rfl
set_option maxRecDepth 100000 in
theorem v80_21 (n d : Nat) (L : List (Option mL)) (S : List mV) (M : Mm) (Q : mQ) : vc (n + 1) d 80 21 L S M Q = (gI L 1 fun x => vc n d 80 22 L (.inl x :: S) M Q) := nr rfl
set_option maxRecDepth 100000 in
theorem v80_22 (n d : Nat) (L : List (Option mL)) (S : List mV) (M : Mm) (Q : mQ) : vc (n + 1) d 80 22 L S M Q = (pI S fun i S => pA S fun a S => shA M a fun t k => rTyB t = true ∧ inB i k ∧ rrf M a i.toNatClampNeg fun r => vc n d 80 23 L (.inr (.inr r) :: S) M Q) := nr rfl
set_option maxRecDepth 100000 in
theorem v80_23 (n d : Nat) (L : List (Option mL)) (S : List mV) (M : Mm) (Q : mQ) : vc (n + 1) d 80 23 L S M Q = (pA S fun a S => shO M a 4 (vc n d 80 26 L (.inl (M.it a 2) :: S) M Q)) := nr rfl
set_option maxRecDepth 100000 in
theorem v80_26 (n d : Nat) (L : List (Option mL)) (S : List mV) (M : Mm) (Q : mQ) : vc (n + 1) d 80 26 L S M Q = (vc n d 80 30 L S M Q) := nr rfl
set_option maxRecDepth 100000 in
theorem v80_29 (n d : Nat) (L : List (Option mL)) (S : List mV) (M : Mm) (Q : mQ) : vc (n + 1) d 80 29 L S M Q = (vc n d 80 30 L (.inl (-1) :: S) M Q) := nr rfl
set_option maxRecDepth 100000 in
theorem v80_30 (n d : Nat) (L : List (Option mL)) (S : List mV) (M : Mm) (Q : mQ) : vc (n + 1) d 80 30 L S M Q = (pI S fun x S => S = [] ∧ (0 = 0 ∨ x = 0 ∨ x = 1) ∧ Q (some (.inl x)) M) := nr rfl
set_option maxRecDepth 100000 in
theorem v81_0 (n d : Nat) (L : List (Option mL)) (S : List mV) (M : Mm) (Q : mQ) : vc (n + 1) d 81 0 L S M Q = (gR L 0 fun x => vc n d 81 1 L (.inr (.inr x) :: S) M Q) := nr rfl
set_option maxRecDepth 100000 in
theorem v81_1 (n d : Nat) (L : List (Option mL)) (S : List mV) (M : Mm) (Q : mQ) : vc (n + 1) d 81 1 L S M Q = (pA S fun a S => shO M a 8 (vc n d 81 4 L (.inl (M.it a 0) :: S) M Q)) := nr rfl
set_option maxRecDepth 100000 in
theorem v81_4 (n d : Nat) (L : List (Option mL)) (S : List mV) (M : Mm) (Q : mQ) : vc (n + 1) d 81 4 L S M Q = (vc n d 81 5 L (.inl 1 :: S) M Q) := nr rfl
set_option maxRecDepth 100000 in
theorem v81_5 (n d : Nat) (L : List (Option mL)) (S : List mV) (M : Mm) (Q : mQ) : vc (n + 1) d 81 5 L S M Q = (pI S fun y S => pI S fun x S => vc n d 81 6 L (.inl (x &&& y) :: S) M Q) := nr rfl
set_option maxRecDepth 100000 in
theorem v81_6 (n d : Nat) (L : List (Option mL)) (S : List mV) (M : Mm) (Q : mQ) : vc (n + 1) d 81 6 L S M Q = (pI S fun x S => S = [] ∧ (0 = 0 ∨ x = 0 ∨ x = 1) ∧ Q (some (.inl x)) M) := nr rfl
set_option maxRecDepth 100000 in
theorem v82_0 (n d : Nat) (L : List (Option mL)) (S : List mV) (M : Mm) (Q : mQ) : vc (n + 1) d 82 0 L S M Q = (gR L 0 fun x => vc n d 82 1 L (.inr (.inr x) :: S) M Q) := nr rfl
set_option maxRecDepth 100000 in
theorem v82_1 (n d : Nat) (L : List (Option mL)) (S : List mV) (M : Mm) (Q : mQ) : vc (n + 1) d 82 1 L S M Q = (pAs 0 S fun as S => pA S fun a S => shO M a 9 (stk S ≤ 8 ∧ XC d 75 (.inr (some a) :: as) M (fun r M => ∃ x : Int32, r = some (.inl x) ∧ X d 82 4 L (.inl x :: S) M Q))) := nr rfl
set_option maxRecDepth 100000 in
theorem v82_4 (n d : Nat) (L : List (Option mL)) (S : List mV) (M : Mm) (Q : mQ) : vc (n + 1) d 82 4 L S M Q = (pI S fun x S => (x = 0 → vc n d 82 22 L S M Q) ∧ (¬ (x = 0) → vc n d 82 7 L S M Q)) := nr rfl
set_option maxRecDepth 100000 in
theorem v82_7 (n d : Nat) (L : List (Option mL)) (S : List mV) (M : Mm) (Q : mQ) : vc (n + 1) d 82 7 L S M Q = (gR L 0 fun x => vc n d 82 8 L (.inr (.inr x) :: S) M Q) := nr rfl
set_option maxRecDepth 100000 in
theorem v82_8 (n d : Nat) (L : List (Option mL)) (S : List mV) (M : Mm) (Q : mQ) : vc (n + 1) d 82 8 L S M Q = (pA S fun a S => shO M a 9 (vc n d 82 11 L (.inl (M.it a 3) :: S) M Q)) := nr rfl
set_option maxRecDepth 100000 in
theorem v82_11 (n d : Nat) (L : List (Option mL)) (S : List mV) (M : Mm) (Q : mQ) : vc (n + 1) d 82 11 L S M Q = (vc n d 82 13 L (.inl 16 :: S) M Q) := nr rfl
set_option maxRecDepth 100000 in
theorem v82_13 (n d : Nat) (L : List (Option mL)) (S : List mV) (M : Mm) (Q : mQ) : vc (n + 1) d 82 13 L S M Q = (pI S fun y S => pI S fun x S => ¬ y = 0 ∧ vc n d 82 14 L (.inl (x / y) :: S) M Q) := nr rfl
set_option maxRecDepth 100000 in
theorem v82_14 (n d : Nat) (L : List (Option mL)) (S : List mV) (M : Mm) (Q : mQ) : vc (n + 1) d 82 14 L S M Q = (gI L 1 fun x => vc n d 82 15 L (.inl x :: S) M Q) := nr rfl
set_option maxRecDepth 100000 in
theorem v82_15 (n d : Nat) (L : List (Option mL)) (S : List mV) (M : Mm) (Q : mQ) : vc (n + 1) d 82 15 L S M Q = (pI S fun y S => pI S fun x S => (¬ x = y → vc n d 82 22 L S M Q) ∧ (¬ (¬ x = y) → vc n d 82 18 L S M Q)) := nr rfl
set_option maxRecDepth 100000 in
theorem v82_18 (n d : Nat) (L : List (Option mL)) (S : List mV) (M : Mm) (Q : mQ) : vc (n + 1) d 82 18 L S M Q = (vc n d 82 19 L (.inl 1 :: S) M Q) := nr rfl
set_option maxRecDepth 100000 in
theorem v82_19 (n d : Nat) (L : List (Option mL)) (S : List mV) (M : Mm) (Q : mQ) : vc (n + 1) d 82 19 L S M Q = (vc n d 82 23 L S M Q) := nr rfl
set_option maxRecDepth 100000 in
theorem v82_22 (n d : Nat) (L : List (Option mL)) (S : List mV) (M : Mm) (Q : mQ) : vc (n + 1) d 82 22 L S M Q = (vc n d 82 23 L (.inl 0 :: S) M Q) := nr rfl
set_option maxRecDepth 100000 in
theorem v82_23 (n d : Nat) (L : List (Option mL)) (S : List mV) (M : Mm) (Q : mQ) : vc (n + 1) d 82 23 L S M Q = (pI S fun x S => S = [] ∧ (1 = 0 ∨ x = 0 ∨ x = 1) ∧ Q (some (.inl x)) M) := nr rfl
set_option maxRecDepth 100000 in
theorem v83_0 (n d : Nat) (L : List (Option mL)) (S : List mV) (M : Mm) (Q : mQ) : vc (n + 1) d 83 0 L S M Q = (gR L 0 fun x => vc n d 83 1 L (.inr (.inr x) :: S) M Q) := nr rfl
set_option maxRecDepth 100000 in
theorem v83_1 (n d : Nat) (L : List (Option mL)) (S : List mV) (M : Mm) (Q : mQ) : vc (n + 1) d 83 1 L S M Q = (pA S fun a S => shO M a 0 (vc n d 83 4 L (.inl (M.it a 18) :: S) M Q)) := nr rfl
set_option maxRecDepth 100000 in
theorem v83_4 (n d : Nat) (L : List (Option mL)) (S : List mV) (M : Mm) (Q : mQ) : vc (n + 1) d 83 4 L S M Q = (pI S fun x S => (¬ x = 0 → vc n d 83 36 L S M Q) ∧ (¬ (¬ x = 0) → vc n d 83 7 L S M Q)) := nr rfl
set_option maxRecDepth 100000 in
theorem v83_7 (n d : Nat) (L : List (Option mL)) (S : List mV) (M : Mm) (Q : mQ) : vc (n + 1) d 83 7 L S M Q = (gI L 1 fun x => vc n d 83 8 L (.inl x :: S) M Q) := nr rfl
set_option maxRecDepth 100000 in
theorem v83_8 (n d : Nat) (L : List (Option mL)) (S : List mV) (M : Mm) (Q : mQ) : vc (n + 1) d 83 8 L S M Q = (pAs 1 S fun as S => stk S ≤ 8 ∧ XC d 40 as M (fun r M => ∃ x : Int32, r = some (.inl x) ∧ X d 83 11 L (.inl x :: S) M Q)) := nr rfl
set_option maxRecDepth 100000 in
theorem v83_11 (n d : Nat) (L : List (Option mL)) (S : List mV) (M : Mm) (Q : mQ) : vc (n + 1) d 83 11 L S M Q = (pI S fun x S => (x = 0 → vc n d 83 36 L S M Q) ∧ (¬ (x = 0) → vc n d 83 14 L S M Q)) := nr rfl
set_option maxRecDepth 100000 in
theorem v83_14 (n d : Nat) (L : List (Option mL)) (S : List mV) (M : Mm) (Q : mQ) : vc (n + 1) d 83 14 L S M Q = (gI L 1 fun x => vc n d 83 15 L (.inl x :: S) M Q) := nr rfl
set_option maxRecDepth 100000 in
theorem v83_15 (n d : Nat) (L : List (Option mL)) (S : List mV) (M : Mm) (Q : mQ) : vc (n + 1) d 83 15 L S M Q = (gR L 0 fun x => vc n d 83 16 L (.inr (.inr x) :: S) M Q) := nr rfl
set_option maxRecDepth 100000 in
theorem v83_16 (n d : Nat) (L : List (Option mL)) (S : List mV) (M : Mm) (Q : mQ) : vc (n + 1) d 83 16 L S M Q = (pA S fun a S => shO M a 0 (rrf M a 3 fun r => vc n d 83 19 L (.inr (.inr r) :: S) M Q)) := nr rfl
set_option maxRecDepth 100000 in
theorem v83_19 (n d : Nat) (L : List (Option mL)) (S : List mV) (M : Mm) (Q : mQ) : vc (n + 1) d 83 19 L S M Q = (pA S fun a S => shO M a 6 (vc n d 83 22 L (.inl (M.it a 1) :: S) M Q)) := nr rfl
set_option maxRecDepth 100000 in
theorem v83_22 (n d : Nat) (L : List (Option mL)) (S : List mV) (M : Mm) (Q : mQ) : vc (n + 1) d 83 22 L S M Q = (pI S fun y S => pI S fun x S => (x = y → vc n d 83 36 L S M Q) ∧ (¬ (x = y) → vc n d 83 25 L S M Q)) := nr rfl
set_option maxRecDepth 100000 in
theorem v83_25 (n d : Nat) (L : List (Option mL)) (S : List mV) (M : Mm) (Q : mQ) : vc (n + 1) d 83 25 L S M Q = (gR L 0 fun x => vc n d 83 26 L (.inr (.inr x) :: S) M Q) := nr rfl
set_option maxRecDepth 100000 in
theorem v83_26 (n d : Nat) (L : List (Option mL)) (S : List mV) (M : Mm) (Q : mQ) : vc (n + 1) d 83 26 L S M Q = (pA S fun a S => shO M a 0 (rrf M a 3 fun r => vc n d 83 29 L (.inr (.inr r) :: S) M Q)) := nr rfl
set_option maxRecDepth 100000 in
theorem v83_29 (n d : Nat) (L : List (Option mL)) (S : List mV) (M : Mm) (Q : mQ) : vc (n + 1) d 83 29 L S M Q = (gI L 1 fun x => vc n d 83 30 L (.inl x :: S) M Q) := nr rfl
set_option maxRecDepth 100000 in
theorem v83_30 (n d : Nat) (L : List (Option mL)) (S : List mV) (M : Mm) (Q : mQ) : vc (n + 1) d 83 30 L S M Q = (pAs 1 S fun as S => pA S fun a S => shO M a 6 (stk S ≤ 8 ∧ XC d 49 (.inr (some a) :: as) M (fun r M => ∃ x : Int32, r = some (.inl x) ∧ X d 83 33 L (.inl x :: S) M Q))) := nr rfl
set_option maxRecDepth 100000 in
theorem v83_33 (n d : Nat) (L : List (Option mL)) (S : List mV) (M : Mm) (Q : mQ) : vc (n + 1) d 83 33 L S M Q = (pI S fun x S => (x = 0 → vc n d 83 38 L S M Q) ∧ (¬ (x = 0) → vc n d 83 36 L S M Q)) := nr rfl
set_option maxRecDepth 100000 in
theorem v83_36 (n d : Nat) (L : List (Option mL)) (S : List mV) (M : Mm) (Q : mQ) : vc (n + 1) d 83 36 L S M Q = (vc n d 83 37 L (.inl (-1) :: S) M Q) := nr rfl
set_option maxRecDepth 100000 in
theorem v83_37 (n d : Nat) (L : List (Option mL)) (S : List mV) (M : Mm) (Q : mQ) : vc (n + 1) d 83 37 L S M Q = (pI S fun x S => S = [] ∧ (0 = 0 ∨ x = 0 ∨ x = 1) ∧ Q (some (.inl x)) M) := nr rfl
set_option maxRecDepth 100000 in
theorem v83_38 (n d : Nat) (L : List (Option mL)) (S : List mV) (M : Mm) (Q : mQ) : vc (n + 1) d 83 38 L S M Q = (gR L 0 fun x => vc n d 83 39 L (.inr (.inr x) :: S) M Q) := nr rfl
set_option maxRecDepth 100000 in
theorem v83_39 (n d : Nat) (L : List (Option mL)) (S : List mV) (M : Mm) (Q : mQ) : vc (n + 1) d 83 39 L S M Q = (gI L 1 fun x => vc n d 83 40 L (.inl x :: S) M Q) := nr rfl
set_option maxRecDepth 100000 in
theorem v83_40 (n d : Nat) (L : List (Option mL)) (S : List mV) (M : Mm) (Q : mQ) : vc (n + 1) d 83 40 L S M Q = (pAs 1 S fun as S => pA S fun a S => shO M a 0 (stk S ≤ 8 ∧ XC d 84 (.inr (some a) :: as) M (fun r M => ∃ x : Int32, r = some (.inl x) ∧ X d 83 43 L (.inl x :: S) M Q))) := nr rfl
set_option maxRecDepth 100000 in
theorem v83_43 (n d : Nat) (L : List (Option mL)) (S : List mV) (M : Mm) (Q : mQ) : vc (n + 1) d 83 43 L S M Q = (pI S fun x S => sL L 2 (some (.inl x)) fun L => vc n d 83 44 L S M Q) := nr rfl
set_option maxRecDepth 100000 in
theorem v83_44 (n d : Nat) (L : List (Option mL)) (S : List mV) (M : Mm) (Q : mQ) : vc (n + 1) d 83 44 L S M Q = (vc n d 83 45 L (.inl 0 :: S) M Q) := nr rfl
set_option maxRecDepth 100000 in
theorem v83_45 (n d : Nat) (L : List (Option mL)) (S : List mV) (M : Mm) (Q : mQ) : vc (n + 1) d 83 45 L S M Q = (pI S fun x S => sL L 3 (some (.inl x)) fun L => X d 83 46 L S M Q) := nr rfl
set_option maxRecDepth 100000 in
theorem v83_46 (n d : Nat) (L : List (Option mL)) (S : List mV) (M : Mm) (Q : mQ) : vc (n + 1) d 83 46 L S M Q = (gI L 3 fun x => vc n d 83 47 L (.inl x :: S) M Q) := nr rfl
set_option maxRecDepth 100000 in
theorem v83_47 (n d : Nat) (L : List (Option mL)) (S : List mV) (M : Mm) (Q : mQ) : vc (n + 1) d 83 47 L S M Q = (gI L 2 fun x => vc n d 83 48 L (.inl x :: S) M Q) := nr rfl
set_option maxRecDepth 100000 in
theorem v83_48 (n d : Nat) (L : List (Option mL)) (S : List mV) (M : Mm) (Q : mQ) : vc (n + 1) d 83 48 L S M Q = (pI S fun y S => pI S fun x S => (y ≤ x → X d 83 80 L S M Q) ∧ (¬ (y ≤ x) → vc n d 83 51 L S M Q)) := nr rfl
set_option maxRecDepth 100000 in
theorem v83_51 (n d : Nat) (L : List (Option mL)) (S : List mV) (M : Mm) (Q : mQ) : vc (n + 1) d 83 51 L S M Q = (gI L 3 fun x => vc n d 83 52 L (.inl x :: S) M Q) := nr rfl
set_option maxRecDepth 100000 in
theorem v83_52 (n d : Nat) (L : List (Option mL)) (S : List mV) (M : Mm) (Q : mQ) : vc (n + 1) d 83 52 L S M Q = (vc n d 83 54 L (.inl 16 :: S) M Q) := nr rfl
set_option maxRecDepth 100000 in
theorem v83_54 (n d : Nat) (L : List (Option mL)) (S : List mV) (M : Mm) (Q : mQ) : vc (n + 1) d 83 54 L S M Q = (pI S fun y S => pI S fun x S => (y ≤ x → X d 83 80 L S M Q) ∧ (¬ (y ≤ x) → vc n d 83 57 L S M Q)) := nr rfl
set_option maxRecDepth 100000 in
theorem v83_57 (n d : Nat) (L : List (Option mL)) (S : List mV) (M : Mm) (Q : mQ) : vc (n + 1) d 83 57 L S M Q = (gR L 0 fun x => vc n d 83 58 L (.inr (.inr x) :: S) M Q) := nr rfl
set_option maxRecDepth 100000 in
theorem v83_58 (n d : Nat) (L : List (Option mL)) (S : List mV) (M : Mm) (Q : mQ) : vc (n + 1) d 83 58 L S M Q = (gR L 0 fun x => vc n d 83 59 L (.inr (.inr x) :: S) M Q) := nr rfl
set_option maxRecDepth 100000 in
theorem v83_59 (n d : Nat) (L : List (Option mL)) (S : List mV) (M : Mm) (Q : mQ) : vc (n + 1) d 83 59 L S M Q = (pA S fun a S => shO M a 0 (rrf M a 5 fun r => vc n d 83 62 L (.inr (.inr r) :: S) M Q)) := nr rfl
set_option maxRecDepth 100000 in
theorem v83_62 (n d : Nat) (L : List (Option mL)) (S : List mV) (M : Mm) (Q : mQ) : vc (n + 1) d 83 62 L S M Q = (gR L 0 fun x => vc n d 83 63 L (.inr (.inr x) :: S) M Q) := nr rfl
set_option maxRecDepth 100000 in
theorem v83_63 (n d : Nat) (L : List (Option mL)) (S : List mV) (M : Mm) (Q : mQ) : vc (n + 1) d 83 63 L S M Q = (pA S fun a S => shO M a 0 (rrf M a 11 fun r => vc n d 83 66 L (.inr (.inr r) :: S) M Q)) := nr rfl
set_option maxRecDepth 100000 in
theorem v83_66 (n d : Nat) (L : List (Option mL)) (S : List mV) (M : Mm) (Q : mQ) : vc (n + 1) d 83 66 L S M Q = (gI L 3 fun x => vc n d 83 67 L (.inl x :: S) M Q) := nr rfl
set_option maxRecDepth 100000 in
theorem v83_67 (n d : Nat) (L : List (Option mL)) (S : List mV) (M : Mm) (Q : mQ) : vc (n + 1) d 83 67 L S M Q = (pI S fun i S => pA S fun a S => shA M a fun t k => (t = 40 ∨ t = 41) ∧ inB i k ∧ vc n d 83 68 L (.inl (M.it a i.toNatClampNeg) :: S) M Q) := nr rfl
set_option maxRecDepth 100000 in
theorem v83_68 (n d : Nat) (L : List (Option mL)) (S : List mV) (M : Mm) (Q : mQ) : vc (n + 1) d 83 68 L S M Q = (pAs 1 S fun as S => pA S fun a S => shO M a 5 (stk S ≤ 8 ∧ XC d 60 (.inr (some a) :: as) M (fun r M => ∃ x : Int32, r = some (.inl x) ∧ X d 83 71 L (.inl x :: S) M Q))) := nr rfl
set_option maxRecDepth 100000 in
theorem v83_71 (n d : Nat) (L : List (Option mL)) (S : List mV) (M : Mm) (Q : mQ) : vc (n + 1) d 83 71 L S M Q = (pAs 1 S fun as S => pA S fun a S => shO M a 0 (stk S ≤ 8 ∧ XC d 22 (.inr (some a) :: as) M (fun r M => r = none ∧ X d 83 74 L S M Q))) := nr rfl
set_option maxRecDepth 100000 in
theorem v83_74 (n d : Nat) (L : List (Option mL)) (S : List mV) (M : Mm) (Q : mQ) : vc (n + 1) d 83 74 L S M Q = (gI L 3 fun x => sL L 3 (some (.inl (x + 1))) fun L => vc n d 83 77 L S M Q) := nr rfl
set_option maxRecDepth 100000 in
theorem v83_77 (n d : Nat) (L : List (Option mL)) (S : List mV) (M : Mm) (Q : mQ) : vc (n + 1) d 83 77 L S M Q = (X d 83 46 L S M Q) := nr rfl
set_option maxRecDepth 100000 in
theorem v83_80 (n d : Nat) (L : List (Option mL)) (S : List mV) (M : Mm) (Q : mQ) : vc (n + 1) d 83 80 L S M Q = (gI L 2 fun x => vc n d 83 81 L (.inl x :: S) M Q) := nr rfl
set_option maxRecDepth 100000 in
theorem v83_81 (n d : Nat) (L : List (Option mL)) (S : List mV) (M : Mm) (Q : mQ) : vc (n + 1) d 83 81 L S M Q = (pI S fun x S => (0 < x → X d 83 108 L S M Q) ∧ (¬ (0 < x) → vc n d 83 84 L S M Q)) := nr rfl
set_option maxRecDepth 100000 in
theorem v83_84 (n d : Nat) (L : List (Option mL)) (S : List mV) (M : Mm) (Q : mQ) : vc (n + 1) d 83 84 L S M Q = (gR L 0 fun x => vc n d 83 85 L (.inr (.inr x) :: S) M Q) := nr rfl
set_option maxRecDepth 100000 in
theorem v83_85 (n d : Nat) (L : List (Option mL)) (S : List mV) (M : Mm) (Q : mQ) : vc (n + 1) d 83 85 L S M Q = (pA S fun a S => shO M a 0 (rrf M a 5 fun r => vc n d 83 88 L (.inr (.inr r) :: S) M Q)) := nr rfl
set_option maxRecDepth 100000 in
theorem v83_88 (n d : Nat) (L : List (Option mL)) (S : List mV) (M : Mm) (Q : mQ) : vc (n + 1) d 83 88 L S M Q = (pA S fun a S => shO M a 5 (rrf M a 0 fun r => vc n d 83 91 L (.inr (.inr r) :: S) M Q)) := nr rfl
set_option maxRecDepth 100000 in
theorem v83_91 (n d : Nat) (L : List (Option mL)) (S : List mV) (M : Mm) (Q : mQ) : vc (n + 1) d 83 91 L S M Q = (pA S fun a S => shO M a 4 (vc n d 83 94 L (.inl (M.it a 1) :: S) M Q)) := nr rfl
set_option maxRecDepth 100000 in
theorem v83_94 (n d : Nat) (L : List (Option mL)) (S : List mV) (M : Mm) (Q : mQ) : vc (n + 1) d 83 94 L S M Q = (pI S fun x S => (0 < x → X d 83 108 L S M Q) ∧ (¬ (0 < x) → vc n d 83 97 L S M Q)) := nr rfl
set_option maxRecDepth 100000 in
theorem v83_97 (n d : Nat) (L : List (Option mL)) (S : List mV) (M : Mm) (Q : mQ) : vc (n + 1) d 83 97 L S M Q = (gR L 0 fun x => vc n d 83 98 L (.inr (.inr x) :: S) M Q) := nr rfl
set_option maxRecDepth 100000 in
theorem v83_98 (n d : Nat) (L : List (Option mL)) (S : List mV) (M : Mm) (Q : mQ) : vc (n + 1) d 83 98 L S M Q = (pA S fun a S => shO M a 0 (rrf M a 5 fun r => vc n d 83 101 L (.inr (.inr r) :: S) M Q)) := nr rfl
set_option maxRecDepth 100000 in
theorem v83_101 (n d : Nat) (L : List (Option mL)) (S : List mV) (M : Mm) (Q : mQ) : vc (n + 1) d 83 101 L S M Q = (gI L 1 fun x => vc n d 83 102 L (.inl x :: S) M Q) := nr rfl
set_option maxRecDepth 100000 in
theorem v83_102 (n d : Nat) (L : List (Option mL)) (S : List mV) (M : Mm) (Q : mQ) : vc (n + 1) d 83 102 L S M Q = (pAs 1 S fun as S => pA S fun a S => shO M a 5 (stk S ≤ 8 ∧ XC d 86 (.inr (some a) :: as) M (fun r M => ∃ x : Int32, r = some (.inl x) ∧ X d 83 105 L (.inl x :: S) M Q))) := nr rfl
set_option maxRecDepth 100000 in
theorem v83_105 (n d : Nat) (L : List (Option mL)) (S : List mV) (M : Mm) (Q : mQ) : vc (n + 1) d 83 105 L S M Q = (pI S fun x S => (x = 0 → vc n d 83 112 L S M Q) ∧ (¬ (x = 0) → X d 83 108 L S M Q)) := nr rfl
set_option maxRecDepth 100000 in
theorem v83_108 (n d : Nat) (L : List (Option mL)) (S : List mV) (M : Mm) (Q : mQ) : vc (n + 1) d 83 108 L S M Q = (vc n d 83 109 L (.inl 1 :: S) M Q) := nr rfl
set_option maxRecDepth 100000 in
theorem v83_109 (n d : Nat) (L : List (Option mL)) (S : List mV) (M : Mm) (Q : mQ) : vc (n + 1) d 83 109 L S M Q = (X d 83 113 L S M Q) := nr rfl
set_option maxRecDepth 100000 in
theorem v83_112 (n d : Nat) (L : List (Option mL)) (S : List mV) (M : Mm) (Q : mQ) : vc (n + 1) d 83 112 L S M Q = (X d 83 113 L (.inl 0 :: S) M Q) := nr rfl
set_option maxRecDepth 100000 in
theorem v83_113 (n d : Nat) (L : List (Option mL)) (S : List mV) (M : Mm) (Q : mQ) : vc (n + 1) d 83 113 L S M Q = (pI S fun x S => sL L 3 (some (.inl x)) fun L => vc n d 83 114 L S M Q) := nr rfl
set_option maxRecDepth 100000 in
theorem v83_114 (n d : Nat) (L : List (Option mL)) (S : List mV) (M : Mm) (Q : mQ) : vc (n + 1) d 83 114 L S M Q = (gR L 0 fun x => vc n d 83 115 L (.inr (.inr x) :: S) M Q) := nr rfl
set_option maxRecDepth 100000 in
theorem v83_115 (n d : Nat) (L : List (Option mL)) (S : List mV) (M : Mm) (Q : mQ) : vc (n + 1) d 83 115 L S M Q = (gI L 2 fun x => vc n d 83 116 L (.inl x :: S) M Q) := nr rfl
set_option maxRecDepth 100000 in
theorem v83_116 (n d : Nat) (L : List (Option mL)) (S : List mV) (M : Mm) (Q : mQ) : vc (n + 1) d 83 116 L S M Q = (gI L 3 fun x => vc n d 83 117 L (.inl x :: S) M Q) := nr rfl
set_option maxRecDepth 100000 in
theorem v83_117 (n d : Nat) (L : List (Option mL)) (S : List mV) (M : Mm) (Q : mQ) : vc (n + 1) d 83 117 L S M Q = (pAs 2 S fun as S => pA S fun a S => shO M a 0 (stk S ≤ 8 ∧ XC d 87 (.inr (some a) :: as) M (fun r M => ∃ x : Int32, r = some (.inl x) ∧ X d 83 120 L (.inl x :: S) M Q))) := nr rfl
set_option maxRecDepth 100000 in
theorem v83_120 (n d : Nat) (L : List (Option mL)) (S : List mV) (M : Mm) (Q : mQ) : vc (n + 1) d 83 120 L S M Q = (pI S fun x S => sL L 4 (some (.inl x)) fun L => vc n d 83 122 L S M Q) := nr rfl
set_option maxRecDepth 100000 in
theorem v83_122 (n d : Nat) (L : List (Option mL)) (S : List mV) (M : Mm) (Q : mQ) : vc (n + 1) d 83 122 L S M Q = (gI L 4 fun x => vc n d 83 124 L (.inl x :: S) M Q) := nr rfl
set_option maxRecDepth 100000 in
theorem v83_124 (n d : Nat) (L : List (Option mL)) (S : List mV) (M : Mm) (Q : mQ) : vc (n + 1) d 83 124 L S M Q = (vc n d 83 125 L (.inl (-1) :: S) M Q) := nr rfl
set_option maxRecDepth 100000 in
theorem v83_125 (n d : Nat) (L : List (Option mL)) (S : List mV) (M : Mm) (Q : mQ) : vc (n + 1) d 83 125 L S M Q = (pI S fun y S => pI S fun x S => (¬ x = y → vc n d 83 131 L S M Q) ∧ (¬ (¬ x = y) → vc n d 83 128 L S M Q)) := nr rfl
set_option maxRecDepth 100000 in
theorem v83_128 (n d : Nat) (L : List (Option mL)) (S : List mV) (M : Mm) (Q : mQ) : vc (n + 1) d 83 128 L S M Q = (vc n d 83 130 L (.inl (-2) :: S) M Q) := nr rfl
set_option maxRecDepth 100000 in
theorem v83_130 (n d : Nat) (L : List (Option mL)) (S : List mV) (M : Mm) (Q : mQ) : vc (n + 1) d 83 130 L S M Q = (pI S fun x S => S = [] ∧ (0 = 0 ∨ x = 0 ∨ x = 1) ∧ Q (some (.inl x)) M) := nr rfl
set_option maxRecDepth 100000 in
theorem v83_131 (n d : Nat) (L : List (Option mL)) (S : List mV) (M : Mm) (Q : mQ) : vc (n + 1) d 83 131 L S M Q = (gR L 0 fun x => vc n d 83 132 L (.inr (.inr x) :: S) M Q) := nr rfl
set_option maxRecDepth 100000 in
theorem v83_132 (n d : Nat) (L : List (Option mL)) (S : List mV) (M : Mm) (Q : mQ) : vc (n + 1) d 83 132 L S M Q = (pA S fun a S => shO M a 0 (rrf M a 1 fun r => vc n d 83 135 L (.inr (.inr r) :: S) M Q)) := nr rfl
set_option maxRecDepth 100000 in
theorem v83_135 (n d : Nat) (L : List (Option mL)) (S : List mV) (M : Mm) (Q : mQ) : vc (n + 1) d 83 135 L S M Q = (gI L 4 fun x => vc n d 83 137 L (.inl x :: S) M Q) := nr rfl
set_option maxRecDepth 100000 in
theorem v83_137 (n d : Nat) (L : List (Option mL)) (S : List mV) (M : Mm) (Q : mQ) : vc (n + 1) d 83 137 L S M Q = (vc n d 83 138 L (.inl 1 :: S) M Q) := nr rfl
set_option maxRecDepth 100000 in
theorem v83_138 (n d : Nat) (L : List (Option mL)) (S : List mV) (M : Mm) (Q : mQ) : vc (n + 1) d 83 138 L S M Q = (pI S fun y S => pI S fun x S => vc n d 83 139 L (.inl (x + y) :: S) M Q) := nr rfl
set_option maxRecDepth 100000 in
theorem v83_139 (n d : Nat) (L : List (Option mL)) (S : List mV) (M : Mm) (Q : mQ) : vc (n + 1) d 83 139 L S M Q = (pAs 1 S fun as S => pA S fun a S => shO M a 7 (stk S ≤ 8 ∧ XC d 51 (.inr (some a) :: as) M (fun r M => ∃ x : Int32, r = some (.inl x) ∧ X d 83 142 L (.inl x :: S) M Q))) := nr rfl
set_option maxRecDepth 100000 in
theorem v83_142 (n d : Nat) (L : List (Option mL)) (S : List mV) (M : Mm) (Q : mQ) : vc (n + 1) d 83 142 L S M Q = (pI S fun x S => (¬ x = 0 → vc n d 83 148 L S M Q) ∧ (¬ (¬ x = 0) → vc n d 83 145 L S M Q)) := nr rfl
set_option maxRecDepth 100000 in
theorem v83_145 (n d : Nat) (L : List (Option mL)) (S : List mV) (M : Mm) (Q : mQ) : vc (n + 1) d 83 145 L S M Q = (vc n d 83 147 L (.inl (-3) :: S) M Q) := nr rfl
set_option maxRecDepth 100000 in
theorem v83_147 (n d : Nat) (L : List (Option mL)) (S : List mV) (M : Mm) (Q : mQ) : vc (n + 1) d 83 147 L S M Q = (pI S fun x S => S = [] ∧ (0 = 0 ∨ x = 0 ∨ x = 1) ∧ Q (some (.inl x)) M) := nr rfl
set_option maxRecDepth 100000 in
theorem v83_148 (n d : Nat) (L : List (Option mL)) (S : List mV) (M : Mm) (Q : mQ) : vc (n + 1) d 83 148 L S M Q = (vc n d 83 149 L (.inl 0 :: S) M Q) := nr rfl
set_option maxRecDepth 100000 in
theorem v83_149 (n d : Nat) (L : List (Option mL)) (S : List mV) (M : Mm) (Q : mQ) : vc (n + 1) d 83 149 L S M Q = (pI S fun x S => sL L 5 (some (.inl x)) fun L => X d 83 151 L S M Q) := nr rfl
set_option maxRecDepth 100000 in
theorem v83_151 (n d : Nat) (L : List (Option mL)) (S : List mV) (M : Mm) (Q : mQ) : vc (n + 1) d 83 151 L S M Q = (gI L 5 fun x => vc n d 83 153 L (.inl x :: S) M Q) := nr rfl
set_option maxRecDepth 100000 in
theorem v83_153 (n d : Nat) (L : List (Option mL)) (S : List mV) (M : Mm) (Q : mQ) : vc (n + 1) d 83 153 L S M Q = (gI L 2 fun x => vc n d 83 154 L (.inl x :: S) M Q) := nr rfl
set_option maxRecDepth 100000 in
theorem v83_154 (n d : Nat) (L : List (Option mL)) (S : List mV) (M : Mm) (Q : mQ) : vc (n + 1) d 83 154 L S M Q = (pI S fun y S => pI S fun x S => (y ≤ x → X d 83 181 L S M Q) ∧ (¬ (y ≤ x) → vc n d 83 157 L S M Q)) := nr rfl
set_option maxRecDepth 100000 in
theorem v83_157 (n d : Nat) (L : List (Option mL)) (S : List mV) (M : Mm) (Q : mQ) : vc (n + 1) d 83 157 L S M Q = (gI L 5 fun x => vc n d 83 159 L (.inl x :: S) M Q) := nr rfl
set_option maxRecDepth 100000 in
theorem v83_159 (n d : Nat) (L : List (Option mL)) (S : List mV) (M : Mm) (Q : mQ) : vc (n + 1) d 83 159 L S M Q = (vc n d 83 161 L (.inl 16 :: S) M Q) := nr rfl
set_option maxRecDepth 100000 in
theorem v83_161 (n d : Nat) (L : List (Option mL)) (S : List mV) (M : Mm) (Q : mQ) : vc (n + 1) d 83 161 L S M Q = (pI S fun y S => pI S fun x S => (y ≤ x → X d 83 181 L S M Q) ∧ (¬ (y ≤ x) → vc n d 83 164 L S M Q)) := nr rfl
set_option maxRecDepth 100000 in
theorem v83_164 (n d : Nat) (L : List (Option mL)) (S : List mV) (M : Mm) (Q : mQ) : vc (n + 1) d 83 164 L S M Q = (gR L 0 fun x => vc n d 83 165 L (.inr (.inr x) :: S) M Q) := nr rfl
set_option maxRecDepth 100000 in
theorem v83_165 (n d : Nat) (L : List (Option mL)) (S : List mV) (M : Mm) (Q : mQ) : vc (n + 1) d 83 165 L S M Q = (gR L 0 fun x => vc n d 83 166 L (.inr (.inr x) :: S) M Q) := nr rfl
set_option maxRecDepth 100000 in
theorem v83_166 (n d : Nat) (L : List (Option mL)) (S : List mV) (M : Mm) (Q : mQ) : vc (n + 1) d 83 166 L S M Q = (pA S fun a S => shO M a 0 (rrf M a 11 fun r => vc n d 83 169 L (.inr (.inr r) :: S) M Q)) := nr rfl
set_option maxRecDepth 100000 in
theorem v83_169 (n d : Nat) (L : List (Option mL)) (S : List mV) (M : Mm) (Q : mQ) : vc (n + 1) d 83 169 L S M Q = (gI L 5 fun x => vc n d 83 171 L (.inl x :: S) M Q) := nr rfl
set_option maxRecDepth 100000 in
theorem v83_171 (n d : Nat) (L : List (Option mL)) (S : List mV) (M : Mm) (Q : mQ) : vc (n + 1) d 83 171 L S M Q = (pI S fun i S => pA S fun a S => shA M a fun t k => (t = 40 ∨ t = 41) ∧ inB i k ∧ vc n d 83 172 L (.inl (M.it a i.toNatClampNeg) :: S) M Q) := nr rfl
set_option maxRecDepth 100000 in
theorem v83_172 (n d : Nat) (L : List (Option mL)) (S : List mV) (M : Mm) (Q : mQ) : vc (n + 1) d 83 172 L S M Q = (pAs 1 S fun as S => pA S fun a S => shO M a 0 (stk S ≤ 8 ∧ XC d 88 (.inr (some a) :: as) M (fun r M => r = none ∧ X d 83 175 L S M Q))) := nr rfl
set_option maxRecDepth 100000 in
theorem v83_175 (n d : Nat) (L : List (Option mL)) (S : List mV) (M : Mm) (Q : mQ) : vc (n + 1) d 83 175 L S M Q = (gI L 5 fun x => sL L 5 (some (.inl (x + 1))) fun L => vc n d 83 178 L S M Q) := nr rfl
set_option maxRecDepth 100000 in
theorem v83_178 (n d : Nat) (L : List (Option mL)) (S : List mV) (M : Mm) (Q : mQ) : vc (n + 1) d 83 178 L S M Q = (X d 83 151 L S M Q) := nr rfl
set_option maxRecDepth 100000 in
theorem v83_181 (n d : Nat) (L : List (Option mL)) (S : List mV) (M : Mm) (Q : mQ) : vc (n + 1) d 83 181 L S M Q = (gI L 3 fun x => vc n d 83 182 L (.inl x :: S) M Q) := nr rfl
set_option maxRecDepth 100000 in
theorem v83_182 (n d : Nat) (L : List (Option mL)) (S : List mV) (M : Mm) (Q : mQ) : vc (n + 1) d 83 182 L S M Q = (pI S fun x S => (x = 0 → vc n d 83 193 L S M Q) ∧ (¬ (x = 0) → vc n d 83 185 L S M Q)) := nr rfl
set_option maxRecDepth 100000 in
theorem v83_185 (n d : Nat) (L : List (Option mL)) (S : List mV) (M : Mm) (Q : mQ) : vc (n + 1) d 83 185 L S M Q = (gR L 0 fun x => vc n d 83 186 L (.inr (.inr x) :: S) M Q) := nr rfl
set_option maxRecDepth 100000 in
theorem v83_186 (n d : Nat) (L : List (Option mL)) (S : List mV) (M : Mm) (Q : mQ) : vc (n + 1) d 83 186 L S M Q = (vc n d 83 187 L (.inl 1 :: S) M Q) := nr rfl
set_option maxRecDepth 100000 in
theorem v83_187 (n d : Nat) (L : List (Option mL)) (S : List mV) (M : Mm) (Q : mQ) : vc (n + 1) d 83 187 L S M Q = (pAs 1 S fun as S => pA S fun a S => shO M a 0 (stk S ≤ 8 ∧ XC d 68 (.inr (some a) :: as) M (fun r M => ∃ x : Int32, r = some (.inl x) ∧ X d 83 190 L (.inl x :: S) M Q))) := nr rfl
set_option maxRecDepth 100000 in
theorem v83_190 (n d : Nat) (L : List (Option mL)) (S : List mV) (M : Mm) (Q : mQ) : vc (n + 1) d 83 190 L S M Q = (X d 83 194 L S M Q) := nr rfl
set_option maxRecDepth 100000 in
theorem v83_193 (n d : Nat) (L : List (Option mL)) (S : List mV) (M : Mm) (Q : mQ) : vc (n + 1) d 83 193 L S M Q = (X d 83 194 L (.inl 0 :: S) M Q) := nr rfl
set_option maxRecDepth 100000 in
theorem v83_194 (n d : Nat) (L : List (Option mL)) (S : List mV) (M : Mm) (Q : mQ) : vc (n + 1) d 83 194 L S M Q = (pI S fun x S => sL L 5 (some (.inl x)) fun L => vc n d 83 196 L S M Q) := nr rfl
set_option maxRecDepth 100000 in
theorem v83_196 (n d : Nat) (L : List (Option mL)) (S : List mV) (M : Mm) (Q : mQ) : vc (n + 1) d 83 196 L S M Q = (gR L 0 fun x => vc n d 83 197 L (.inr (.inr x) :: S) M Q) := nr rfl
set_option maxRecDepth 100000 in
theorem v83_197 (n d : Nat) (L : List (Option mL)) (S : List mV) (M : Mm) (Q : mQ) : vc (n + 1) d 83 197 L S M Q = (pA S fun a S => shO M a 0 (rrf M a 3 fun r => vc n d 83 200 L (.inr (.inr r) :: S) M Q)) := nr rfl
set_option maxRecDepth 100000 in
theorem v83_200 (n d : Nat) (L : List (Option mL)) (S : List mV) (M : Mm) (Q : mQ) : vc (n + 1) d 83 200 L S M Q = (gI L 1 fun x => vc n d 83 201 L (.inl x :: S) M Q) := nr rfl
set_option maxRecDepth 100000 in
theorem v83_201 (n d : Nat) (L : List (Option mL)) (S : List mV) (M : Mm) (Q : mQ) : vc (n + 1) d 83 201 L S M Q = (pAs 1 S fun as S => pA S fun a S => shO M a 6 (stk S ≤ 8 ∧ XC d 89 (.inr (some a) :: as) M (fun r M => r = none ∧ X d 83 204 L S M Q))) := nr rfl
set_option maxRecDepth 100000 in
theorem v83_204 (n d : Nat) (L : List (Option mL)) (S : List mV) (M : Mm) (Q : mQ) : vc (n + 1) d 83 204 L S M Q = (gR L 0 fun x => vc n d 83 205 L (.inr (.inr x) :: S) M Q) := nr rfl
set_option maxRecDepth 100000 in
theorem v83_205 (n d : Nat) (L : List (Option mL)) (S : List mV) (M : Mm) (Q : mQ) : vc (n + 1) d 83 205 L S M Q = (gI L 5 fun x => vc n d 83 207 L (.inl x :: S) M Q) := nr rfl
set_option maxRecDepth 100000 in
theorem v83_207 (n d : Nat) (L : List (Option mL)) (S : List mV) (M : Mm) (Q : mQ) : vc (n + 1) d 83 207 L S M Q = (gI L 1 fun x => vc n d 83 208 L (.inl x :: S) M Q) := nr rfl
set_option maxRecDepth 100000 in
theorem v83_208 (n d : Nat) (L : List (Option mL)) (S : List mV) (M : Mm) (Q : mQ) : vc (n + 1) d 83 208 L S M Q = (pAs 2 S fun as S => pA S fun a S => shO M a 0 (stk S ≤ 8 ∧ XC d 78 (.inr (some a) :: as) M (fun r M => r = none ∧ X d 83 211 L S M Q))) := nr rfl
set_option maxRecDepth 100000 in
theorem v83_211 (n d : Nat) (L : List (Option mL)) (S : List mV) (M : Mm) (Q : mQ) : vc (n + 1) d 83 211 L S M Q = (gR L 0 fun x => vc n d 83 212 L (.inr (.inr x) :: S) M Q) := nr rfl
set_option maxRecDepth 100000 in
theorem v83_212 (n d : Nat) (L : List (Option mL)) (S : List mV) (M : Mm) (Q : mQ) : vc (n + 1) d 83 212 L S M Q = (pA S fun a S => shO M a 0 (rrf M a 12 fun r => vc n d 83 215 L (.inr (.inr r) :: S) M Q)) := nr rfl
set_option maxRecDepth 100000 in
theorem v83_215 (n d : Nat) (L : List (Option mL)) (S : List mV) (M : Mm) (Q : mQ) : vc (n + 1) d 83 215 L S M Q = (gI L 1 fun x => vc n d 83 216 L (.inl x :: S) M Q) := nr rfl
set_option maxRecDepth 100000 in
theorem v83_216 (n d : Nat) (L : List (Option mL)) (S : List mV) (M : Mm) (Q : mQ) : vc (n + 1) d 83 216 L S M Q = (gR L 0 fun x => vc n d 83 217 L (.inr (.inr x) :: S) M Q) := nr rfl
set_option maxRecDepth 100000 in
theorem v83_217 (n d : Nat) (L : List (Option mL)) (S : List mV) (M : Mm) (Q : mQ) : vc (n + 1) d 83 217 L S M Q = (pA S fun a S => shO M a 0 (vc n d 83 220 L (.inl (M.it a 15) :: S) M Q)) := nr rfl
set_option maxRecDepth 100000 in
theorem v83_220 (n d : Nat) (L : List (Option mL)) (S : List mV) (M : Mm) (Q : mQ) : vc (n + 1) d 83 220 L S M Q = (pI S fun x S => pI S fun i S => pA S fun a S => shA M a fun t k => t = 41 ∧ inB i k ∧ vc n d 83 221 L S (M.si a i.toNatClampNeg x) Q) := nr rfl
set_option maxRecDepth 100000 in
theorem v83_221 (n d : Nat) (L : List (Option mL)) (S : List mV) (M : Mm) (Q : mQ) : vc (n + 1) d 83 221 L S M Q = (gI L 2 fun x => vc n d 83 222 L (.inl x :: S) M Q) := nr rfl
set_option maxRecDepth 100000 in
theorem v83_222 (n d : Nat) (L : List (Option mL)) (S : List mV) (M : Mm) (Q : mQ) : vc (n + 1) d 83 222 L S M Q = (pI S fun x S => S = [] ∧ (0 = 0 ∨ x = 0 ∨ x = 1) ∧ Q (some (.inl x)) M) := nr rfl
set_option maxRecDepth 100000 in
theorem v84_0 (n d : Nat) (L : List (Option mL)) (S : List mV) (M : Mm) (Q : mQ) : vc (n + 1) d 84 0 L S M Q = (vc n d 84 1 L (.inl 0 :: S) M Q) := nr rfl
set_option maxRecDepth 100000 in
theorem v84_1 (n d : Nat) (L : List (Option mL)) (S : List mV) (M : Mm) (Q : mQ) : vc (n + 1) d 84 1 L S M Q = (pI S fun x S => sL L 2 (some (.inl x)) fun L => vc n d 84 2 L S M Q) := nr rfl
set_option maxRecDepth 100000 in
theorem v84_2 (n d : Nat) (L : List (Option mL)) (S : List mV) (M : Mm) (Q : mQ) : vc (n + 1) d 84 2 L S M Q = (vc n d 84 3 L (.inl 0 :: S) M Q) := nr rfl
set_option maxRecDepth 100000 in
theorem v84_3 (n d : Nat) (L : List (Option mL)) (S : List mV) (M : Mm) (Q : mQ) : vc (n + 1) d 84 3 L S M Q = (pI S fun x S => sL L 3 (some (.inl x)) fun L => X d 84 4 L S M Q) := nr rfl
set_option maxRecDepth 100000 in
theorem v84_4 (n d : Nat) (L : List (Option mL)) (S : List mV) (M : Mm) (Q : mQ) : vc (n + 1) d 84 4 L S M Q = (gI L 3 fun x => vc n d 84 5 L (.inl x :: S) M Q) := nr rfl
set_option maxRecDepth 100000 in
theorem v84_5 (n d : Nat) (L : List (Option mL)) (S : List mV) (M : Mm) (Q : mQ) : vc (n + 1) d 84 5 L S M Q = (vc n d 84 7 L (.inl 16 :: S) M Q) := nr rfl
set_option maxRecDepth 100000 in
theorem v84_7 (n d : Nat) (L : List (Option mL)) (S : List mV) (M : Mm) (Q : mQ) : vc (n + 1) d 84 7 L S M Q = (pI S fun y S => pI S fun x S => (y ≤ x → vc n d 84 57 L S M Q) ∧ (¬ (y ≤ x) → vc n d 84 10 L S M Q)) := nr rfl
set_option maxRecDepth 100000 in
theorem v84_10 (n d : Nat) (L : List (Option mL)) (S : List mV) (M : Mm) (Q : mQ) : vc (n + 1) d 84 10 L S M Q = (gR L 0 fun x => vc n d 84 11 L (.inr (.inr x) :: S) M Q) := nr rfl
set_option maxRecDepth 100000 in
theorem v84_11 (n d : Nat) (L : List (Option mL)) (S : List mV) (M : Mm) (Q : mQ) : vc (n + 1) d 84 11 L S M Q = (pA S fun a S => shO M a 0 (rrf M a 5 fun r => vc n d 84 14 L (.inr (.inr r) :: S) M Q)) := nr rfl
set_option maxRecDepth 100000 in
theorem v84_14 (n d : Nat) (L : List (Option mL)) (S : List mV) (M : Mm) (Q : mQ) : vc (n + 1) d 84 14 L S M Q = (gI L 1 fun x => vc n d 84 15 L (.inl x :: S) M Q) := nr rfl
set_option maxRecDepth 100000 in
theorem v84_15 (n d : Nat) (L : List (Option mL)) (S : List mV) (M : Mm) (Q : mQ) : vc (n + 1) d 84 15 L S M Q = (vc n d 84 17 L (.inl 16 :: S) M Q) := nr rfl
set_option maxRecDepth 100000 in
theorem v84_17 (n d : Nat) (L : List (Option mL)) (S : List mV) (M : Mm) (Q : mQ) : vc (n + 1) d 84 17 L S M Q = (pI S fun y S => pI S fun x S => vc n d 84 18 L (.inl (x * y) :: S) M Q) := nr rfl
set_option maxRecDepth 100000 in
theorem v84_18 (n d : Nat) (L : List (Option mL)) (S : List mV) (M : Mm) (Q : mQ) : vc (n + 1) d 84 18 L S M Q = (gI L 3 fun x => vc n d 84 19 L (.inl x :: S) M Q) := nr rfl
set_option maxRecDepth 100000 in
theorem v84_19 (n d : Nat) (L : List (Option mL)) (S : List mV) (M : Mm) (Q : mQ) : vc (n + 1) d 84 19 L S M Q = (pI S fun y S => pI S fun x S => vc n d 84 20 L (.inl (x + y) :: S) M Q) := nr rfl
set_option maxRecDepth 100000 in
theorem v84_20 (n d : Nat) (L : List (Option mL)) (S : List mV) (M : Mm) (Q : mQ) : vc (n + 1) d 84 20 L S M Q = (pAs 1 S fun as S => pA S fun a S => shO M a 5 (stk S ≤ 8 ∧ XC d 85 (.inr (some a) :: as) M (fun r M => ∃ x : Int32, r = some (.inl x) ∧ X d 84 23 L (.inl x :: S) M Q))) := nr rfl
set_option maxRecDepth 100000 in
theorem v84_23 (n d : Nat) (L : List (Option mL)) (S : List mV) (M : Mm) (Q : mQ) : vc (n + 1) d 84 23 L S M Q = (pI S fun x S => sL L 4 (some (.inl x)) fun L => vc n d 84 25 L S M Q) := nr rfl
set_option maxRecDepth 100000 in
theorem v84_25 (n d : Nat) (L : List (Option mL)) (S : List mV) (M : Mm) (Q : mQ) : vc (n + 1) d 84 25 L S M Q = (gI L 4 fun x => vc n d 84 27 L (.inl x :: S) M Q) := nr rfl
set_option maxRecDepth 100000 in
theorem v84_27 (n d : Nat) (L : List (Option mL)) (S : List mV) (M : Mm) (Q : mQ) : vc (n + 1) d 84 27 L S M Q = (vc n d 84 28 L (.inl (-1) :: S) M Q) := nr rfl
set_option maxRecDepth 100000 in
theorem v84_28 (n d : Nat) (L : List (Option mL)) (S : List mV) (M : Mm) (Q : mQ) : vc (n + 1) d 84 28 L S M Q = (pI S fun y S => pI S fun x S => (x = y → vc n d 84 51 L S M Q) ∧ (¬ (x = y) → vc n d 84 31 L S M Q)) := nr rfl
set_option maxRecDepth 100000 in
theorem v84_31 (n d : Nat) (L : List (Option mL)) (S : List mV) (M : Mm) (Q : mQ) : vc (n + 1) d 84 31 L S M Q = (gI L 2 fun x => vc n d 84 32 L (.inl x :: S) M Q) := nr rfl
set_option maxRecDepth 100000 in
theorem v84_32 (n d : Nat) (L : List (Option mL)) (S : List mV) (M : Mm) (Q : mQ) : vc (n + 1) d 84 32 L S M Q = (gR L 0 fun x => vc n d 84 33 L (.inr (.inr x) :: S) M Q) := nr rfl
set_option maxRecDepth 100000 in
theorem v84_33 (n d : Nat) (L : List (Option mL)) (S : List mV) (M : Mm) (Q : mQ) : vc (n + 1) d 84 33 L S M Q = (pA S fun a S => shO M a 0 (rrf M a 11 fun r => vc n d 84 36 L (.inr (.inr r) :: S) M Q)) := nr rfl
set_option maxRecDepth 100000 in
theorem v84_36 (n d : Nat) (L : List (Option mL)) (S : List mV) (M : Mm) (Q : mQ) : vc (n + 1) d 84 36 L S M Q = (pA S fun a S => shA M a fun t k => aTyB t = true ∧ vc n d 84 37 L (.inl (nI k) :: S) M Q) := nr rfl
set_option maxRecDepth 100000 in
theorem v84_37 (n d : Nat) (L : List (Option mL)) (S : List mV) (M : Mm) (Q : mQ) : vc (n + 1) d 84 37 L S M Q = (pI S fun y S => pI S fun x S => (y ≤ x → vc n d 84 51 L S M Q) ∧ (¬ (y ≤ x) → vc n d 84 40 L S M Q)) := nr rfl
set_option maxRecDepth 100000 in
theorem v84_40 (n d : Nat) (L : List (Option mL)) (S : List mV) (M : Mm) (Q : mQ) : vc (n + 1) d 84 40 L S M Q = (gR L 0 fun x => vc n d 84 41 L (.inr (.inr x) :: S) M Q) := nr rfl
set_option maxRecDepth 100000 in
theorem v84_41 (n d : Nat) (L : List (Option mL)) (S : List mV) (M : Mm) (Q : mQ) : vc (n + 1) d 84 41 L S M Q = (pA S fun a S => shO M a 0 (rrf M a 11 fun r => vc n d 84 44 L (.inr (.inr r) :: S) M Q)) := nr rfl
set_option maxRecDepth 100000 in
theorem v84_44 (n d : Nat) (L : List (Option mL)) (S : List mV) (M : Mm) (Q : mQ) : vc (n + 1) d 84 44 L S M Q = (gI L 2 fun x => vc n d 84 45 L (.inl x :: S) M Q) := nr rfl
set_option maxRecDepth 100000 in
theorem v84_45 (n d : Nat) (L : List (Option mL)) (S : List mV) (M : Mm) (Q : mQ) : vc (n + 1) d 84 45 L S M Q = (gI L 4 fun x => vc n d 84 47 L (.inl x :: S) M Q) := nr rfl
set_option maxRecDepth 100000 in
theorem v84_47 (n d : Nat) (L : List (Option mL)) (S : List mV) (M : Mm) (Q : mQ) : vc (n + 1) d 84 47 L S M Q = (pI S fun x S => pI S fun i S => pA S fun a S => shA M a fun t k => t = 41 ∧ inB i k ∧ vc n d 84 48 L S (M.si a i.toNatClampNeg x) Q) := nr rfl
set_option maxRecDepth 100000 in
theorem v84_48 (n d : Nat) (L : List (Option mL)) (S : List mV) (M : Mm) (Q : mQ) : vc (n + 1) d 84 48 L S M Q = (gI L 2 fun x => sL L 2 (some (.inl (x + 1))) fun L => vc n d 84 51 L S M Q) := nr rfl
set_option maxRecDepth 100000 in
theorem v84_51 (n d : Nat) (L : List (Option mL)) (S : List mV) (M : Mm) (Q : mQ) : vc (n + 1) d 84 51 L S M Q = (gI L 3 fun x => sL L 3 (some (.inl (x + 1))) fun L => vc n d 84 54 L S M Q) := nr rfl
set_option maxRecDepth 100000 in
theorem v84_54 (n d : Nat) (L : List (Option mL)) (S : List mV) (M : Mm) (Q : mQ) : vc (n + 1) d 84 54 L S M Q = (X d 84 4 L S M Q) := nr rfl
set_option maxRecDepth 100000 in
theorem v84_57 (n d : Nat) (L : List (Option mL)) (S : List mV) (M : Mm) (Q : mQ) : vc (n + 1) d 84 57 L S M Q = (gI L 2 fun x => vc n d 84 58 L (.inl x :: S) M Q) := nr rfl
set_option maxRecDepth 100000 in
theorem v84_58 (n d : Nat) (L : List (Option mL)) (S : List mV) (M : Mm) (Q : mQ) : vc (n + 1) d 84 58 L S M Q = (pI S fun x S => S = [] ∧ (0 = 0 ∨ x = 0 ∨ x = 1) ∧ Q (some (.inl x)) M) := nr rfl
set_option maxRecDepth 100000 in
theorem v85_0 (n d : Nat) (L : List (Option mL)) (S : List mV) (M : Mm) (Q : mQ) : vc (n + 1) d 85 0 L S M Q = (vc n d 85 1 L (.inl 0 :: S) M Q) := nr rfl
set_option maxRecDepth 100000 in
theorem v85_1 (n d : Nat) (L : List (Option mL)) (S : List mV) (M : Mm) (Q : mQ) : vc (n + 1) d 85 1 L S M Q = (pI S fun x S => sL L 2 (some (.inl x)) fun L => X d 85 2 L S M Q) := nr rfl
set_option maxRecDepth 100000 in
theorem v85_2 (n d : Nat) (L : List (Option mL)) (S : List mV) (M : Mm) (Q : mQ) : vc (n + 1) d 85 2 L S M Q = (gI L 2 fun x => vc n d 85 3 L (.inl x :: S) M Q) := nr rfl
set_option maxRecDepth 100000 in
theorem v85_3 (n d : Nat) (L : List (Option mL)) (S : List mV) (M : Mm) (Q : mQ) : vc (n + 1) d 85 3 L S M Q = (vc n d 85 5 L (.inl 48 :: S) M Q) := nr rfl
set_option maxRecDepth 100000 in
theorem v85_5 (n d : Nat) (L : List (Option mL)) (S : List mV) (M : Mm) (Q : mQ) : vc (n + 1) d 85 5 L S M Q = (pI S fun y S => pI S fun x S => (y ≤ x → vc n d 85 25 L S M Q) ∧ (¬ (y ≤ x) → vc n d 85 8 L S M Q)) := nr rfl
set_option maxRecDepth 100000 in
theorem v85_8 (n d : Nat) (L : List (Option mL)) (S : List mV) (M : Mm) (Q : mQ) : vc (n + 1) d 85 8 L S M Q = (gR L 0 fun x => vc n d 85 9 L (.inr (.inr x) :: S) M Q) := nr rfl
set_option maxRecDepth 100000 in
theorem v85_9 (n d : Nat) (L : List (Option mL)) (S : List mV) (M : Mm) (Q : mQ) : vc (n + 1) d 85 9 L S M Q = (gI L 2 fun x => vc n d 85 10 L (.inl x :: S) M Q) := nr rfl
set_option maxRecDepth 100000 in
theorem v85_10 (n d : Nat) (L : List (Option mL)) (S : List mV) (M : Mm) (Q : mQ) : vc (n + 1) d 85 10 L S M Q = (pAs 1 S fun as S => pA S fun a S => shO M a 5 (stk S ≤ 8 ∧ XC d 60 (.inr (some a) :: as) M (fun r M => ∃ x : Int32, r = some (.inl x) ∧ X d 85 13 L (.inl x :: S) M Q))) := nr rfl
set_option maxRecDepth 100000 in
theorem v85_13 (n d : Nat) (L : List (Option mL)) (S : List mV) (M : Mm) (Q : mQ) : vc (n + 1) d 85 13 L S M Q = (gI L 1 fun x => vc n d 85 14 L (.inl x :: S) M Q) := nr rfl
set_option maxRecDepth 100000 in
theorem v85_14 (n d : Nat) (L : List (Option mL)) (S : List mV) (M : Mm) (Q : mQ) : vc (n + 1) d 85 14 L S M Q = (pI S fun y S => pI S fun x S => (¬ x = y → vc n d 85 19 L S M Q) ∧ (¬ (¬ x = y) → vc n d 85 17 L S M Q)) := nr rfl
set_option maxRecDepth 100000 in
theorem v85_17 (n d : Nat) (L : List (Option mL)) (S : List mV) (M : Mm) (Q : mQ) : vc (n + 1) d 85 17 L S M Q = (gI L 2 fun x => vc n d 85 18 L (.inl x :: S) M Q) := nr rfl
set_option maxRecDepth 100000 in
theorem v85_18 (n d : Nat) (L : List (Option mL)) (S : List mV) (M : Mm) (Q : mQ) : vc (n + 1) d 85 18 L S M Q = (pI S fun x S => S = [] ∧ (0 = 0 ∨ x = 0 ∨ x = 1) ∧ Q (some (.inl x)) M) := nr rfl
set_option maxRecDepth 100000 in
theorem v85_19 (n d : Nat) (L : List (Option mL)) (S : List mV) (M : Mm) (Q : mQ) : vc (n + 1) d 85 19 L S M Q = (gI L 2 fun x => sL L 2 (some (.inl (x + 1))) fun L => vc n d 85 22 L S M Q) := nr rfl
set_option maxRecDepth 100000 in
theorem v85_22 (n d : Nat) (L : List (Option mL)) (S : List mV) (M : Mm) (Q : mQ) : vc (n + 1) d 85 22 L S M Q = (X d 85 2 L S M Q) := nr rfl
set_option maxRecDepth 100000 in
theorem v85_25 (n d : Nat) (L : List (Option mL)) (S : List mV) (M : Mm) (Q : mQ) : vc (n + 1) d 85 25 L S M Q = (vc n d 85 26 L (.inl (-1) :: S) M Q) := nr rfl
set_option maxRecDepth 100000 in
theorem v85_26 (n d : Nat) (L : List (Option mL)) (S : List mV) (M : Mm) (Q : mQ) : vc (n + 1) d 85 26 L S M Q = (pI S fun x S => S = [] ∧ (0 = 0 ∨ x = 0 ∨ x = 1) ∧ Q (some (.inl x)) M) := nr rfl
set_option maxRecDepth 100000 in
theorem v86_0 (n d : Nat) (L : List (Option mL)) (S : List mV) (M : Mm) (Q : mQ) : vc (n + 1) d 86 0 L S M Q = (vc n d 86 1 L (.inl 0 :: S) M Q) := nr rfl
set_option maxRecDepth 100000 in
theorem v86_1 (n d : Nat) (L : List (Option mL)) (S : List mV) (M : Mm) (Q : mQ) : vc (n + 1) d 86 1 L S M Q = (pI S fun x S => sL L 2 (some (.inl x)) fun L => X d 86 2 L S M Q) := nr rfl
set_option maxRecDepth 100000 in
theorem v86_2 (n d : Nat) (L : List (Option mL)) (S : List mV) (M : Mm) (Q : mQ) : vc (n + 1) d 86 2 L S M Q = (gI L 2 fun x => vc n d 86 3 L (.inl x :: S) M Q) := nr rfl
set_option maxRecDepth 100000 in
theorem v86_3 (n d : Nat) (L : List (Option mL)) (S : List mV) (M : Mm) (Q : mQ) : vc (n + 1) d 86 3 L S M Q = (gR L 0 fun x => vc n d 86 4 L (.inr (.inr x) :: S) M Q) := nr rfl
set_option maxRecDepth 100000 in
theorem v86_4 (n d : Nat) (L : List (Option mL)) (S : List mV) (M : Mm) (Q : mQ) : vc (n + 1) d 86 4 L S M Q = (pA S fun a S => shO M a 5 (vc n d 86 7 L (.inl (M.it a 2) :: S) M Q)) := nr rfl
set_option maxRecDepth 100000 in
theorem v86_7 (n d : Nat) (L : List (Option mL)) (S : List mV) (M : Mm) (Q : mQ) : vc (n + 1) d 86 7 L S M Q = (pI S fun y S => pI S fun x S => (y ≤ x → vc n d 86 39 L S M Q) ∧ (¬ (y ≤ x) → vc n d 86 10 L S M Q)) := nr rfl
set_option maxRecDepth 100000 in
theorem v86_10 (n d : Nat) (L : List (Option mL)) (S : List mV) (M : Mm) (Q : mQ) : vc (n + 1) d 86 10 L S M Q = (gI L 2 fun x => vc n d 86 11 L (.inl x :: S) M Q) := nr rfl
set_option maxRecDepth 100000 in
theorem v86_11 (n d : Nat) (L : List (Option mL)) (S : List mV) (M : Mm) (Q : mQ) : vc (n + 1) d 86 11 L S M Q = (vc n d 86 12 L (.inl 3 :: S) M Q) := nr rfl
set_option maxRecDepth 100000 in
theorem v86_12 (n d : Nat) (L : List (Option mL)) (S : List mV) (M : Mm) (Q : mQ) : vc (n + 1) d 86 12 L S M Q = (pI S fun y S => pI S fun x S => (y ≤ x → vc n d 86 39 L S M Q) ∧ (¬ (y ≤ x) → vc n d 86 15 L S M Q)) := nr rfl
set_option maxRecDepth 100000 in
theorem v86_15 (n d : Nat) (L : List (Option mL)) (S : List mV) (M : Mm) (Q : mQ) : vc (n + 1) d 86 15 L S M Q = (gR L 0 fun x => vc n d 86 16 L (.inr (.inr x) :: S) M Q) := nr rfl
set_option maxRecDepth 100000 in
theorem v86_16 (n d : Nat) (L : List (Option mL)) (S : List mV) (M : Mm) (Q : mQ) : vc (n + 1) d 86 16 L S M Q = (pA S fun a S => shO M a 5 (rrf M a 1 fun r => vc n d 86 19 L (.inr (.inr r) :: S) M Q)) := nr rfl
set_option maxRecDepth 100000 in
theorem v86_19 (n d : Nat) (L : List (Option mL)) (S : List mV) (M : Mm) (Q : mQ) : vc (n + 1) d 86 19 L S M Q = (gI L 2 fun x => vc n d 86 20 L (.inl x :: S) M Q) := nr rfl
set_option maxRecDepth 100000 in
theorem v86_20 (n d : Nat) (L : List (Option mL)) (S : List mV) (M : Mm) (Q : mQ) : vc (n + 1) d 86 20 L S M Q = (pI S fun i S => pA S fun a S => shA M a fun t k => rTyB t = true ∧ inB i k ∧ rrf M a i.toNatClampNeg fun r => vc n d 86 21 L (.inr (.inr r) :: S) M Q) := nr rfl
set_option maxRecDepth 100000 in
theorem v86_21 (n d : Nat) (L : List (Option mL)) (S : List mV) (M : Mm) (Q : mQ) : vc (n + 1) d 86 21 L S M Q = (pA S fun a S => shO M a 4 (vc n d 86 24 L (.inl (M.it a 2) :: S) M Q)) := nr rfl
set_option maxRecDepth 100000 in
theorem v86_24 (n d : Nat) (L : List (Option mL)) (S : List mV) (M : Mm) (Q : mQ) : vc (n + 1) d 86 24 L S M Q = (vc n d 86 26 L (.inl 16 :: S) M Q) := nr rfl
set_option maxRecDepth 100000 in
theorem v86_26 (n d : Nat) (L : List (Option mL)) (S : List mV) (M : Mm) (Q : mQ) : vc (n + 1) d 86 26 L S M Q = (pI S fun y S => pI S fun x S => ¬ y = 0 ∧ vc n d 86 27 L (.inl (x / y) :: S) M Q) := nr rfl
set_option maxRecDepth 100000 in
theorem v86_27 (n d : Nat) (L : List (Option mL)) (S : List mV) (M : Mm) (Q : mQ) : vc (n + 1) d 86 27 L S M Q = (gI L 1 fun x => vc n d 86 28 L (.inl x :: S) M Q) := nr rfl
set_option maxRecDepth 100000 in
theorem v86_28 (n d : Nat) (L : List (Option mL)) (S : List mV) (M : Mm) (Q : mQ) : vc (n + 1) d 86 28 L S M Q = (pI S fun y S => pI S fun x S => (¬ x = y → vc n d 86 33 L S M Q) ∧ (¬ (¬ x = y) → vc n d 86 31 L S M Q)) := nr rfl
set_option maxRecDepth 100000 in
theorem v86_31 (n d : Nat) (L : List (Option mL)) (S : List mV) (M : Mm) (Q : mQ) : vc (n + 1) d 86 31 L S M Q = (vc n d 86 32 L (.inl 1 :: S) M Q) := nr rfl
set_option maxRecDepth 100000 in
theorem v86_32 (n d : Nat) (L : List (Option mL)) (S : List mV) (M : Mm) (Q : mQ) : vc (n + 1) d 86 32 L S M Q = (pI S fun x S => S = [] ∧ (1 = 0 ∨ x = 0 ∨ x = 1) ∧ Q (some (.inl x)) M) := nr rfl
set_option maxRecDepth 100000 in
theorem v86_33 (n d : Nat) (L : List (Option mL)) (S : List mV) (M : Mm) (Q : mQ) : vc (n + 1) d 86 33 L S M Q = (gI L 2 fun x => sL L 2 (some (.inl (x + 1))) fun L => vc n d 86 36 L S M Q) := nr rfl
set_option maxRecDepth 100000 in
theorem v86_36 (n d : Nat) (L : List (Option mL)) (S : List mV) (M : Mm) (Q : mQ) : vc (n + 1) d 86 36 L S M Q = (X d 86 2 L S M Q) := nr rfl
set_option maxRecDepth 100000 in
theorem v86_39 (n d : Nat) (L : List (Option mL)) (S : List mV) (M : Mm) (Q : mQ) : vc (n + 1) d 86 39 L S M Q = (vc n d 86 40 L (.inl 0 :: S) M Q) := nr rfl
set_option maxRecDepth 100000 in
theorem v86_40 (n d : Nat) (L : List (Option mL)) (S : List mV) (M : Mm) (Q : mQ) : vc (n + 1) d 86 40 L S M Q = (pI S fun x S => S = [] ∧ (1 = 0 ∨ x = 0 ∨ x = 1) ∧ Q (some (.inl x)) M) := nr rfl
set_option maxRecDepth 100000 in
theorem v87_0 (n d : Nat) (L : List (Option mL)) (S : List mV) (M : Mm) (Q : mQ) : vc (n + 1) d 87 0 L S M Q = (gR L 0 fun x => vc n d 87 1 L (.inr (.inr x) :: S) M Q) := nr rfl
set_option maxRecDepth 100000 in
theorem v87_1 (n d : Nat) (L : List (Option mL)) (S : List mV) (M : Mm) (Q : mQ) : vc (n + 1) d 87 1 L S M Q = (pA S fun a S => shO M a 0 (rrf M a 4 fun r => vc n d 87 4 L (.inr (.inr r) :: S) M Q)) := nr rfl
set_option maxRecDepth 100000 in
theorem v87_4 (n d : Nat) (L : List (Option mL)) (S : List mV) (M : Mm) (Q : mQ) : vc (n + 1) d 87 4 L S M Q = (gR L 0 fun x => vc n d 87 5 L (.inr (.inr x) :: S) M Q) := nr rfl
set_option maxRecDepth 100000 in
theorem v87_5 (n d : Nat) (L : List (Option mL)) (S : List mV) (M : Mm) (Q : mQ) : vc (n + 1) d 87 5 L S M Q = (pA S fun a S => shO M a 0 (rrf M a 3 fun r => vc n d 87 8 L (.inr (.inr r) :: S) M Q)) := nr rfl
set_option maxRecDepth 100000 in
theorem v87_8 (n d : Nat) (L : List (Option mL)) (S : List mV) (M : Mm) (Q : mQ) : vc (n + 1) d 87 8 L S M Q = (pAs 1 S fun as S => pA S fun a S => shO M a 6 (stk S ≤ 8 ∧ XC d 46 (.inr (some a) :: as) M (fun r M => r = none ∧ X d 87 11 L S M Q))) := nr rfl
set_option maxRecDepth 100000 in
theorem v87_11 (n d : Nat) (L : List (Option mL)) (S : List mV) (M : Mm) (Q : mQ) : vc (n + 1) d 87 11 L S M Q = (vc n d 87 12 L (.inl 0 :: S) M Q) := nr rfl
set_option maxRecDepth 100000 in
theorem v87_12 (n d : Nat) (L : List (Option mL)) (S : List mV) (M : Mm) (Q : mQ) : vc (n + 1) d 87 12 L S M Q = (pI S fun x S => sL L 3 (some (.inl x)) fun L => vc n d 87 13 L S M Q) := nr rfl
set_option maxRecDepth 100000 in
theorem v87_13 (n d : Nat) (L : List (Option mL)) (S : List mV) (M : Mm) (Q : mQ) : vc (n + 1) d 87 13 L S M Q = (vc n d 87 14 L (.inl 0 :: S) M Q) := nr rfl
set_option maxRecDepth 100000 in
theorem v87_14 (n d : Nat) (L : List (Option mL)) (S : List mV) (M : Mm) (Q : mQ) : vc (n + 1) d 87 14 L S M Q = (pI S fun x S => sL L 4 (some (.inl x)) fun L => X d 87 16 L S M Q) := nr rfl
set_option maxRecDepth 100000 in
theorem v87_16 (n d : Nat) (L : List (Option mL)) (S : List mV) (M : Mm) (Q : mQ) : vc (n + 1) d 87 16 L S M Q = (gI L 4 fun x => vc n d 87 18 L (.inl x :: S) M Q) := nr rfl
set_option maxRecDepth 100000 in
theorem v87_18 (n d : Nat) (L : List (Option mL)) (S : List mV) (M : Mm) (Q : mQ) : vc (n + 1) d 87 18 L S M Q = (gI L 1 fun x => vc n d 87 19 L (.inl x :: S) M Q) := nr rfl
set_option maxRecDepth 100000 in
theorem v87_19 (n d : Nat) (L : List (Option mL)) (S : List mV) (M : Mm) (Q : mQ) : vc (n + 1) d 87 19 L S M Q = (pI S fun y S => pI S fun x S => (y ≤ x → X d 87 76 L S M Q) ∧ (¬ (y ≤ x) → vc n d 87 22 L S M Q)) := nr rfl
set_option maxRecDepth 100000 in
theorem v87_22 (n d : Nat) (L : List (Option mL)) (S : List mV) (M : Mm) (Q : mQ) : vc (n + 1) d 87 22 L S M Q = (gI L 4 fun x => vc n d 87 24 L (.inl x :: S) M Q) := nr rfl
set_option maxRecDepth 100000 in
theorem v87_24 (n d : Nat) (L : List (Option mL)) (S : List mV) (M : Mm) (Q : mQ) : vc (n + 1) d 87 24 L S M Q = (vc n d 87 26 L (.inl 16 :: S) M Q) := nr rfl
set_option maxRecDepth 100000 in
theorem v87_26 (n d : Nat) (L : List (Option mL)) (S : List mV) (M : Mm) (Q : mQ) : vc (n + 1) d 87 26 L S M Q = (pI S fun y S => pI S fun x S => (y ≤ x → X d 87 76 L S M Q) ∧ (¬ (y ≤ x) → vc n d 87 29 L S M Q)) := nr rfl
set_option maxRecDepth 100000 in
theorem v87_29 (n d : Nat) (L : List (Option mL)) (S : List mV) (M : Mm) (Q : mQ) : vc (n + 1) d 87 29 L S M Q = (gR L 0 fun x => vc n d 87 30 L (.inr (.inr x) :: S) M Q) := nr rfl
set_option maxRecDepth 100000 in
theorem v87_30 (n d : Nat) (L : List (Option mL)) (S : List mV) (M : Mm) (Q : mQ) : vc (n + 1) d 87 30 L S M Q = (gR L 0 fun x => vc n d 87 31 L (.inr (.inr x) :: S) M Q) := nr rfl
set_option maxRecDepth 100000 in
theorem v87_31 (n d : Nat) (L : List (Option mL)) (S : List mV) (M : Mm) (Q : mQ) : vc (n + 1) d 87 31 L S M Q = (pA S fun a S => shO M a 0 (rrf M a 5 fun r => vc n d 87 34 L (.inr (.inr r) :: S) M Q)) := nr rfl
set_option maxRecDepth 100000 in
theorem v87_34 (n d : Nat) (L : List (Option mL)) (S : List mV) (M : Mm) (Q : mQ) : vc (n + 1) d 87 34 L S M Q = (gR L 0 fun x => vc n d 87 35 L (.inr (.inr x) :: S) M Q) := nr rfl
set_option maxRecDepth 100000 in
theorem v87_35 (n d : Nat) (L : List (Option mL)) (S : List mV) (M : Mm) (Q : mQ) : vc (n + 1) d 87 35 L S M Q = (pA S fun a S => shO M a 0 (rrf M a 11 fun r => vc n d 87 38 L (.inr (.inr r) :: S) M Q)) := nr rfl
set_option maxRecDepth 100000 in
theorem v87_38 (n d : Nat) (L : List (Option mL)) (S : List mV) (M : Mm) (Q : mQ) : vc (n + 1) d 87 38 L S M Q = (gI L 4 fun x => vc n d 87 40 L (.inl x :: S) M Q) := nr rfl
set_option maxRecDepth 100000 in
theorem v87_40 (n d : Nat) (L : List (Option mL)) (S : List mV) (M : Mm) (Q : mQ) : vc (n + 1) d 87 40 L S M Q = (pI S fun i S => pA S fun a S => shA M a fun t k => (t = 40 ∨ t = 41) ∧ inB i k ∧ vc n d 87 41 L (.inl (M.it a i.toNatClampNeg) :: S) M Q) := nr rfl
set_option maxRecDepth 100000 in
theorem v87_41 (n d : Nat) (L : List (Option mL)) (S : List mV) (M : Mm) (Q : mQ) : vc (n + 1) d 87 41 L S M Q = (pAs 1 S fun as S => pA S fun a S => shO M a 5 (stk S ≤ 8 ∧ XC d 60 (.inr (some a) :: as) M (fun r M => ∃ x : Int32, r = some (.inl x) ∧ X d 87 44 L (.inl x :: S) M Q))) := nr rfl
set_option maxRecDepth 100000 in
theorem v87_44 (n d : Nat) (L : List (Option mL)) (S : List mV) (M : Mm) (Q : mQ) : vc (n + 1) d 87 44 L S M Q = (pAs 1 S fun as S => pA S fun a S => shO M a 0 (stk S ≤ 8 ∧ XC d 23 (.inr (some a) :: as) M (fun r M => ∃ x : Int32, r = some (.inl x) ∧ X d 87 47 L (.inl x :: S) M Q))) := nr rfl
set_option maxRecDepth 100000 in
theorem v87_47 (n d : Nat) (L : List (Option mL)) (S : List mV) (M : Mm) (Q : mQ) : vc (n + 1) d 87 47 L S M Q = (pI S fun x S => sL L 5 (some (.inl x)) fun L => vc n d 87 49 L S M Q) := nr rfl
set_option maxRecDepth 100000 in
theorem v87_49 (n d : Nat) (L : List (Option mL)) (S : List mV) (M : Mm) (Q : mQ) : vc (n + 1) d 87 49 L S M Q = (gR L 0 fun x => vc n d 87 50 L (.inr (.inr x) :: S) M Q) := nr rfl
set_option maxRecDepth 100000 in
theorem v87_50 (n d : Nat) (L : List (Option mL)) (S : List mV) (M : Mm) (Q : mQ) : vc (n + 1) d 87 50 L S M Q = (pA S fun a S => shO M a 0 (rrf M a 4 fun r => vc n d 87 53 L (.inr (.inr r) :: S) M Q)) := nr rfl
set_option maxRecDepth 100000 in
theorem v87_53 (n d : Nat) (L : List (Option mL)) (S : List mV) (M : Mm) (Q : mQ) : vc (n + 1) d 87 53 L S M Q = (gI L 5 fun x => vc n d 87 55 L (.inl x :: S) M Q) := nr rfl
set_option maxRecDepth 100000 in
theorem v87_55 (n d : Nat) (L : List (Option mL)) (S : List mV) (M : Mm) (Q : mQ) : vc (n + 1) d 87 55 L S M Q = (vc n d 87 56 L (.inl 1 :: S) M Q) := nr rfl
set_option maxRecDepth 100000 in
theorem v87_56 (n d : Nat) (L : List (Option mL)) (S : List mV) (M : Mm) (Q : mQ) : vc (n + 1) d 87 56 L S M Q = (pAs 2 S fun as S => pA S fun a S => shO M a 6 (stk S ≤ 8 ∧ XC d 47 (.inr (some a) :: as) M (fun r M => ∃ x : Int32, r = some (.inl x) ∧ X d 87 59 L (.inl x :: S) M Q))) := nr rfl
set_option maxRecDepth 100000 in
theorem v87_59 (n d : Nat) (L : List (Option mL)) (S : List mV) (M : Mm) (Q : mQ) : vc (n + 1) d 87 59 L S M Q = (vc n d 87 60 L (.inl (-1) :: S) M Q) := nr rfl
set_option maxRecDepth 100000 in
theorem v87_60 (n d : Nat) (L : List (Option mL)) (S : List mV) (M : Mm) (Q : mQ) : vc (n + 1) d 87 60 L S M Q = (pI S fun y S => pI S fun x S => (¬ x = y → vc n d 87 65 L S M Q) ∧ (¬ (¬ x = y) → vc n d 87 63 L S M Q)) := nr rfl
set_option maxRecDepth 100000 in
theorem v87_63 (n d : Nat) (L : List (Option mL)) (S : List mV) (M : Mm) (Q : mQ) : vc (n + 1) d 87 63 L S M Q = (vc n d 87 64 L (.inl (-1) :: S) M Q) := nr rfl
set_option maxRecDepth 100000 in
theorem v87_64 (n d : Nat) (L : List (Option mL)) (S : List mV) (M : Mm) (Q : mQ) : vc (n + 1) d 87 64 L S M Q = (pI S fun x S => S = [] ∧ (0 = 0 ∨ x = 0 ∨ x = 1) ∧ Q (some (.inl x)) M) := nr rfl
set_option maxRecDepth 100000 in
theorem v87_65 (n d : Nat) (L : List (Option mL)) (S : List mV) (M : Mm) (Q : mQ) : vc (n + 1) d 87 65 L S M Q = (gI L 3 fun x => vc n d 87 66 L (.inl x :: S) M Q) := nr rfl
set_option maxRecDepth 100000 in
theorem v87_66 (n d : Nat) (L : List (Option mL)) (S : List mV) (M : Mm) (Q : mQ) : vc (n + 1) d 87 66 L S M Q = (gI L 5 fun x => vc n d 87 68 L (.inl x :: S) M Q) := nr rfl
set_option maxRecDepth 100000 in
theorem v87_68 (n d : Nat) (L : List (Option mL)) (S : List mV) (M : Mm) (Q : mQ) : vc (n + 1) d 87 68 L S M Q = (pI S fun y S => pI S fun x S => vc n d 87 69 L (.inl (x + y) :: S) M Q) := nr rfl
set_option maxRecDepth 100000 in
theorem v87_69 (n d : Nat) (L : List (Option mL)) (S : List mV) (M : Mm) (Q : mQ) : vc (n + 1) d 87 69 L S M Q = (pI S fun x S => sL L 3 (some (.inl x)) fun L => vc n d 87 70 L S M Q) := nr rfl
set_option maxRecDepth 100000 in
theorem v87_70 (n d : Nat) (L : List (Option mL)) (S : List mV) (M : Mm) (Q : mQ) : vc (n + 1) d 87 70 L S M Q = (gI L 4 fun x => sL L 4 (some (.inl (x + 1))) fun L => vc n d 87 73 L S M Q) := nr rfl
set_option maxRecDepth 100000 in
theorem v87_73 (n d : Nat) (L : List (Option mL)) (S : List mV) (M : Mm) (Q : mQ) : vc (n + 1) d 87 73 L S M Q = (X d 87 16 L S M Q) := nr rfl
set_option maxRecDepth 100000 in
theorem v87_76 (n d : Nat) (L : List (Option mL)) (S : List mV) (M : Mm) (Q : mQ) : vc (n + 1) d 87 76 L S M Q = (gI L 2 fun x => vc n d 87 77 L (.inl x :: S) M Q) := nr rfl
set_option maxRecDepth 100000 in
theorem v87_77 (n d : Nat) (L : List (Option mL)) (S : List mV) (M : Mm) (Q : mQ) : vc (n + 1) d 87 77 L S M Q = (pI S fun x S => (x = 0 → vc n d 87 116 L S M Q) ∧ (¬ (x = 0) → vc n d 87 80 L S M Q)) := nr rfl
set_option maxRecDepth 100000 in
theorem v87_80 (n d : Nat) (L : List (Option mL)) (S : List mV) (M : Mm) (Q : mQ) : vc (n + 1) d 87 80 L S M Q = (gR L 0 fun x => vc n d 87 81 L (.inr (.inr x) :: S) M Q) := nr rfl
set_option maxRecDepth 100000 in
theorem v87_81 (n d : Nat) (L : List (Option mL)) (S : List mV) (M : Mm) (Q : mQ) : vc (n + 1) d 87 81 L S M Q = (pA S fun a S => shO M a 0 (rrf M a 5 fun r => vc n d 87 84 L (.inr (.inr r) :: S) M Q)) := nr rfl
set_option maxRecDepth 100000 in
theorem v87_84 (n d : Nat) (L : List (Option mL)) (S : List mV) (M : Mm) (Q : mQ) : vc (n + 1) d 87 84 L S M Q = (pAs 0 S fun as S => pA S fun a S => shO M a 5 (stk S ≤ 8 ∧ XC d 66 (.inr (some a) :: as) M (fun r M => ∃ x : Int32, r = some (.inl x) ∧ X d 87 87 L (.inl x :: S) M Q))) := nr rfl
set_option maxRecDepth 100000 in
theorem v87_87 (n d : Nat) (L : List (Option mL)) (S : List mV) (M : Mm) (Q : mQ) : vc (n + 1) d 87 87 L S M Q = (pAs 1 S fun as S => stk S ≤ 8 ∧ XC d 67 as M (fun r M => ∃ x : Int32, r = some (.inl x) ∧ X d 87 90 L (.inl x :: S) M Q)) := nr rfl
set_option maxRecDepth 100000 in
theorem v87_90 (n d : Nat) (L : List (Option mL)) (S : List mV) (M : Mm) (Q : mQ) : vc (n + 1) d 87 90 L S M Q = (pAs 1 S fun as S => stk S ≤ 8 ∧ XC d 29 as M (fun r M => ∃ x : Int32, r = some (.inl x) ∧ X d 87 93 L (.inl x :: S) M Q)) := nr rfl
set_option maxRecDepth 100000 in
theorem v87_93 (n d : Nat) (L : List (Option mL)) (S : List mV) (M : Mm) (Q : mQ) : vc (n + 1) d 87 93 L S M Q = (pI S fun x S => sL L 4 (some (.inl x)) fun L => vc n d 87 95 L S M Q) := nr rfl
set_option maxRecDepth 100000 in
theorem v87_95 (n d : Nat) (L : List (Option mL)) (S : List mV) (M : Mm) (Q : mQ) : vc (n + 1) d 87 95 L S M Q = (gR L 0 fun x => vc n d 87 96 L (.inr (.inr x) :: S) M Q) := nr rfl
set_option maxRecDepth 100000 in
theorem v87_96 (n d : Nat) (L : List (Option mL)) (S : List mV) (M : Mm) (Q : mQ) : vc (n + 1) d 87 96 L S M Q = (pA S fun a S => shO M a 0 (rrf M a 4 fun r => vc n d 87 99 L (.inr (.inr r) :: S) M Q)) := nr rfl
set_option maxRecDepth 100000 in
theorem v87_99 (n d : Nat) (L : List (Option mL)) (S : List mV) (M : Mm) (Q : mQ) : vc (n + 1) d 87 99 L S M Q = (gI L 4 fun x => vc n d 87 101 L (.inl x :: S) M Q) := nr rfl
set_option maxRecDepth 100000 in
theorem v87_101 (n d : Nat) (L : List (Option mL)) (S : List mV) (M : Mm) (Q : mQ) : vc (n + 1) d 87 101 L S M Q = (vc n d 87 102 L (.inl 1 :: S) M Q) := nr rfl
set_option maxRecDepth 100000 in
theorem v87_102 (n d : Nat) (L : List (Option mL)) (S : List mV) (M : Mm) (Q : mQ) : vc (n + 1) d 87 102 L S M Q = (pAs 2 S fun as S => pA S fun a S => shO M a 6 (stk S ≤ 8 ∧ XC d 47 (.inr (some a) :: as) M (fun r M => ∃ x : Int32, r = some (.inl x) ∧ X d 87 105 L (.inl x :: S) M Q))) := nr rfl
set_option maxRecDepth 100000 in
theorem v87_105 (n d : Nat) (L : List (Option mL)) (S : List mV) (M : Mm) (Q : mQ) : vc (n + 1) d 87 105 L S M Q = (vc n d 87 106 L (.inl (-1) :: S) M Q) := nr rfl
set_option maxRecDepth 100000 in
theorem v87_106 (n d : Nat) (L : List (Option mL)) (S : List mV) (M : Mm) (Q : mQ) : vc (n + 1) d 87 106 L S M Q = (pI S fun y S => pI S fun x S => (¬ x = y → vc n d 87 111 L S M Q) ∧ (¬ (¬ x = y) → vc n d 87 109 L S M Q)) := nr rfl
set_option maxRecDepth 100000 in
theorem v87_109 (n d : Nat) (L : List (Option mL)) (S : List mV) (M : Mm) (Q : mQ) : vc (n + 1) d 87 109 L S M Q = (vc n d 87 110 L (.inl (-1) :: S) M Q) := nr rfl
set_option maxRecDepth 100000 in
theorem v87_110 (n d : Nat) (L : List (Option mL)) (S : List mV) (M : Mm) (Q : mQ) : vc (n + 1) d 87 110 L S M Q = (pI S fun x S => S = [] ∧ (0 = 0 ∨ x = 0 ∨ x = 1) ∧ Q (some (.inl x)) M) := nr rfl
set_option maxRecDepth 100000 in
theorem v87_111 (n d : Nat) (L : List (Option mL)) (S : List mV) (M : Mm) (Q : mQ) : vc (n + 1) d 87 111 L S M Q = (gI L 3 fun x => vc n d 87 112 L (.inl x :: S) M Q) := nr rfl
set_option maxRecDepth 100000 in
theorem v87_112 (n d : Nat) (L : List (Option mL)) (S : List mV) (M : Mm) (Q : mQ) : vc (n + 1) d 87 112 L S M Q = (gI L 4 fun x => vc n d 87 114 L (.inl x :: S) M Q) := nr rfl
set_option maxRecDepth 100000 in
theorem v87_114 (n d : Nat) (L : List (Option mL)) (S : List mV) (M : Mm) (Q : mQ) : vc (n + 1) d 87 114 L S M Q = (pI S fun y S => pI S fun x S => vc n d 87 115 L (.inl (x + y) :: S) M Q) := nr rfl
set_option maxRecDepth 100000 in
theorem v87_115 (n d : Nat) (L : List (Option mL)) (S : List mV) (M : Mm) (Q : mQ) : vc (n + 1) d 87 115 L S M Q = (pI S fun x S => sL L 3 (some (.inl x)) fun L => vc n d 87 116 L S M Q) := nr rfl
set_option maxRecDepth 100000 in
theorem v87_116 (n d : Nat) (L : List (Option mL)) (S : List mV) (M : Mm) (Q : mQ) : vc (n + 1) d 87 116 L S M Q = (gI L 3 fun x => vc n d 87 117 L (.inl x :: S) M Q) := nr rfl
set_option maxRecDepth 100000 in
theorem v87_117 (n d : Nat) (L : List (Option mL)) (S : List mV) (M : Mm) (Q : mQ) : vc (n + 1) d 87 117 L S M Q = (pI S fun x S => S = [] ∧ (0 = 0 ∨ x = 0 ∨ x = 1) ∧ Q (some (.inl x)) M) := nr rfl
set_option maxRecDepth 100000 in
theorem v88_0 (n d : Nat) (L : List (Option mL)) (S : List mV) (M : Mm) (Q : mQ) : vc (n + 1) d 88 0 L S M Q = (gR L 0 fun x => vc n d 88 1 L (.inr (.inr x) :: S) M Q) := nr rfl
set_option maxRecDepth 100000 in
theorem v88_1 (n d : Nat) (L : List (Option mL)) (S : List mV) (M : Mm) (Q : mQ) : vc (n + 1) d 88 1 L S M Q = (gR L 0 fun x => vc n d 88 2 L (.inr (.inr x) :: S) M Q) := nr rfl
set_option maxRecDepth 100000 in
theorem v88_2 (n d : Nat) (L : List (Option mL)) (S : List mV) (M : Mm) (Q : mQ) : vc (n + 1) d 88 2 L S M Q = (pA S fun a S => shO M a 0 (rrf M a 5 fun r => vc n d 88 5 L (.inr (.inr r) :: S) M Q)) := nr rfl
set_option maxRecDepth 100000 in
theorem v88_5 (n d : Nat) (L : List (Option mL)) (S : List mV) (M : Mm) (Q : mQ) : vc (n + 1) d 88 5 L S M Q = (gI L 1 fun x => vc n d 88 6 L (.inl x :: S) M Q) := nr rfl
set_option maxRecDepth 100000 in
theorem v88_6 (n d : Nat) (L : List (Option mL)) (S : List mV) (M : Mm) (Q : mQ) : vc (n + 1) d 88 6 L S M Q = (pAs 1 S fun as S => pA S fun a S => shO M a 5 (stk S ≤ 8 ∧ XC d 60 (.inr (some a) :: as) M (fun r M => ∃ x : Int32, r = some (.inl x) ∧ X d 88 9 L (.inl x :: S) M Q))) := nr rfl
set_option maxRecDepth 100000 in
theorem v88_9 (n d : Nat) (L : List (Option mL)) (S : List mV) (M : Mm) (Q : mQ) : vc (n + 1) d 88 9 L S M Q = (gR L 0 fun x => vc n d 88 10 L (.inr (.inr x) :: S) M Q) := nr rfl
set_option maxRecDepth 100000 in
theorem v88_10 (n d : Nat) (L : List (Option mL)) (S : List mV) (M : Mm) (Q : mQ) : vc (n + 1) d 88 10 L S M Q = (pA S fun a S => shO M a 0 (rrf M a 8 fun r => vc n d 88 13 L (.inr (.inr r) :: S) M Q)) := nr rfl
set_option maxRecDepth 100000 in
theorem v88_13 (n d : Nat) (L : List (Option mL)) (S : List mV) (M : Mm) (Q : mQ) : vc (n + 1) d 88 13 L S M Q = (pAs 2 S fun as S => pA S fun a S => shO M a 0 (stk S ≤ 8 ∧ XC d 31 (.inr (some a) :: as) M (fun r M => r = none ∧ X d 88 16 L S M Q))) := nr rfl
set_option maxRecDepth 100000 in
theorem v88_16 (n d : Nat) (L : List (Option mL)) (S : List mV) (M : Mm) (Q : mQ) : vc (n + 1) d 88 16 L S M Q = (gR L 0 fun x => vc n d 88 17 L (.inr (.inr x) :: S) M Q) := nr rfl
set_option maxRecDepth 100000 in
theorem v88_17 (n d : Nat) (L : List (Option mL)) (S : List mV) (M : Mm) (Q : mQ) : vc (n + 1) d 88 17 L S M Q = (pA S fun a S => shO M a 0 (rrf M a 5 fun r => vc n d 88 20 L (.inr (.inr r) :: S) M Q)) := nr rfl
set_option maxRecDepth 100000 in
theorem v88_20 (n d : Nat) (L : List (Option mL)) (S : List mV) (M : Mm) (Q : mQ) : vc (n + 1) d 88 20 L S M Q = (pA S fun a S => shO M a 5 (rrf M a 0 fun r => vc n d 88 23 L (.inr (.inr r) :: S) M Q)) := nr rfl
set_option maxRecDepth 100000 in
theorem v88_23 (n d : Nat) (L : List (Option mL)) (S : List mV) (M : Mm) (Q : mQ) : vc (n + 1) d 88 23 L S M Q = (gI L 1 fun x => vc n d 88 24 L (.inl x :: S) M Q) := nr rfl
set_option maxRecDepth 100000 in
theorem v88_24 (n d : Nat) (L : List (Option mL)) (S : List mV) (M : Mm) (Q : mQ) : vc (n + 1) d 88 24 L S M Q = (gR L 0 fun x => vc n d 88 25 L (.inr (.inr x) :: S) M Q) := nr rfl
set_option maxRecDepth 100000 in
theorem v88_25 (n d : Nat) (L : List (Option mL)) (S : List mV) (M : Mm) (Q : mQ) : vc (n + 1) d 88 25 L S M Q = (vc n d 88 26 L (.inl 1 :: S) M Q) := nr rfl
set_option maxRecDepth 100000 in
theorem v88_26 (n d : Nat) (L : List (Option mL)) (S : List mV) (M : Mm) (Q : mQ) : vc (n + 1) d 88 26 L S M Q = (gI L 1 fun x => vc n d 88 27 L (.inl x :: S) M Q) := nr rfl
set_option maxRecDepth 100000 in
theorem v88_27 (n d : Nat) (L : List (Option mL)) (S : List mV) (M : Mm) (Q : mQ) : vc (n + 1) d 88 27 L S M Q = (vc n d 88 28 L (.inl 1 :: S) M Q) := nr rfl
set_option maxRecDepth 100000 in
theorem v88_28 (n d : Nat) (L : List (Option mL)) (S : List mV) (M : Mm) (Q : mQ) : vc (n + 1) d 88 28 L S M Q = (pAs 3 S fun as S => pA S fun a S => shO M a 0 (stk S ≤ 8 ∧ XC d 52 (.inr (some a) :: as) M (fun r M => ∃ x : Int32, r = some (.inl x) ∧ X d 88 31 L (.inl x :: S) M Q))) := nr rfl
set_option maxRecDepth 100000 in
theorem v88_31 (n d : Nat) (L : List (Option mL)) (S : List mV) (M : Mm) (Q : mQ) : vc (n + 1) d 88 31 L S M Q = (pAs 2 S fun as S => pA S fun a S => shO M a 4 (stk S ≤ 8 ∧ XC d 38 (.inr (some a) :: as) M (fun r M => r = none ∧ X d 88 34 L S M Q))) := nr rfl
set_option maxRecDepth 100000 in
theorem v88_34 (n d : Nat) (L : List (Option mL)) (S : List mV) (M : Mm) (Q : mQ) : vc (n + 1) d 88 34 L S M Q = (S = [] ∧ Q none M) := nr rfl
set_option maxRecDepth 100000 in
theorem v89_0 (n d : Nat) (L : List (Option mL)) (S : List mV) (M : Mm) (Q : mQ) : vc (n + 1) d 89 0 L S M Q = (gI L 1 fun x => vc n d 89 1 L (.inl x :: S) M Q) := nr rfl
set_option maxRecDepth 100000 in
theorem v89_1 (n d : Nat) (L : List (Option mL)) (S : List mV) (M : Mm) (Q : mQ) : vc (n + 1) d 89 1 L S M Q = (pAs 1 S fun as S => stk S ≤ 8 ∧ XC d 40 as M (fun r M => ∃ x : Int32, r = some (.inl x) ∧ X d 89 4 L (.inl x :: S) M Q)) := nr rfl
set_option maxRecDepth 100000 in
theorem v89_4 (n d : Nat) (L : List (Option mL)) (S : List mV) (M : Mm) (Q : mQ) : vc (n + 1) d 89 4 L S M Q = (pI S fun x S => (x = 0 → vc n d 89 14 L S M Q) ∧ (¬ (x = 0) → vc n d 89 7 L S M Q)) := nr rfl
set_option maxRecDepth 100000 in
theorem v89_7 (n d : Nat) (L : List (Option mL)) (S : List mV) (M : Mm) (Q : mQ) : vc (n + 1) d 89 7 L S M Q = (gR L 0 fun x => vc n d 89 8 L (.inr (.inr x) :: S) M Q) := nr rfl
set_option maxRecDepth 100000 in
theorem v89_8 (n d : Nat) (L : List (Option mL)) (S : List mV) (M : Mm) (Q : mQ) : vc (n + 1) d 89 8 L S M Q = (pA S fun a S => shO M a 6 (rrf M a 0 fun r => vc n d 89 11 L (.inr (.inr r) :: S) M Q)) := nr rfl
set_option maxRecDepth 100000 in
theorem v89_11 (n d : Nat) (L : List (Option mL)) (S : List mV) (M : Mm) (Q : mQ) : vc (n + 1) d 89 11 L S M Q = (gI L 1 fun x => vc n d 89 12 L (.inl x :: S) M Q) := nr rfl
set_option maxRecDepth 100000 in
theorem v89_12 (n d : Nat) (L : List (Option mL)) (S : List mV) (M : Mm) (Q : mQ) : vc (n + 1) d 89 12 L S M Q = (vc n d 89 13 L (.inl 0 :: S) M Q) := nr rfl
set_option maxRecDepth 100000 in
theorem v89_13 (n d : Nat) (L : List (Option mL)) (S : List mV) (M : Mm) (Q : mQ) : vc (n + 1) d 89 13 L S M Q = (pI S fun x S => pI S fun i S => pA S fun a S => shA M a fun t k => t = 41 ∧ inB i k ∧ vc n d 89 14 L S (M.si a i.toNatClampNeg x) Q) := nr rfl
set_option maxRecDepth 100000 in
theorem v89_14 (n d : Nat) (L : List (Option mL)) (S : List mV) (M : Mm) (Q : mQ) : vc (n + 1) d 89 14 L S M Q = (S = [] ∧ Q none M) := nr rfl
set_option maxRecDepth 100000 in
theorem v90_0 (n d : Nat) (L : List (Option mL)) (S : List mV) (M : Mm) (Q : mQ) : vc (n + 1) d 90 0 L S M Q = (gI L 1 fun x => vc n d 90 1 L (.inl x :: S) M Q) := nr rfl
set_option maxRecDepth 100000 in
theorem v90_1 (n d : Nat) (L : List (Option mL)) (S : List mV) (M : Mm) (Q : mQ) : vc (n + 1) d 90 1 L S M Q = (vc n d 90 2 L (.inl 1 :: S) M Q) := nr rfl
set_option maxRecDepth 100000 in
theorem v90_2 (n d : Nat) (L : List (Option mL)) (S : List mV) (M : Mm) (Q : mQ) : vc (n + 1) d 90 2 L S M Q = (pI S fun y S => pI S fun x S => (x < y → vc n d 90 22 L S M Q) ∧ (¬ (x < y) → vc n d 90 5 L S M Q)) := nr rfl
set_option maxRecDepth 100000 in
theorem v90_5 (n d : Nat) (L : List (Option mL)) (S : List mV) (M : Mm) (Q : mQ) : vc (n + 1) d 90 5 L S M Q = (gI L 1 fun x => vc n d 90 6 L (.inl x :: S) M Q) := nr rfl
set_option maxRecDepth 100000 in
theorem v90_6 (n d : Nat) (L : List (Option mL)) (S : List mV) (M : Mm) (Q : mQ) : vc (n + 1) d 90 6 L S M Q = (gR L 0 fun x => vc n d 90 7 L (.inr (.inr x) :: S) M Q) := nr rfl
set_option maxRecDepth 100000 in
theorem v90_7 (n d : Nat) (L : List (Option mL)) (S : List mV) (M : Mm) (Q : mQ) : vc (n + 1) d 90 7 L S M Q = (pA S fun a S => shO M a 0 (vc n d 90 10 L (.inl (M.it a 17) :: S) M Q)) := nr rfl
set_option maxRecDepth 100000 in
theorem v90_10 (n d : Nat) (L : List (Option mL)) (S : List mV) (M : Mm) (Q : mQ) : vc (n + 1) d 90 10 L S M Q = (pI S fun y S => pI S fun x S => (y < x → vc n d 90 22 L S M Q) ∧ (¬ (y < x) → vc n d 90 13 L S M Q)) := nr rfl
set_option maxRecDepth 100000 in
theorem v90_13 (n d : Nat) (L : List (Option mL)) (S : List mV) (M : Mm) (Q : mQ) : vc (n + 1) d 90 13 L S M Q = (gI L 1 fun x => vc n d 90 14 L (.inl x :: S) M Q) := nr rfl
set_option maxRecDepth 100000 in
theorem v90_14 (n d : Nat) (L : List (Option mL)) (S : List mV) (M : Mm) (Q : mQ) : vc (n + 1) d 90 14 L S M Q = (gR L 0 fun x => vc n d 90 15 L (.inr (.inr x) :: S) M Q) := nr rfl
set_option maxRecDepth 100000 in
theorem v90_15 (n d : Nat) (L : List (Option mL)) (S : List mV) (M : Mm) (Q : mQ) : vc (n + 1) d 90 15 L S M Q = (pA S fun a S => shO M a 0 (rrf M a 13 fun r => vc n d 90 18 L (.inr (.inr r) :: S) M Q)) := nr rfl
set_option maxRecDepth 100000 in
theorem v90_18 (n d : Nat) (L : List (Option mL)) (S : List mV) (M : Mm) (Q : mQ) : vc (n + 1) d 90 18 L S M Q = (pA S fun a S => shA M a fun t k => aTyB t = true ∧ vc n d 90 19 L (.inl (nI k) :: S) M Q) := nr rfl
set_option maxRecDepth 100000 in
theorem v90_19 (n d : Nat) (L : List (Option mL)) (S : List mV) (M : Mm) (Q : mQ) : vc (n + 1) d 90 19 L S M Q = (pI S fun y S => pI S fun x S => (x < y → vc n d 90 24 L S M Q) ∧ (¬ (x < y) → vc n d 90 22 L S M Q)) := nr rfl
set_option maxRecDepth 100000 in
theorem v90_22 (n d : Nat) (L : List (Option mL)) (S : List mV) (M : Mm) (Q : mQ) : vc (n + 1) d 90 22 L S M Q = (vc n d 90 23 L (.inl (-1) :: S) M Q) := nr rfl
set_option maxRecDepth 100000 in
theorem v90_23 (n d : Nat) (L : List (Option mL)) (S : List mV) (M : Mm) (Q : mQ) : vc (n + 1) d 90 23 L S M Q = (pI S fun x S => S = [] ∧ (0 = 0 ∨ x = 0 ∨ x = 1) ∧ Q (some (.inl x)) M) := nr rfl
set_option maxRecDepth 100000 in
theorem v90_24 (n d : Nat) (L : List (Option mL)) (S : List mV) (M : Mm) (Q : mQ) : vc (n + 1) d 90 24 L S M Q = (gR L 0 fun x => vc n d 90 25 L (.inr (.inr x) :: S) M Q) := nr rfl
set_option maxRecDepth 100000 in
theorem v90_25 (n d : Nat) (L : List (Option mL)) (S : List mV) (M : Mm) (Q : mQ) : vc (n + 1) d 90 25 L S M Q = (pA S fun a S => shO M a 0 (rrf M a 13 fun r => vc n d 90 28 L (.inr (.inr r) :: S) M Q)) := nr rfl
set_option maxRecDepth 100000 in
theorem v90_28 (n d : Nat) (L : List (Option mL)) (S : List mV) (M : Mm) (Q : mQ) : vc (n + 1) d 90 28 L S M Q = (gI L 1 fun x => vc n d 90 29 L (.inl x :: S) M Q) := nr rfl
set_option maxRecDepth 100000 in
theorem v90_29 (n d : Nat) (L : List (Option mL)) (S : List mV) (M : Mm) (Q : mQ) : vc (n + 1) d 90 29 L S M Q = (pI S fun i S => pA S fun a S => shA M a fun t k => (t = 42 ∨ t = 44) ∧ inB i k ∧ vc n d 90 30 L (.inl (M.it a i.toNatClampNeg) :: S) M Q) := nr rfl
set_option maxRecDepth 100000 in
theorem v90_30 (n d : Nat) (L : List (Option mL)) (S : List mV) (M : Mm) (Q : mQ) : vc (n + 1) d 90 30 L S M Q = (pI S fun x S => (x = 0 → vc n d 90 35 L S M Q) ∧ (¬ (x = 0) → vc n d 90 33 L S M Q)) := nr rfl
set_option maxRecDepth 100000 in
theorem v90_33 (n d : Nat) (L : List (Option mL)) (S : List mV) (M : Mm) (Q : mQ) : vc (n + 1) d 90 33 L S M Q = (vc n d 90 34 L (.inl 2 :: S) M Q) := nr rfl
set_option maxRecDepth 100000 in
theorem v90_34 (n d : Nat) (L : List (Option mL)) (S : List mV) (M : Mm) (Q : mQ) : vc (n + 1) d 90 34 L S M Q = (pI S fun x S => S = [] ∧ (0 = 0 ∨ x = 0 ∨ x = 1) ∧ Q (some (.inl x)) M) := nr rfl
set_option maxRecDepth 100000 in
theorem v90_35 (n d : Nat) (L : List (Option mL)) (S : List mV) (M : Mm) (Q : mQ) : vc (n + 1) d 90 35 L S M Q = (gR L 0 fun x => vc n d 90 36 L (.inr (.inr x) :: S) M Q) := nr rfl
set_option maxRecDepth 100000 in
theorem v90_36 (n d : Nat) (L : List (Option mL)) (S : List mV) (M : Mm) (Q : mQ) : vc (n + 1) d 90 36 L S M Q = (pA S fun a S => shO M a 0 (rrf M a 0 fun r => vc n d 90 39 L (.inr (.inr r) :: S) M Q)) := nr rfl
set_option maxRecDepth 100000 in
theorem v90_39 (n d : Nat) (L : List (Option mL)) (S : List mV) (M : Mm) (Q : mQ) : vc (n + 1) d 90 39 L S M Q = (pAs 0 S fun as S => pA S fun a S => shO M a 3 (stk S ≤ 8 ∧ XC d 16 (.inr (some a) :: as) M (fun r M => ∃ x : Option Nat, r = some (.inr (.inr x)) ∧ X d 90 42 L (.inr (.inr x) :: S) M Q))) := nr rfl
set_option maxRecDepth 100000 in
theorem v90_42 (n d : Nat) (L : List (Option mL)) (S : List mV) (M : Mm) (Q : mQ) : vc (n + 1) d 90 42 L S M Q = (pA S fun a S => shO M a 8 (vc n d 90 45 L (.inl (M.it a 1) :: S) M Q)) := nr rfl
set_option maxRecDepth 100000 in
theorem v90_45 (n d : Nat) (L : List (Option mL)) (S : List mV) (M : Mm) (Q : mQ) : vc (n + 1) d 90 45 L S M Q = (gI L 1 fun x => vc n d 90 46 L (.inl x :: S) M Q) := nr rfl
set_option maxRecDepth 100000 in
theorem v90_46 (n d : Nat) (L : List (Option mL)) (S : List mV) (M : Mm) (Q : mQ) : vc (n + 1) d 90 46 L S M Q = (pI S fun y S => pI S fun x S => (x < y → vc n d 90 53 L S M Q) ∧ (¬ (x < y) → vc n d 90 49 L S M Q)) := nr rfl
set_option maxRecDepth 100000 in
theorem v90_49 (n d : Nat) (L : List (Option mL)) (S : List mV) (M : Mm) (Q : mQ) : vc (n + 1) d 90 49 L S M Q = (vc n d 90 50 L (.inl 1 :: S) M Q) := nr rfl
set_option maxRecDepth 100000 in
theorem v90_50 (n d : Nat) (L : List (Option mL)) (S : List mV) (M : Mm) (Q : mQ) : vc (n + 1) d 90 50 L S M Q = (vc n d 90 54 L S M Q) := nr rfl
set_option maxRecDepth 100000 in
theorem v90_53 (n d : Nat) (L : List (Option mL)) (S : List mV) (M : Mm) (Q : mQ) : vc (n + 1) d 90 53 L S M Q = (vc n d 90 54 L (.inl 0 :: S) M Q) := nr rfl
set_option maxRecDepth 100000 in
theorem v90_54 (n d : Nat) (L : List (Option mL)) (S : List mV) (M : Mm) (Q : mQ) : vc (n + 1) d 90 54 L S M Q = (pI S fun x S => S = [] ∧ (0 = 0 ∨ x = 0 ∨ x = 1) ∧ Q (some (.inl x)) M) := nr rfl
set_option maxRecDepth 100000 in
theorem v91_0 (n d : Nat) (L : List (Option mL)) (S : List mV) (M : Mm) (Q : mQ) : vc (n + 1) d 91 0 L S M Q = (gR L 0 fun x => vc n d 91 1 L (.inr (.inr x) :: S) M Q) := nr rfl
set_option maxRecDepth 100000 in
theorem v91_1 (n d : Nat) (L : List (Option mL)) (S : List mV) (M : Mm) (Q : mQ) : vc (n + 1) d 91 1 L S M Q = (gI L 1 fun x => vc n d 91 2 L (.inl x :: S) M Q) := nr rfl
set_option maxRecDepth 100000 in
theorem v91_2 (n d : Nat) (L : List (Option mL)) (S : List mV) (M : Mm) (Q : mQ) : vc (n + 1) d 91 2 L S M Q = (pAs 1 S fun as S => pA S fun a S => shO M a 0 (stk S ≤ 8 ∧ XC d 92 (.inr (some a) :: as) M (fun r M => ∃ x : Int32, r = some (.inl x) ∧ X d 91 5 L (.inl x :: S) M Q))) := nr rfl
set_option maxRecDepth 100000 in
theorem v91_5 (n d : Nat) (L : List (Option mL)) (S : List mV) (M : Mm) (Q : mQ) : vc (n + 1) d 91 5 L S M Q = (pI S fun x S => S = [] ∧ (0 = 0 ∨ x = 0 ∨ x = 1) ∧ Q (some (.inl x)) M) := nr rfl
set_option maxRecDepth 100000 in
theorem v92_0 (n d : Nat) (L : List (Option mL)) (S : List mV) (M : Mm) (Q : mQ) : vc (n + 1) d 92 0 L S M Q = (gR L 0 fun x => vc n d 92 1 L (.inr (.inr x) :: S) M Q) := nr rfl
set_option maxRecDepth 100000 in
theorem v92_1 (n d : Nat) (L : List (Option mL)) (S : List mV) (M : Mm) (Q : mQ) : vc (n + 1) d 92 1 L S M Q = (pA S fun a S => shO M a 0 (rrf M a 1 fun r => vc n d 92 4 L (.inr (.inr r) :: S) M Q)) := nr rfl
set_option maxRecDepth 100000 in
theorem v92_4 (n d : Nat) (L : List (Option mL)) (S : List mV) (M : Mm) (Q : mQ) : vc (n + 1) d 92 4 L S M Q = (gI L 1 fun x => vc n d 92 5 L (.inl x :: S) M Q) := nr rfl
set_option maxRecDepth 100000 in
theorem v92_5 (n d : Nat) (L : List (Option mL)) (S : List mV) (M : Mm) (Q : mQ) : vc (n + 1) d 92 5 L S M Q = (pAs 1 S fun as S => pA S fun a S => shO M a 7 (stk S ≤ 8 ∧ XC d 93 (.inr (some a) :: as) M (fun r M => ∃ x : Int32, r = some (.inl x) ∧ X d 92 8 L (.inl x :: S) M Q))) := nr rfl
set_option maxRecDepth 100000 in
theorem v92_8 (n d : Nat) (L : List (Option mL)) (S : List mV) (M : Mm) (Q : mQ) : vc (n + 1) d 92 8 L S M Q = (pI S fun x S => sL L 2 (some (.inl x)) fun L => vc n d 92 9 L S M Q) := nr rfl
set_option maxRecDepth 100000 in
theorem v92_9 (n d : Nat) (L : List (Option mL)) (S : List mV) (M : Mm) (Q : mQ) : vc (n + 1) d 92 9 L S M Q = (gR L 0 fun x => vc n d 92 10 L (.inr (.inr x) :: S) M Q) := nr rfl
set_option maxRecDepth 100000 in
theorem v92_10 (n d : Nat) (L : List (Option mL)) (S : List mV) (M : Mm) (Q : mQ) : vc (n + 1) d 92 10 L S M Q = (pA S fun a S => shO M a 0 (rrf M a 1 fun r => vc n d 92 13 L (.inr (.inr r) :: S) M Q)) := nr rfl
set_option maxRecDepth 100000 in
theorem v92_13 (n d : Nat) (L : List (Option mL)) (S : List mV) (M : Mm) (Q : mQ) : vc (n + 1) d 92 13 L S M Q = (gI L 2 fun x => vc n d 92 14 L (.inl x :: S) M Q) := nr rfl
set_option maxRecDepth 100000 in
theorem v92_14 (n d : Nat) (L : List (Option mL)) (S : List mV) (M : Mm) (Q : mQ) : vc (n + 1) d 92 14 L S M Q = (pAs 1 S fun as S => pA S fun a S => shO M a 7 (stk S ≤ 8 ∧ XC d 74 (.inr (some a) :: as) M (fun r M => ∃ x : Option Nat, r = some (.inr (.inr x)) ∧ X d 92 17 L (.inr (.inr x) :: S) M Q))) := nr rfl
set_option maxRecDepth 100000 in
theorem v92_17 (n d : Nat) (L : List (Option mL)) (S : List mV) (M : Mm) (Q : mQ) : vc (n + 1) d 92 17 L S M Q = (pR S fun x S => sL L 3 (some (.inr x)) fun L => vc n d 92 18 L S M Q) := nr rfl
set_option maxRecDepth 100000 in
theorem v92_18 (n d : Nat) (L : List (Option mL)) (S : List mV) (M : Mm) (Q : mQ) : vc (n + 1) d 92 18 L S M Q = (gR L 3 fun x => vc n d 92 19 L (.inr (.inr x) :: S) M Q) := nr rfl
set_option maxRecDepth 100000 in
theorem v92_19 (n d : Nat) (L : List (Option mL)) (S : List mV) (M : Mm) (Q : mQ) : vc (n + 1) d 92 19 L S M Q = (pR S fun x S => (x = none → vc n d 92 22 L S M Q) ∧ (¬ (x = none) → vc n d 92 24 L S M Q)) := nr rfl
set_option maxRecDepth 100000 in
theorem v92_22 (n d : Nat) (L : List (Option mL)) (S : List mV) (M : Mm) (Q : mQ) : vc (n + 1) d 92 22 L S M Q = (vc n d 92 23 L (.inl (-1) :: S) M Q) := nr rfl
set_option maxRecDepth 100000 in
theorem v92_23 (n d : Nat) (L : List (Option mL)) (S : List mV) (M : Mm) (Q : mQ) : vc (n + 1) d 92 23 L S M Q = (pI S fun x S => S = [] ∧ (0 = 0 ∨ x = 0 ∨ x = 1) ∧ Q (some (.inl x)) M) := nr rfl
set_option maxRecDepth 100000 in
theorem v92_24 (n d : Nat) (L : List (Option mL)) (S : List mV) (M : Mm) (Q : mQ) : vc (n + 1) d 92 24 L S M Q = (gR L 0 fun x => vc n d 92 25 L (.inr (.inr x) :: S) M Q) := nr rfl
set_option maxRecDepth 100000 in
theorem v92_25 (n d : Nat) (L : List (Option mL)) (S : List mV) (M : Mm) (Q : mQ) : vc (n + 1) d 92 25 L S M Q = (pA S fun a S => shO M a 0 (rrf M a 0 fun r => vc n d 92 28 L (.inr (.inr r) :: S) M Q)) := nr rfl
set_option maxRecDepth 100000 in
theorem v92_28 (n d : Nat) (L : List (Option mL)) (S : List mV) (M : Mm) (Q : mQ) : vc (n + 1) d 92 28 L S M Q = (gR L 3 fun x => vc n d 92 29 L (.inr (.inr x) :: S) M Q) := nr rfl
set_option maxRecDepth 100000 in
theorem v92_29 (n d : Nat) (L : List (Option mL)) (S : List mV) (M : Mm) (Q : mQ) : vc (n + 1) d 92 29 L S M Q = (pAs 1 S fun as S => pA S fun a S => shO M a 3 (stk S ≤ 8 ∧ XC d 96 (.inr (some a) :: as) M (fun r M => r = none ∧ X d 92 32 L S M Q))) := nr rfl
set_option maxRecDepth 100000 in
theorem v92_32 (n d : Nat) (L : List (Option mL)) (S : List mV) (M : Mm) (Q : mQ) : vc (n + 1) d 92 32 L S M Q = (gR L 0 fun x => vc n d 92 33 L (.inr (.inr x) :: S) M Q) := nr rfl
set_option maxRecDepth 100000 in
theorem v92_33 (n d : Nat) (L : List (Option mL)) (S : List mV) (M : Mm) (Q : mQ) : vc (n + 1) d 92 33 L S M Q = (pA S fun a S => shO M a 0 (rrf M a 1 fun r => vc n d 92 36 L (.inr (.inr r) :: S) M Q)) := nr rfl
set_option maxRecDepth 100000 in
theorem v92_36 (n d : Nat) (L : List (Option mL)) (S : List mV) (M : Mm) (Q : mQ) : vc (n + 1) d 92 36 L S M Q = (gI L 2 fun x => vc n d 92 37 L (.inl x :: S) M Q) := nr rfl
set_option maxRecDepth 100000 in
theorem v92_37 (n d : Nat) (L : List (Option mL)) (S : List mV) (M : Mm) (Q : mQ) : vc (n + 1) d 92 37 L S M Q = (pAs 1 S fun as S => pA S fun a S => shO M a 7 (stk S ≤ 8 ∧ XC d 97 (.inr (some a) :: as) M (fun r M => r = none ∧ X d 92 40 L S M Q))) := nr rfl
set_option maxRecDepth 100000 in
theorem v92_40 (n d : Nat) (L : List (Option mL)) (S : List mV) (M : Mm) (Q : mQ) : vc (n + 1) d 92 40 L S M Q = (gR L 3 fun x => vc n d 92 41 L (.inr (.inr x) :: S) M Q) := nr rfl
set_option maxRecDepth 100000 in
theorem v92_41 (n d : Nat) (L : List (Option mL)) (S : List mV) (M : Mm) (Q : mQ) : vc (n + 1) d 92 41 L S M Q = (pA S fun a S => shO M a 9 (vc n d 92 44 L (.inl (M.it a 2) :: S) M Q)) := nr rfl
set_option maxRecDepth 100000 in
theorem v92_44 (n d : Nat) (L : List (Option mL)) (S : List mV) (M : Mm) (Q : mQ) : vc (n + 1) d 92 44 L S M Q = (pI S fun x S => S = [] ∧ (0 = 0 ∨ x = 0 ∨ x = 1) ∧ Q (some (.inl x)) M) := nr rfl
set_option maxRecDepth 100000 in
theorem v93_0 (n d : Nat) (L : List (Option mL)) (S : List mV) (M : Mm) (Q : mQ) : vc (n + 1) d 93 0 L S M Q = (vc n d 93 1 L (.inl 0 :: S) M Q) := nr rfl
set_option maxRecDepth 100000 in
theorem v93_1 (n d : Nat) (L : List (Option mL)) (S : List mV) (M : Mm) (Q : mQ) : vc (n + 1) d 93 1 L S M Q = (pI S fun x S => sL L 2 (some (.inl x)) fun L => vc n d 93 2 L S M Q) := nr rfl
set_option maxRecDepth 100000 in
theorem v93_2 (n d : Nat) (L : List (Option mL)) (S : List mV) (M : Mm) (Q : mQ) : vc (n + 1) d 93 2 L S M Q = (vc n d 93 3 L (.inl 0 :: S) M Q) := nr rfl
set_option maxRecDepth 100000 in
theorem v93_3 (n d : Nat) (L : List (Option mL)) (S : List mV) (M : Mm) (Q : mQ) : vc (n + 1) d 93 3 L S M Q = (pI S fun x S => sL L 3 (some (.inl x)) fun L => X d 93 4 L S M Q) := nr rfl
set_option maxRecDepth 100000 in
theorem v93_4 (n d : Nat) (L : List (Option mL)) (S : List mV) (M : Mm) (Q : mQ) : vc (n + 1) d 93 4 L S M Q = (gI L 3 fun x => vc n d 93 5 L (.inl x :: S) M Q) := nr rfl
set_option maxRecDepth 100000 in
theorem v93_5 (n d : Nat) (L : List (Option mL)) (S : List mV) (M : Mm) (Q : mQ) : vc (n + 1) d 93 5 L S M Q = (gR L 0 fun x => vc n d 93 6 L (.inr (.inr x) :: S) M Q) := nr rfl
set_option maxRecDepth 100000 in
theorem v93_6 (n d : Nat) (L : List (Option mL)) (S : List mV) (M : Mm) (Q : mQ) : vc (n + 1) d 93 6 L S M Q = (pA S fun a S => shO M a 7 (vc n d 93 9 L (.inl (M.it a 1) :: S) M Q)) := nr rfl
set_option maxRecDepth 100000 in
theorem v93_9 (n d : Nat) (L : List (Option mL)) (S : List mV) (M : Mm) (Q : mQ) : vc (n + 1) d 93 9 L S M Q = (pI S fun y S => pI S fun x S => (y ≤ x → vc n d 93 40 L S M Q) ∧ (¬ (y ≤ x) → vc n d 93 12 L S M Q)) := nr rfl
set_option maxRecDepth 100000 in
theorem v93_12 (n d : Nat) (L : List (Option mL)) (S : List mV) (M : Mm) (Q : mQ) : vc (n + 1) d 93 12 L S M Q = (gR L 0 fun x => vc n d 93 13 L (.inr (.inr x) :: S) M Q) := nr rfl
set_option maxRecDepth 100000 in
theorem v93_13 (n d : Nat) (L : List (Option mL)) (S : List mV) (M : Mm) (Q : mQ) : vc (n + 1) d 93 13 L S M Q = (pA S fun a S => shO M a 7 (rrf M a 0 fun r => vc n d 93 16 L (.inr (.inr r) :: S) M Q)) := nr rfl
set_option maxRecDepth 100000 in
theorem v93_16 (n d : Nat) (L : List (Option mL)) (S : List mV) (M : Mm) (Q : mQ) : vc (n + 1) d 93 16 L S M Q = (gI L 3 fun x => vc n d 93 17 L (.inl x :: S) M Q) := nr rfl
set_option maxRecDepth 100000 in
theorem v93_17 (n d : Nat) (L : List (Option mL)) (S : List mV) (M : Mm) (Q : mQ) : vc (n + 1) d 93 17 L S M Q = (pI S fun i S => pA S fun a S => shA M a fun t k => rTyB t = true ∧ inB i k ∧ rrf M a i.toNatClampNeg fun r => vc n d 93 18 L (.inr (.inr r) :: S) M Q) := nr rfl
set_option maxRecDepth 100000 in
theorem v93_18 (n d : Nat) (L : List (Option mL)) (S : List mV) (M : Mm) (Q : mQ) : vc (n + 1) d 93 18 L S M Q = (pAs 0 S fun as S => pA S fun a S => shO M a 9 (stk S ≤ 8 ∧ XC d 94 (.inr (some a) :: as) M (fun r M => ∃ x : Int32, r = some (.inl x) ∧ X d 93 21 L (.inl x :: S) M Q))) := nr rfl
set_option maxRecDepth 100000 in
theorem v93_21 (n d : Nat) (L : List (Option mL)) (S : List mV) (M : Mm) (Q : mQ) : vc (n + 1) d 93 21 L S M Q = (pI S fun x S => (¬ x = 0 → vc n d 93 34 L S M Q) ∧ (¬ (¬ x = 0) → vc n d 93 24 L S M Q)) := nr rfl
set_option maxRecDepth 100000 in
theorem v93_24 (n d : Nat) (L : List (Option mL)) (S : List mV) (M : Mm) (Q : mQ) : vc (n + 1) d 93 24 L S M Q = (gI L 2 fun x => vc n d 93 25 L (.inl x :: S) M Q) := nr rfl
set_option maxRecDepth 100000 in
theorem v93_25 (n d : Nat) (L : List (Option mL)) (S : List mV) (M : Mm) (Q : mQ) : vc (n + 1) d 93 25 L S M Q = (gI L 1 fun x => vc n d 93 26 L (.inl x :: S) M Q) := nr rfl
set_option maxRecDepth 100000 in
theorem v93_26 (n d : Nat) (L : List (Option mL)) (S : List mV) (M : Mm) (Q : mQ) : vc (n + 1) d 93 26 L S M Q = (pI S fun y S => pI S fun x S => (¬ x = y → vc n d 93 31 L S M Q) ∧ (¬ (¬ x = y) → vc n d 93 29 L S M Q)) := nr rfl
set_option maxRecDepth 100000 in
theorem v93_29 (n d : Nat) (L : List (Option mL)) (S : List mV) (M : Mm) (Q : mQ) : vc (n + 1) d 93 29 L S M Q = (gI L 3 fun x => vc n d 93 30 L (.inl x :: S) M Q) := nr rfl
set_option maxRecDepth 100000 in
theorem v93_30 (n d : Nat) (L : List (Option mL)) (S : List mV) (M : Mm) (Q : mQ) : vc (n + 1) d 93 30 L S M Q = (pI S fun x S => S = [] ∧ (0 = 0 ∨ x = 0 ∨ x = 1) ∧ Q (some (.inl x)) M) := nr rfl
set_option maxRecDepth 100000 in
theorem v93_31 (n d : Nat) (L : List (Option mL)) (S : List mV) (M : Mm) (Q : mQ) : vc (n + 1) d 93 31 L S M Q = (gI L 2 fun x => sL L 2 (some (.inl (x + 1))) fun L => vc n d 93 34 L S M Q) := nr rfl
set_option maxRecDepth 100000 in
theorem v93_34 (n d : Nat) (L : List (Option mL)) (S : List mV) (M : Mm) (Q : mQ) : vc (n + 1) d 93 34 L S M Q = (gI L 3 fun x => sL L 3 (some (.inl (x + 1))) fun L => vc n d 93 37 L S M Q) := nr rfl
set_option maxRecDepth 100000 in
theorem v93_37 (n d : Nat) (L : List (Option mL)) (S : List mV) (M : Mm) (Q : mQ) : vc (n + 1) d 93 37 L S M Q = (X d 93 4 L S M Q) := nr rfl
set_option maxRecDepth 100000 in
theorem v93_40 (n d : Nat) (L : List (Option mL)) (S : List mV) (M : Mm) (Q : mQ) : vc (n + 1) d 93 40 L S M Q = (vc n d 93 41 L (.inl (-1) :: S) M Q) := nr rfl
set_option maxRecDepth 100000 in
theorem v93_41 (n d : Nat) (L : List (Option mL)) (S : List mV) (M : Mm) (Q : mQ) : vc (n + 1) d 93 41 L S M Q = (pI S fun x S => S = [] ∧ (0 = 0 ∨ x = 0 ∨ x = 1) ∧ Q (some (.inl x)) M) := nr rfl
set_option maxRecDepth 100000 in
theorem v94_0 (n d : Nat) (L : List (Option mL)) (S : List mV) (M : Mm) (Q : mQ) : vc (n + 1) d 94 0 L S M Q = (gR L 0 fun x => vc n d 94 1 L (.inr (.inr x) :: S) M Q) := nr rfl
set_option maxRecDepth 100000 in
theorem v94_1 (n d : Nat) (L : List (Option mL)) (S : List mV) (M : Mm) (Q : mQ) : vc (n + 1) d 94 1 L S M Q = (pA S fun a S => shO M a 9 (vc n d 94 4 L (.inr (.inl (M.lg a 5)) :: S) M Q)) := nr rfl
set_option maxRecDepth 100000 in
theorem v94_4 (n d : Nat) (L : List (Option mL)) (S : List mV) (M : Mm) (Q : mQ) : vc (n + 1) d 94 4 L S M Q = (pL S fun x S => 0 < d ∧ stk S ≤ 8 ∧ vc n d 94 7 L (.inl (bcl x) :: S) M Q) := nr rfl
set_option maxRecDepth 100000 in
theorem v94_7 (n d : Nat) (L : List (Option mL)) (S : List mV) (M : Mm) (Q : mQ) : vc (n + 1) d 94 7 L S M Q = (gR L 0 fun x => vc n d 94 8 L (.inr (.inr x) :: S) M Q) := nr rfl
set_option maxRecDepth 100000 in
theorem v94_8 (n d : Nat) (L : List (Option mL)) (S : List mV) (M : Mm) (Q : mQ) : vc (n + 1) d 94 8 L S M Q = (pA S fun a S => shO M a 9 (vc n d 94 11 L (.inr (.inl (M.lg a 6)) :: S) M Q)) := nr rfl
set_option maxRecDepth 100000 in
theorem v94_11 (n d : Nat) (L : List (Option mL)) (S : List mV) (M : Mm) (Q : mQ) : vc (n + 1) d 94 11 L S M Q = (pL S fun x S => 0 < d ∧ stk S ≤ 8 ∧ vc n d 94 14 L (.inl (bcl x) :: S) M Q) := nr rfl
set_option maxRecDepth 100000 in
theorem v94_14 (n d : Nat) (L : List (Option mL)) (S : List mV) (M : Mm) (Q : mQ) : vc (n + 1) d 94 14 L S M Q = (pI S fun y S => pI S fun x S => vc n d 94 15 L (.inl (x + y) :: S) M Q) := nr rfl
set_option maxRecDepth 100000 in
theorem v94_15 (n d : Nat) (L : List (Option mL)) (S : List mV) (M : Mm) (Q : mQ) : vc (n + 1) d 94 15 L S M Q = (pI S fun x S => S = [] ∧ (0 = 0 ∨ x = 0 ∨ x = 1) ∧ Q (some (.inl x)) M) := nr rfl
set_option maxRecDepth 100000 in
theorem v96_0 (n d : Nat) (L : List (Option mL)) (S : List mV) (M : Mm) (Q : mQ) : vc (n + 1) d 96 0 L S M Q = (gR L 1 fun x => vc n d 96 1 L (.inr (.inr x) :: S) M Q) := nr rfl
set_option maxRecDepth 100000 in
theorem v96_1 (n d : Nat) (L : List (Option mL)) (S : List mV) (M : Mm) (Q : mQ) : vc (n + 1) d 96 1 L S M Q = (pA S fun a S => shO M a 9 (rrf M a 4 fun r => vc n d 96 4 L (.inr (.inr r) :: S) M Q)) := nr rfl
set_option maxRecDepth 100000 in
theorem v96_4 (n d : Nat) (L : List (Option mL)) (S : List mV) (M : Mm) (Q : mQ) : vc (n + 1) d 96 4 L S M Q = (pR S fun x S => (x = none → vc n d 96 26 L S M Q) ∧ (¬ (x = none) → vc n d 96 7 L S M Q)) := nr rfl
set_option maxRecDepth 100000 in
theorem v96_7 (n d : Nat) (L : List (Option mL)) (S : List mV) (M : Mm) (Q : mQ) : vc (n + 1) d 96 7 L S M Q = (gR L 0 fun x => vc n d 96 8 L (.inr (.inr x) :: S) M Q) := nr rfl
set_option maxRecDepth 100000 in
theorem v96_8 (n d : Nat) (L : List (Option mL)) (S : List mV) (M : Mm) (Q : mQ) : vc (n + 1) d 96 8 L S M Q = (pA S fun a S => shO M a 3 (rrf M a 1 fun r => vc n d 96 11 L (.inr (.inr r) :: S) M Q)) := nr rfl
set_option maxRecDepth 100000 in
theorem v96_11 (n d : Nat) (L : List (Option mL)) (S : List mV) (M : Mm) (Q : mQ) : vc (n + 1) d 96 11 L S M Q = (gR L 1 fun x => vc n d 96 12 L (.inr (.inr x) :: S) M Q) := nr rfl
set_option maxRecDepth 100000 in
theorem v96_12 (n d : Nat) (L : List (Option mL)) (S : List mV) (M : Mm) (Q : mQ) : vc (n + 1) d 96 12 L S M Q = (pA S fun a S => shO M a 9 (rrf M a 4 fun r => vc n d 96 15 L (.inr (.inr r) :: S) M Q)) := nr rfl
set_option maxRecDepth 100000 in
theorem v96_15 (n d : Nat) (L : List (Option mL)) (S : List mV) (M : Mm) (Q : mQ) : vc (n + 1) d 96 15 L S M Q = (pAs 0 S fun as S => pA S fun a S => shO M a 8 (stk S ≤ 8 ∧ XC d 81 (.inr (some a) :: as) M (fun r M => ∃ x : Int32, r = some (.inl x) ∧ X d 96 18 L (.inl x :: S) M Q))) := nr rfl
set_option maxRecDepth 100000 in
theorem v96_18 (n d : Nat) (L : List (Option mL)) (S : List mV) (M : Mm) (Q : mQ) : vc (n + 1) d 96 18 L S M Q = (gR L 1 fun x => vc n d 96 19 L (.inr (.inr x) :: S) M Q) := nr rfl
set_option maxRecDepth 100000 in
theorem v96_19 (n d : Nat) (L : List (Option mL)) (S : List mV) (M : Mm) (Q : mQ) : vc (n + 1) d 96 19 L S M Q = (pA S fun a S => shO M a 9 (rrf M a 4 fun r => vc n d 96 22 L (.inr (.inr r) :: S) M Q)) := nr rfl
set_option maxRecDepth 100000 in
theorem v96_22 (n d : Nat) (L : List (Option mL)) (S : List mV) (M : Mm) (Q : mQ) : vc (n + 1) d 96 22 L S M Q = (pR S fun x S => pI S fun i S => pA S fun a S => shA M a fun t k => rTyB t = true ∧ inB i k ∧ (∀ b : Nat, x = some b → M.sh b = some (t - 50, 0)) ∧ vc n d 96 23 L S (M.sr a i.toNatClampNeg x) Q) := nr rfl
set_option maxRecDepth 100000 in
theorem v96_23 (n d : Nat) (L : List (Option mL)) (S : List mV) (M : Mm) (Q : mQ) : vc (n + 1) d 96 23 L S M Q = (vc n d 96 66 L S M Q) := nr rfl
set_option maxRecDepth 100000 in
theorem v96_26 (n d : Nat) (L : List (Option mL)) (S : List mV) (M : Mm) (Q : mQ) : vc (n + 1) d 96 26 L S M Q = (gR L 1 fun x => vc n d 96 27 L (.inr (.inr x) :: S) M Q) := nr rfl
set_option maxRecDepth 100000 in
theorem v96_27 (n d : Nat) (L : List (Option mL)) (S : List mV) (M : Mm) (Q : mQ) : vc (n + 1) d 96 27 L S M Q = (pAs 0 S fun as S => pA S fun a S => shO M a 9 (stk S ≤ 8 ∧ XC d 75 (.inr (some a) :: as) M (fun r M => ∃ x : Int32, r = some (.inl x) ∧ X d 96 30 L (.inl x :: S) M Q))) := nr rfl
set_option maxRecDepth 100000 in
theorem v96_30 (n d : Nat) (L : List (Option mL)) (S : List mV) (M : Mm) (Q : mQ) : vc (n + 1) d 96 30 L S M Q = (pI S fun x S => (x = 0 → vc n d 96 66 L S M Q) ∧ (¬ (x = 0) → vc n d 96 33 L S M Q)) := nr rfl
set_option maxRecDepth 100000 in
theorem v96_33 (n d : Nat) (L : List (Option mL)) (S : List mV) (M : Mm) (Q : mQ) : vc (n + 1) d 96 33 L S M Q = (vc n d 96 34 L (.inl 0 :: S) M Q) := nr rfl
set_option maxRecDepth 100000 in
theorem v96_34 (n d : Nat) (L : List (Option mL)) (S : List mV) (M : Mm) (Q : mQ) : vc (n + 1) d 96 34 L S M Q = (pI S fun x S => sL L 2 (some (.inl x)) fun L => X d 96 35 L S M Q) := nr rfl
set_option maxRecDepth 100000 in
theorem v96_35 (n d : Nat) (L : List (Option mL)) (S : List mV) (M : Mm) (Q : mQ) : vc (n + 1) d 96 35 L S M Q = (gI L 2 fun x => vc n d 96 36 L (.inl x :: S) M Q) := nr rfl
set_option maxRecDepth 100000 in
theorem v96_36 (n d : Nat) (L : List (Option mL)) (S : List mV) (M : Mm) (Q : mQ) : vc (n + 1) d 96 36 L S M Q = (vc n d 96 38 L (.inl 16 :: S) M Q) := nr rfl
set_option maxRecDepth 100000 in
theorem v96_38 (n d : Nat) (L : List (Option mL)) (S : List mV) (M : Mm) (Q : mQ) : vc (n + 1) d 96 38 L S M Q = (pI S fun y S => pI S fun x S => (y ≤ x → vc n d 96 66 L S M Q) ∧ (¬ (y ≤ x) → vc n d 96 41 L S M Q)) := nr rfl
set_option maxRecDepth 100000 in
theorem v96_41 (n d : Nat) (L : List (Option mL)) (S : List mV) (M : Mm) (Q : mQ) : vc (n + 1) d 96 41 L S M Q = (gR L 0 fun x => vc n d 96 42 L (.inr (.inr x) :: S) M Q) := nr rfl
set_option maxRecDepth 100000 in
theorem v96_42 (n d : Nat) (L : List (Option mL)) (S : List mV) (M : Mm) (Q : mQ) : vc (n + 1) d 96 42 L S M Q = (pA S fun a S => shO M a 3 (rrf M a 0 fun r => vc n d 96 45 L (.inr (.inr r) :: S) M Q)) := nr rfl
set_option maxRecDepth 100000 in
theorem v96_45 (n d : Nat) (L : List (Option mL)) (S : List mV) (M : Mm) (Q : mQ) : vc (n + 1) d 96 45 L S M Q = (gR L 1 fun x => vc n d 96 46 L (.inr (.inr x) :: S) M Q) := nr rfl
set_option maxRecDepth 100000 in
theorem v96_46 (n d : Nat) (L : List (Option mL)) (S : List mV) (M : Mm) (Q : mQ) : vc (n + 1) d 96 46 L S M Q = (pA S fun a S => shO M a 9 (vc n d 96 49 L (.inl (M.it a 3) :: S) M Q)) := nr rfl
set_option maxRecDepth 100000 in
theorem v96_49 (n d : Nat) (L : List (Option mL)) (S : List mV) (M : Mm) (Q : mQ) : vc (n + 1) d 96 49 L S M Q = (vc n d 96 51 L (.inl 16 :: S) M Q) := nr rfl
set_option maxRecDepth 100000 in
theorem v96_51 (n d : Nat) (L : List (Option mL)) (S : List mV) (M : Mm) (Q : mQ) : vc (n + 1) d 96 51 L S M Q = (pI S fun y S => pI S fun x S => vc n d 96 52 L (.inl (x * y) :: S) M Q) := nr rfl
set_option maxRecDepth 100000 in
theorem v96_52 (n d : Nat) (L : List (Option mL)) (S : List mV) (M : Mm) (Q : mQ) : vc (n + 1) d 96 52 L S M Q = (gI L 2 fun x => vc n d 96 53 L (.inl x :: S) M Q) := nr rfl
set_option maxRecDepth 100000 in
theorem v96_53 (n d : Nat) (L : List (Option mL)) (S : List mV) (M : Mm) (Q : mQ) : vc (n + 1) d 96 53 L S M Q = (pI S fun y S => pI S fun x S => vc n d 96 54 L (.inl (x + y) :: S) M Q) := nr rfl
set_option maxRecDepth 100000 in
theorem v96_54 (n d : Nat) (L : List (Option mL)) (S : List mV) (M : Mm) (Q : mQ) : vc (n + 1) d 96 54 L S M Q = (gR L 1 fun x => vc n d 96 55 L (.inr (.inr x) :: S) M Q) := nr rfl
set_option maxRecDepth 100000 in
theorem v96_55 (n d : Nat) (L : List (Option mL)) (S : List mV) (M : Mm) (Q : mQ) : vc (n + 1) d 96 55 L S M Q = (gI L 2 fun x => vc n d 96 56 L (.inl x :: S) M Q) := nr rfl
set_option maxRecDepth 100000 in
theorem v96_56 (n d : Nat) (L : List (Option mL)) (S : List mV) (M : Mm) (Q : mQ) : vc (n + 1) d 96 56 L S M Q = (pAs 1 S fun as S => pA S fun a S => shO M a 9 (stk S ≤ 8 ∧ XC d 27 (.inr (some a) :: as) M (fun r M => ∃ x : Int32, r = some (.inl x) ∧ X d 96 59 L (.inl x :: S) M Q))) := nr rfl
set_option maxRecDepth 100000 in
theorem v96_59 (n d : Nat) (L : List (Option mL)) (S : List mV) (M : Mm) (Q : mQ) : vc (n + 1) d 96 59 L S M Q = (pI S fun x S => pI S fun i S => pA S fun a S => shA M a fun t k => t = 41 ∧ inB i k ∧ vc n d 96 60 L S (M.si a i.toNatClampNeg x) Q) := nr rfl
set_option maxRecDepth 100000 in
theorem v96_60 (n d : Nat) (L : List (Option mL)) (S : List mV) (M : Mm) (Q : mQ) : vc (n + 1) d 96 60 L S M Q = (gI L 2 fun x => sL L 2 (some (.inl (x + 1))) fun L => vc n d 96 63 L S M Q) := nr rfl
set_option maxRecDepth 100000 in
theorem v96_63 (n d : Nat) (L : List (Option mL)) (S : List mV) (M : Mm) (Q : mQ) : vc (n + 1) d 96 63 L S M Q = (X d 96 35 L S M Q) := nr rfl
set_option maxRecDepth 100000 in
theorem v96_66 (n d : Nat) (L : List (Option mL)) (S : List mV) (M : Mm) (Q : mQ) : vc (n + 1) d 96 66 L S M Q = (S = [] ∧ Q none M) := nr rfl
set_option maxRecDepth 100000 in
theorem v97_0 (n d : Nat) (L : List (Option mL)) (S : List mV) (M : Mm) (Q : mQ) : vc (n + 1) d 97 0 L S M Q = (gI L 1 fun x => vc n d 97 1 L (.inl x :: S) M Q) := nr rfl
set_option maxRecDepth 100000 in
theorem v97_1 (n d : Nat) (L : List (Option mL)) (S : List mV) (M : Mm) (Q : mQ) : vc (n + 1) d 97 1 L S M Q = (pI S fun x S => (x < 0 → vc n d 97 12 L S M Q) ∧ (¬ (x < 0) → vc n d 97 4 L S M Q)) := nr rfl
set_option maxRecDepth 100000 in
theorem v97_4 (n d : Nat) (L : List (Option mL)) (S : List mV) (M : Mm) (Q : mQ) : vc (n + 1) d 97 4 L S M Q = (gI L 1 fun x => vc n d 97 5 L (.inl x :: S) M Q) := nr rfl
set_option maxRecDepth 100000 in
theorem v97_5 (n d : Nat) (L : List (Option mL)) (S : List mV) (M : Mm) (Q : mQ) : vc (n + 1) d 97 5 L S M Q = (gR L 0 fun x => vc n d 97 6 L (.inr (.inr x) :: S) M Q) := nr rfl
set_option maxRecDepth 100000 in
theorem v97_6 (n d : Nat) (L : List (Option mL)) (S : List mV) (M : Mm) (Q : mQ) : vc (n + 1) d 97 6 L S M Q = (pA S fun a S => shO M a 7 (vc n d 97 9 L (.inl (M.it a 1) :: S) M Q)) := nr rfl
set_option maxRecDepth 100000 in
theorem v97_9 (n d : Nat) (L : List (Option mL)) (S : List mV) (M : Mm) (Q : mQ) : vc (n + 1) d 97 9 L S M Q = (pI S fun y S => pI S fun x S => (x < y → vc n d 97 13 L S M Q) ∧ (¬ (x < y) → vc n d 97 12 L S M Q)) := nr rfl
set_option maxRecDepth 100000 in
theorem v97_12 (n d : Nat) (L : List (Option mL)) (S : List mV) (M : Mm) (Q : mQ) : vc (n + 1) d 97 12 L S M Q = (S = [] ∧ Q none M) := nr rfl
set_option maxRecDepth 100000 in
theorem v97_13 (n d : Nat) (L : List (Option mL)) (S : List mV) (M : Mm) (Q : mQ) : vc (n + 1) d 97 13 L S M Q = (gR L 0 fun x => vc n d 97 14 L (.inr (.inr x) :: S) M Q) := nr rfl
set_option maxRecDepth 100000 in
theorem v97_14 (n d : Nat) (L : List (Option mL)) (S : List mV) (M : Mm) (Q : mQ) : vc (n + 1) d 97 14 L S M Q = (pA S fun a S => shO M a 7 (rrf M a 0 fun r => vc n d 97 17 L (.inr (.inr r) :: S) M Q)) := nr rfl
set_option maxRecDepth 100000 in
theorem v97_17 (n d : Nat) (L : List (Option mL)) (S : List mV) (M : Mm) (Q : mQ) : vc (n + 1) d 97 17 L S M Q = (gI L 1 fun x => vc n d 97 18 L (.inl x :: S) M Q) := nr rfl
set_option maxRecDepth 100000 in
theorem v97_18 (n d : Nat) (L : List (Option mL)) (S : List mV) (M : Mm) (Q : mQ) : vc (n + 1) d 97 18 L S M Q = (pI S fun i S => pA S fun a S => shA M a fun t k => rTyB t = true ∧ inB i k ∧ rrf M a i.toNatClampNeg fun r => vc n d 97 19 L (.inr (.inr r) :: S) M Q) := nr rfl
set_option maxRecDepth 100000 in
theorem v97_19 (n d : Nat) (L : List (Option mL)) (S : List mV) (M : Mm) (Q : mQ) : vc (n + 1) d 97 19 L S M Q = (pR S fun x S => sL L 2 (some (.inr x)) fun L => vc n d 97 20 L S M Q) := nr rfl
set_option maxRecDepth 100000 in
theorem v97_20 (n d : Nat) (L : List (Option mL)) (S : List mV) (M : Mm) (Q : mQ) : vc (n + 1) d 97 20 L S M Q = (gR L 0 fun x => vc n d 97 21 L (.inr (.inr x) :: S) M Q) := nr rfl
set_option maxRecDepth 100000 in
theorem v97_21 (n d : Nat) (L : List (Option mL)) (S : List mV) (M : Mm) (Q : mQ) : vc (n + 1) d 97 21 L S M Q = (pC S fun v S => vc n d 97 22 L (v :: v :: S) M Q) := nr rfl
set_option maxRecDepth 100000 in
theorem v97_22 (n d : Nat) (L : List (Option mL)) (S : List mV) (M : Mm) (Q : mQ) : vc (n + 1) d 97 22 L S M Q = (pA S fun a S => shO M a 7 (vc n d 97 25 L (.inl (M.it a 1) :: S) M Q)) := nr rfl
set_option maxRecDepth 100000 in
theorem v97_25 (n d : Nat) (L : List (Option mL)) (S : List mV) (M : Mm) (Q : mQ) : vc (n + 1) d 97 25 L S M Q = (vc n d 97 26 L (.inl 1 :: S) M Q) := nr rfl
set_option maxRecDepth 100000 in
theorem v97_26 (n d : Nat) (L : List (Option mL)) (S : List mV) (M : Mm) (Q : mQ) : vc (n + 1) d 97 26 L S M Q = (pI S fun y S => pI S fun x S => vc n d 97 27 L (.inl (x - y) :: S) M Q) := nr rfl
set_option maxRecDepth 100000 in
theorem v97_27 (n d : Nat) (L : List (Option mL)) (S : List mV) (M : Mm) (Q : mQ) : vc (n + 1) d 97 27 L S M Q = (pI S fun x S => pA S fun a S => shO M a 7 (vc n d 97 30 L S (M.si a 1 x) Q)) := nr rfl
set_option maxRecDepth 100000 in
theorem v97_30 (n d : Nat) (L : List (Option mL)) (S : List mV) (M : Mm) (Q : mQ) : vc (n + 1) d 97 30 L S M Q = (gI L 1 fun x => vc n d 97 31 L (.inl x :: S) M Q) := nr rfl
set_option maxRecDepth 100000 in
theorem v97_31 (n d : Nat) (L : List (Option mL)) (S : List mV) (M : Mm) (Q : mQ) : vc (n + 1) d 97 31 L S M Q = (pI S fun x S => sL L 3 (some (.inl x)) fun L => X d 97 32 L S M Q) := nr rfl
set_option maxRecDepth 100000 in
theorem v97_32 (n d : Nat) (L : List (Option mL)) (S : List mV) (M : Mm) (Q : mQ) : vc (n + 1) d 97 32 L S M Q = (gI L 3 fun x => vc n d 97 33 L (.inl x :: S) M Q) := nr rfl
set_option maxRecDepth 100000 in
theorem v97_33 (n d : Nat) (L : List (Option mL)) (S : List mV) (M : Mm) (Q : mQ) : vc (n + 1) d 97 33 L S M Q = (gR L 0 fun x => vc n d 97 34 L (.inr (.inr x) :: S) M Q) := nr rfl
set_option maxRecDepth 100000 in
theorem v97_34 (n d : Nat) (L : List (Option mL)) (S : List mV) (M : Mm) (Q : mQ) : vc (n + 1) d 97 34 L S M Q = (pA S fun a S => shO M a 7 (vc n d 97 37 L (.inl (M.it a 1) :: S) M Q)) := nr rfl
set_option maxRecDepth 100000 in
theorem v97_37 (n d : Nat) (L : List (Option mL)) (S : List mV) (M : Mm) (Q : mQ) : vc (n + 1) d 97 37 L S M Q = (pI S fun y S => pI S fun x S => (y ≤ x → vc n d 97 70 L S M Q) ∧ (¬ (y ≤ x) → vc n d 97 40 L S M Q)) := nr rfl
set_option maxRecDepth 100000 in
theorem v97_40 (n d : Nat) (L : List (Option mL)) (S : List mV) (M : Mm) (Q : mQ) : vc (n + 1) d 97 40 L S M Q = (gR L 0 fun x => vc n d 97 41 L (.inr (.inr x) :: S) M Q) := nr rfl
set_option maxRecDepth 100000 in
theorem v97_41 (n d : Nat) (L : List (Option mL)) (S : List mV) (M : Mm) (Q : mQ) : vc (n + 1) d 97 41 L S M Q = (pA S fun a S => shO M a 7 (rrf M a 0 fun r => vc n d 97 44 L (.inr (.inr r) :: S) M Q)) := nr rfl
set_option maxRecDepth 100000 in
theorem v97_44 (n d : Nat) (L : List (Option mL)) (S : List mV) (M : Mm) (Q : mQ) : vc (n + 1) d 97 44 L S M Q = (gI L 3 fun x => vc n d 97 45 L (.inl x :: S) M Q) := nr rfl
set_option maxRecDepth 100000 in
theorem v97_45 (n d : Nat) (L : List (Option mL)) (S : List mV) (M : Mm) (Q : mQ) : vc (n + 1) d 97 45 L S M Q = (gR L 0 fun x => vc n d 97 46 L (.inr (.inr x) :: S) M Q) := nr rfl
set_option maxRecDepth 100000 in
theorem v97_46 (n d : Nat) (L : List (Option mL)) (S : List mV) (M : Mm) (Q : mQ) : vc (n + 1) d 97 46 L S M Q = (pA S fun a S => shO M a 7 (rrf M a 0 fun r => vc n d 97 49 L (.inr (.inr r) :: S) M Q)) := nr rfl
set_option maxRecDepth 100000 in
theorem v97_49 (n d : Nat) (L : List (Option mL)) (S : List mV) (M : Mm) (Q : mQ) : vc (n + 1) d 97 49 L S M Q = (gI L 3 fun x => vc n d 97 50 L (.inl x :: S) M Q) := nr rfl
set_option maxRecDepth 100000 in
theorem v97_50 (n d : Nat) (L : List (Option mL)) (S : List mV) (M : Mm) (Q : mQ) : vc (n + 1) d 97 50 L S M Q = (vc n d 97 51 L (.inl 1 :: S) M Q) := nr rfl
set_option maxRecDepth 100000 in
theorem v97_51 (n d : Nat) (L : List (Option mL)) (S : List mV) (M : Mm) (Q : mQ) : vc (n + 1) d 97 51 L S M Q = (pI S fun y S => pI S fun x S => vc n d 97 52 L (.inl (x + y) :: S) M Q) := nr rfl
set_option maxRecDepth 100000 in
theorem v97_52 (n d : Nat) (L : List (Option mL)) (S : List mV) (M : Mm) (Q : mQ) : vc (n + 1) d 97 52 L S M Q = (pI S fun i S => pA S fun a S => shA M a fun t k => rTyB t = true ∧ inB i k ∧ rrf M a i.toNatClampNeg fun r => vc n d 97 53 L (.inr (.inr r) :: S) M Q) := nr rfl
set_option maxRecDepth 100000 in
theorem v97_53 (n d : Nat) (L : List (Option mL)) (S : List mV) (M : Mm) (Q : mQ) : vc (n + 1) d 97 53 L S M Q = (pR S fun x S => pI S fun i S => pA S fun a S => shA M a fun t k => rTyB t = true ∧ inB i k ∧ (∀ b : Nat, x = some b → M.sh b = some (t - 50, 0)) ∧ vc n d 97 54 L S (M.sr a i.toNatClampNeg x) Q) := nr rfl
set_option maxRecDepth 100000 in
theorem v97_54 (n d : Nat) (L : List (Option mL)) (S : List mV) (M : Mm) (Q : mQ) : vc (n + 1) d 97 54 L S M Q = (gR L 0 fun x => vc n d 97 55 L (.inr (.inr x) :: S) M Q) := nr rfl
set_option maxRecDepth 100000 in
theorem v97_55 (n d : Nat) (L : List (Option mL)) (S : List mV) (M : Mm) (Q : mQ) : vc (n + 1) d 97 55 L S M Q = (pA S fun a S => shO M a 7 (rrf M a 0 fun r => vc n d 97 58 L (.inr (.inr r) :: S) M Q)) := nr rfl
set_option maxRecDepth 100000 in
theorem v97_58 (n d : Nat) (L : List (Option mL)) (S : List mV) (M : Mm) (Q : mQ) : vc (n + 1) d 97 58 L S M Q = (gI L 3 fun x => vc n d 97 59 L (.inl x :: S) M Q) := nr rfl
set_option maxRecDepth 100000 in
theorem v97_59 (n d : Nat) (L : List (Option mL)) (S : List mV) (M : Mm) (Q : mQ) : vc (n + 1) d 97 59 L S M Q = (pI S fun i S => pA S fun a S => shA M a fun t k => rTyB t = true ∧ inB i k ∧ rrf M a i.toNatClampNeg fun r => vc n d 97 60 L (.inr (.inr r) :: S) M Q) := nr rfl
set_option maxRecDepth 100000 in
theorem v97_60 (n d : Nat) (L : List (Option mL)) (S : List mV) (M : Mm) (Q : mQ) : vc (n + 1) d 97 60 L S M Q = (gR L 2 fun x => vc n d 97 61 L (.inr (.inr x) :: S) M Q) := nr rfl
set_option maxRecDepth 100000 in
theorem v97_61 (n d : Nat) (L : List (Option mL)) (S : List mV) (M : Mm) (Q : mQ) : vc (n + 1) d 97 61 L S M Q = (pAs 1 S fun as S => pA S fun a S => shO M a 9 (stk S ≤ 8 ∧ XC d 98 (.inr (some a) :: as) M (fun r M => r = none ∧ X d 97 64 L S M Q))) := nr rfl
set_option maxRecDepth 100000 in
theorem v97_64 (n d : Nat) (L : List (Option mL)) (S : List mV) (M : Mm) (Q : mQ) : vc (n + 1) d 97 64 L S M Q = (gI L 3 fun x => sL L 3 (some (.inl (x + 1))) fun L => vc n d 97 67 L S M Q) := nr rfl
set_option maxRecDepth 100000 in
theorem v97_67 (n d : Nat) (L : List (Option mL)) (S : List mV) (M : Mm) (Q : mQ) : vc (n + 1) d 97 67 L S M Q = (X d 97 32 L S M Q) := nr rfl
set_option maxRecDepth 100000 in
theorem v97_70 (n d : Nat) (L : List (Option mL)) (S : List mV) (M : Mm) (Q : mQ) : vc (n + 1) d 97 70 L S M Q = (gR L 0 fun x => vc n d 97 71 L (.inr (.inr x) :: S) M Q) := nr rfl
set_option maxRecDepth 100000 in
theorem v97_71 (n d : Nat) (L : List (Option mL)) (S : List mV) (M : Mm) (Q : mQ) : vc (n + 1) d 97 71 L S M Q = (pA S fun a S => shO M a 7 (rrf M a 0 fun r => vc n d 97 74 L (.inr (.inr r) :: S) M Q)) := nr rfl
set_option maxRecDepth 100000 in
theorem v97_74 (n d : Nat) (L : List (Option mL)) (S : List mV) (M : Mm) (Q : mQ) : vc (n + 1) d 97 74 L S M Q = (gR L 0 fun x => vc n d 97 75 L (.inr (.inr x) :: S) M Q) := nr rfl
set_option maxRecDepth 100000 in
theorem v97_75 (n d : Nat) (L : List (Option mL)) (S : List mV) (M : Mm) (Q : mQ) : vc (n + 1) d 97 75 L S M Q = (pA S fun a S => shO M a 7 (vc n d 97 78 L (.inl (M.it a 1) :: S) M Q)) := nr rfl
set_option maxRecDepth 100000 in
theorem v97_78 (n d : Nat) (L : List (Option mL)) (S : List mV) (M : Mm) (Q : mQ) : vc (n + 1) d 97 78 L S M Q = (gR L 2 fun x => vc n d 97 79 L (.inr (.inr x) :: S) M Q) := nr rfl
set_option maxRecDepth 100000 in
theorem v97_79 (n d : Nat) (L : List (Option mL)) (S : List mV) (M : Mm) (Q : mQ) : vc (n + 1) d 97 79 L S M Q = (pR S fun x S => pI S fun i S => pA S fun a S => shA M a fun t k => rTyB t = true ∧ inB i k ∧ (∀ b : Nat, x = some b → M.sh b = some (t - 50, 0)) ∧ vc n d 97 80 L S (M.sr a i.toNatClampNeg x) Q) := nr rfl
set_option maxRecDepth 100000 in
theorem v97_80 (n d : Nat) (L : List (Option mL)) (S : List mV) (M : Mm) (Q : mQ) : vc (n + 1) d 97 80 L S M Q = (S = [] ∧ Q none M) := nr rfl
set_option maxRecDepth 100000 in
theorem v98_0 (n d : Nat) (L : List (Option mL)) (S : List mV) (M : Mm) (Q : mQ) : vc (n + 1) d 98 0 L S M Q = (gR L 1 fun x => vc n d 98 1 L (.inr (.inr x) :: S) M Q) := nr rfl
set_option maxRecDepth 100000 in
theorem v98_1 (n d : Nat) (L : List (Option mL)) (S : List mV) (M : Mm) (Q : mQ) : vc (n + 1) d 98 1 L S M Q = (pA S fun a S => shO M a 9 (vc n d 98 4 L (.inl (M.it a 0) :: S) M Q)) := nr rfl
set_option maxRecDepth 100000 in
theorem v98_4 (n d : Nat) (L : List (Option mL)) (S : List mV) (M : Mm) (Q : mQ) : vc (n + 1) d 98 4 L S M Q = (vc n d 98 6 L (.inl 64 :: S) M Q) := nr rfl
set_option maxRecDepth 100000 in
theorem v98_6 (n d : Nat) (L : List (Option mL)) (S : List mV) (M : Mm) (Q : mQ) : vc (n + 1) d 98 6 L S M Q = (pI S fun y S => pI S fun x S => (y ≤ x → vc n d 98 31 L S M Q) ∧ (¬ (y ≤ x) → vc n d 98 9 L S M Q)) := nr rfl
set_option maxRecDepth 100000 in
theorem v98_9 (n d : Nat) (L : List (Option mL)) (S : List mV) (M : Mm) (Q : mQ) : vc (n + 1) d 98 9 L S M Q = (gR L 0 fun x => vc n d 98 10 L (.inr (.inr x) :: S) M Q) := nr rfl
set_option maxRecDepth 100000 in
theorem v98_10 (n d : Nat) (L : List (Option mL)) (S : List mV) (M : Mm) (Q : mQ) : vc (n + 1) d 98 10 L S M Q = (pC S fun v S => vc n d 98 11 L (v :: v :: S) M Q) := nr rfl
set_option maxRecDepth 100000 in
theorem v98_11 (n d : Nat) (L : List (Option mL)) (S : List mV) (M : Mm) (Q : mQ) : vc (n + 1) d 98 11 L S M Q = (pA S fun a S => shO M a 9 (vc n d 98 14 L (.inr (.inl (M.lg a 5)) :: S) M Q)) := nr rfl
set_option maxRecDepth 100000 in
theorem v98_14 (n d : Nat) (L : List (Option mL)) (S : List mV) (M : Mm) (Q : mQ) : vc (n + 1) d 98 14 L S M Q = (vc n d 98 15 L (.inr (.inl 1) :: S) M Q) := nr rfl
set_option maxRecDepth 100000 in
theorem v98_15 (n d : Nat) (L : List (Option mL)) (S : List mV) (M : Mm) (Q : mQ) : vc (n + 1) d 98 15 L S M Q = (gR L 1 fun x => vc n d 98 16 L (.inr (.inr x) :: S) M Q) := nr rfl
set_option maxRecDepth 100000 in
theorem v98_16 (n d : Nat) (L : List (Option mL)) (S : List mV) (M : Mm) (Q : mQ) : vc (n + 1) d 98 16 L S M Q = (pA S fun a S => shO M a 9 (vc n d 98 19 L (.inl (M.it a 0) :: S) M Q)) := nr rfl
set_option maxRecDepth 100000 in
theorem v98_19 (n d : Nat) (L : List (Option mL)) (S : List mV) (M : Mm) (Q : mQ) : vc (n + 1) d 98 19 L S M Q = (pI S fun y S => pL S fun x S => vc n d 98 20 L (.inr (.inl (x <<< (y.toInt64 &&& 63))) :: S) M Q) := nr rfl
set_option maxRecDepth 100000 in
theorem v98_20 (n d : Nat) (L : List (Option mL)) (S : List mV) (M : Mm) (Q : mQ) : vc (n + 1) d 98 20 L S M Q = (vc n d 98 23 L (.inr (.inl (-1)) :: S) M Q) := nr rfl
set_option maxRecDepth 100000 in
theorem v98_23 (n d : Nat) (L : List (Option mL)) (S : List mV) (M : Mm) (Q : mQ) : vc (n + 1) d 98 23 L S M Q = (pL S fun y S => pL S fun x S => vc n d 98 24 L (.inr (.inl (x ^^^ y)) :: S) M Q) := nr rfl
set_option maxRecDepth 100000 in
theorem v98_24 (n d : Nat) (L : List (Option mL)) (S : List mV) (M : Mm) (Q : mQ) : vc (n + 1) d 98 24 L S M Q = (pL S fun y S => pL S fun x S => vc n d 98 25 L (.inr (.inl (x &&& y)) :: S) M Q) := nr rfl
set_option maxRecDepth 100000 in
theorem v98_25 (n d : Nat) (L : List (Option mL)) (S : List mV) (M : Mm) (Q : mQ) : vc (n + 1) d 98 25 L S M Q = (pL S fun x S => pA S fun a S => shO M a 9 (vc n d 98 28 L S (M.sg a 5 x) Q)) := nr rfl
set_option maxRecDepth 100000 in
theorem v98_28 (n d : Nat) (L : List (Option mL)) (S : List mV) (M : Mm) (Q : mQ) : vc (n + 1) d 98 28 L S M Q = (vc n d 98 53 L S M Q) := nr rfl
set_option maxRecDepth 100000 in
theorem v98_31 (n d : Nat) (L : List (Option mL)) (S : List mV) (M : Mm) (Q : mQ) : vc (n + 1) d 98 31 L S M Q = (gR L 0 fun x => vc n d 98 32 L (.inr (.inr x) :: S) M Q) := nr rfl
set_option maxRecDepth 100000 in
theorem v98_32 (n d : Nat) (L : List (Option mL)) (S : List mV) (M : Mm) (Q : mQ) : vc (n + 1) d 98 32 L S M Q = (pC S fun v S => vc n d 98 33 L (v :: v :: S) M Q) := nr rfl
set_option maxRecDepth 100000 in
theorem v98_33 (n d : Nat) (L : List (Option mL)) (S : List mV) (M : Mm) (Q : mQ) : vc (n + 1) d 98 33 L S M Q = (pA S fun a S => shO M a 9 (vc n d 98 36 L (.inr (.inl (M.lg a 6)) :: S) M Q)) := nr rfl
set_option maxRecDepth 100000 in
theorem v98_36 (n d : Nat) (L : List (Option mL)) (S : List mV) (M : Mm) (Q : mQ) : vc (n + 1) d 98 36 L S M Q = (vc n d 98 37 L (.inr (.inl 1) :: S) M Q) := nr rfl
set_option maxRecDepth 100000 in
theorem v98_37 (n d : Nat) (L : List (Option mL)) (S : List mV) (M : Mm) (Q : mQ) : vc (n + 1) d 98 37 L S M Q = (gR L 1 fun x => vc n d 98 38 L (.inr (.inr x) :: S) M Q) := nr rfl
set_option maxRecDepth 100000 in
theorem v98_38 (n d : Nat) (L : List (Option mL)) (S : List mV) (M : Mm) (Q : mQ) : vc (n + 1) d 98 38 L S M Q = (pA S fun a S => shO M a 9 (vc n d 98 41 L (.inl (M.it a 0) :: S) M Q)) := nr rfl
set_option maxRecDepth 100000 in
theorem v98_41 (n d : Nat) (L : List (Option mL)) (S : List mV) (M : Mm) (Q : mQ) : vc (n + 1) d 98 41 L S M Q = (vc n d 98 43 L (.inl 64 :: S) M Q) := nr rfl
set_option maxRecDepth 100000 in
theorem v98_43 (n d : Nat) (L : List (Option mL)) (S : List mV) (M : Mm) (Q : mQ) : vc (n + 1) d 98 43 L S M Q = (pI S fun y S => pI S fun x S => vc n d 98 44 L (.inl (x - y) :: S) M Q) := nr rfl
set_option maxRecDepth 100000 in
theorem v98_44 (n d : Nat) (L : List (Option mL)) (S : List mV) (M : Mm) (Q : mQ) : vc (n + 1) d 98 44 L S M Q = (pI S fun y S => pL S fun x S => vc n d 98 45 L (.inr (.inl (x <<< (y.toInt64 &&& 63))) :: S) M Q) := nr rfl
set_option maxRecDepth 100000 in
theorem v98_45 (n d : Nat) (L : List (Option mL)) (S : List mV) (M : Mm) (Q : mQ) : vc (n + 1) d 98 45 L S M Q = (vc n d 98 48 L (.inr (.inl (-1)) :: S) M Q) := nr rfl
set_option maxRecDepth 100000 in
theorem v98_48 (n d : Nat) (L : List (Option mL)) (S : List mV) (M : Mm) (Q : mQ) : vc (n + 1) d 98 48 L S M Q = (pL S fun y S => pL S fun x S => vc n d 98 49 L (.inr (.inl (x ^^^ y)) :: S) M Q) := nr rfl
set_option maxRecDepth 100000 in
theorem v98_49 (n d : Nat) (L : List (Option mL)) (S : List mV) (M : Mm) (Q : mQ) : vc (n + 1) d 98 49 L S M Q = (pL S fun y S => pL S fun x S => vc n d 98 50 L (.inr (.inl (x &&& y)) :: S) M Q) := nr rfl
set_option maxRecDepth 100000 in
theorem v98_50 (n d : Nat) (L : List (Option mL)) (S : List mV) (M : Mm) (Q : mQ) : vc (n + 1) d 98 50 L S M Q = (pL S fun x S => pA S fun a S => shO M a 9 (vc n d 98 53 L S (M.sg a 6 x) Q)) := nr rfl
set_option maxRecDepth 100000 in
theorem v98_53 (n d : Nat) (L : List (Option mL)) (S : List mV) (M : Mm) (Q : mQ) : vc (n + 1) d 98 53 L S M Q = (S = [] ∧ Q none M) := nr rfl
set_option maxRecDepth 100000 in
theorem v99_0 (n d : Nat) (L : List (Option mL)) (S : List mV) (M : Mm) (Q : mQ) : vc (n + 1) d 99 0 L S M Q = (gI L 1 fun x => vc n d 99 1 L (.inl x :: S) M Q) := nr rfl
set_option maxRecDepth 100000 in
theorem v99_1 (n d : Nat) (L : List (Option mL)) (S : List mV) (M : Mm) (Q : mQ) : vc (n + 1) d 99 1 L S M Q = (pI S fun x S => (x < 0 → vc n d 99 11 L S M Q) ∧ (¬ (x < 0) → vc n d 99 4 L S M Q)) := nr rfl
set_option maxRecDepth 100000 in
theorem v99_4 (n d : Nat) (L : List (Option mL)) (S : List mV) (M : Mm) (Q : mQ) : vc (n + 1) d 99 4 L S M Q = (gI L 1 fun x => vc n d 99 5 L (.inl x :: S) M Q) := nr rfl
set_option maxRecDepth 100000 in
theorem v99_5 (n d : Nat) (L : List (Option mL)) (S : List mV) (M : Mm) (Q : mQ) : vc (n + 1) d 99 5 L S M Q = (vc n d 99 8 L (.inl 200 :: S) M Q) := nr rfl
set_option maxRecDepth 100000 in
theorem v99_8 (n d : Nat) (L : List (Option mL)) (S : List mV) (M : Mm) (Q : mQ) : vc (n + 1) d 99 8 L S M Q = (pI S fun y S => pI S fun x S => (x ≤ y → vc n d 99 13 L S M Q) ∧ (¬ (x ≤ y) → vc n d 99 11 L S M Q)) := nr rfl
set_option maxRecDepth 100000 in
theorem v99_11 (n d : Nat) (L : List (Option mL)) (S : List mV) (M : Mm) (Q : mQ) : vc (n + 1) d 99 11 L S M Q = (vc n d 99 12 L (.inl (-1) :: S) M Q) := nr rfl
set_option maxRecDepth 100000 in
theorem v99_12 (n d : Nat) (L : List (Option mL)) (S : List mV) (M : Mm) (Q : mQ) : vc (n + 1) d 99 12 L S M Q = (pI S fun x S => S = [] ∧ (0 = 0 ∨ x = 0 ∨ x = 1) ∧ Q (some (.inl x)) M) := nr rfl
set_option maxRecDepth 100000 in
theorem v99_13 (n d : Nat) (L : List (Option mL)) (S : List mV) (M : Mm) (Q : mQ) : vc (n + 1) d 99 13 L S M Q = (vc n d 99 14 L (.inl 0 :: S) M Q) := nr rfl
set_option maxRecDepth 100000 in
theorem v99_14 (n d : Nat) (L : List (Option mL)) (S : List mV) (M : Mm) (Q : mQ) : vc (n + 1) d 99 14 L S M Q = (pI S fun x S => sL L 2 (some (.inl x)) fun L => X d 99 15 L S M Q) := nr rfl
set_option maxRecDepth 100000 in
theorem v99_15 (n d : Nat) (L : List (Option mL)) (S : List mV) (M : Mm) (Q : mQ) : vc (n + 1) d 99 15 L S M Q = (gI L 2 fun x => vc n d 99 16 L (.inl x :: S) M Q) := nr rfl
set_option maxRecDepth 100000 in
theorem v99_16 (n d : Nat) (L : List (Option mL)) (S : List mV) (M : Mm) (Q : mQ) : vc (n + 1) d 99 16 L S M Q = (gI L 1 fun x => vc n d 99 17 L (.inl x :: S) M Q) := nr rfl
set_option maxRecDepth 100000 in
theorem v99_17 (n d : Nat) (L : List (Option mL)) (S : List mV) (M : Mm) (Q : mQ) : vc (n + 1) d 99 17 L S M Q = (pI S fun y S => pI S fun x S => (y ≤ x → vc n d 99 37 L S M Q) ∧ (¬ (y ≤ x) → vc n d 99 20 L S M Q)) := nr rfl
set_option maxRecDepth 100000 in
theorem v99_20 (n d : Nat) (L : List (Option mL)) (S : List mV) (M : Mm) (Q : mQ) : vc (n + 1) d 99 20 L S M Q = (gR L 0 fun x => vc n d 99 21 L (.inr (.inr x) :: S) M Q) := nr rfl
set_option maxRecDepth 100000 in
theorem v99_21 (n d : Nat) (L : List (Option mL)) (S : List mV) (M : Mm) (Q : mQ) : vc (n + 1) d 99 21 L S M Q = (vc n d 99 22 L (.inl 0 :: S) M Q) := nr rfl
set_option maxRecDepth 100000 in
theorem v99_22 (n d : Nat) (L : List (Option mL)) (S : List mV) (M : Mm) (Q : mQ) : vc (n + 1) d 99 22 L S M Q = (pAs 1 S fun as S => pA S fun a S => shO M a 0 (stk S ≤ 8 ∧ XC d 92 (.inr (some a) :: as) M (fun r M => ∃ x : Int32, r = some (.inl x) ∧ X d 99 25 L (.inl x :: S) M Q))) := nr rfl
set_option maxRecDepth 100000 in
theorem v99_25 (n d : Nat) (L : List (Option mL)) (S : List mV) (M : Mm) (Q : mQ) : vc (n + 1) d 99 25 L S M Q = (vc n d 99 26 L (.inl (-1) :: S) M Q) := nr rfl
set_option maxRecDepth 100000 in
theorem v99_26 (n d : Nat) (L : List (Option mL)) (S : List mV) (M : Mm) (Q : mQ) : vc (n + 1) d 99 26 L S M Q = (pI S fun y S => pI S fun x S => (¬ x = y → vc n d 99 31 L S M Q) ∧ (¬ (¬ x = y) → vc n d 99 29 L S M Q)) := nr rfl
set_option maxRecDepth 100000 in
theorem v99_29 (n d : Nat) (L : List (Option mL)) (S : List mV) (M : Mm) (Q : mQ) : vc (n + 1) d 99 29 L S M Q = (gI L 2 fun x => vc n d 99 30 L (.inl x :: S) M Q) := nr rfl
set_option maxRecDepth 100000 in
theorem v99_30 (n d : Nat) (L : List (Option mL)) (S : List mV) (M : Mm) (Q : mQ) : vc (n + 1) d 99 30 L S M Q = (pI S fun x S => S = [] ∧ (0 = 0 ∨ x = 0 ∨ x = 1) ∧ Q (some (.inl x)) M) := nr rfl
set_option maxRecDepth 100000 in
theorem v99_31 (n d : Nat) (L : List (Option mL)) (S : List mV) (M : Mm) (Q : mQ) : vc (n + 1) d 99 31 L S M Q = (gI L 2 fun x => sL L 2 (some (.inl (x + 1))) fun L => vc n d 99 34 L S M Q) := nr rfl
set_option maxRecDepth 100000 in
theorem v99_34 (n d : Nat) (L : List (Option mL)) (S : List mV) (M : Mm) (Q : mQ) : vc (n + 1) d 99 34 L S M Q = (X d 99 15 L S M Q) := nr rfl
set_option maxRecDepth 100000 in
theorem v99_37 (n d : Nat) (L : List (Option mL)) (S : List mV) (M : Mm) (Q : mQ) : vc (n + 1) d 99 37 L S M Q = (gI L 1 fun x => vc n d 99 38 L (.inl x :: S) M Q) := nr rfl
set_option maxRecDepth 100000 in
theorem v99_38 (n d : Nat) (L : List (Option mL)) (S : List mV) (M : Mm) (Q : mQ) : vc (n + 1) d 99 38 L S M Q = (pI S fun x S => S = [] ∧ (0 = 0 ∨ x = 0 ∨ x = 1) ∧ Q (some (.inl x)) M) := nr rfl
set_option maxRecDepth 100000 in
theorem v100_0 (n d : Nat) (L : List (Option mL)) (S : List mV) (M : Mm) (Q : mQ) : vc (n + 1) d 100 0 L S M Q = (gR L 0 fun x => vc n d 100 1 L (.inr (.inr x) :: S) M Q) := nr rfl
set_option maxRecDepth 100000 in
theorem v100_1 (n d : Nat) (L : List (Option mL)) (S : List mV) (M : Mm) (Q : mQ) : vc (n + 1) d 100 1 L S M Q = (pA S fun a S => shO M a 0 (vc n d 100 4 L (.inl (M.it a 18) :: S) M Q)) := nr rfl
set_option maxRecDepth 100000 in
theorem v100_4 (n d : Nat) (L : List (Option mL)) (S : List mV) (M : Mm) (Q : mQ) : vc (n + 1) d 100 4 L S M Q = (pI S fun x S => (x = 0 → vc n d 100 9 L S M Q) ∧ (¬ (x = 0) → vc n d 100 7 L S M Q)) := nr rfl
set_option maxRecDepth 100000 in
theorem v100_7 (n d : Nat) (L : List (Option mL)) (S : List mV) (M : Mm) (Q : mQ) : vc (n + 1) d 100 7 L S M Q = (vc n d 100 8 L (.inl (-1) :: S) M Q) := nr rfl
set_option maxRecDepth 100000 in
theorem v100_8 (n d : Nat) (L : List (Option mL)) (S : List mV) (M : Mm) (Q : mQ) : vc (n + 1) d 100 8 L S M Q = (pI S fun x S => S = [] ∧ (0 = 0 ∨ x = 0 ∨ x = 1) ∧ Q (some (.inl x)) M) := nr rfl
set_option maxRecDepth 100000 in
theorem v100_9 (n d : Nat) (L : List (Option mL)) (S : List mV) (M : Mm) (Q : mQ) : vc (n + 1) d 100 9 L S M Q = (gR L 0 fun x => vc n d 100 10 L (.inr (.inr x) :: S) M Q) := nr rfl
set_option maxRecDepth 100000 in
theorem v100_10 (n d : Nat) (L : List (Option mL)) (S : List mV) (M : Mm) (Q : mQ) : vc (n + 1) d 100 10 L S M Q = (pA S fun a S => shO M a 0 (rrf M a 1 fun r => vc n d 100 13 L (.inr (.inr r) :: S) M Q)) := nr rfl
set_option maxRecDepth 100000 in
theorem v100_13 (n d : Nat) (L : List (Option mL)) (S : List mV) (M : Mm) (Q : mQ) : vc (n + 1) d 100 13 L S M Q = (pA S fun a S => shO M a 7 (vc n d 100 16 L (.inl (M.it a 1) :: S) M Q)) := nr rfl
set_option maxRecDepth 100000 in
theorem v100_16 (n d : Nat) (L : List (Option mL)) (S : List mV) (M : Mm) (Q : mQ) : vc (n + 1) d 100 16 L S M Q = (pI S fun x S => sL L 1 (some (.inl x)) fun L => vc n d 100 17 L S M Q) := nr rfl
set_option maxRecDepth 100000 in
theorem v100_17 (n d : Nat) (L : List (Option mL)) (S : List mV) (M : Mm) (Q : mQ) : vc (n + 1) d 100 17 L S M Q = (gR L 0 fun x => vc n d 100 18 L (.inr (.inr x) :: S) M Q) := nr rfl
set_option maxRecDepth 100000 in
theorem v100_18 (n d : Nat) (L : List (Option mL)) (S : List mV) (M : Mm) (Q : mQ) : vc (n + 1) d 100 18 L S M Q = (pA S fun a S => shO M a 0 (rrf M a 1 fun r => vc n d 100 21 L (.inr (.inr r) :: S) M Q)) := nr rfl
set_option maxRecDepth 100000 in
theorem v100_21 (n d : Nat) (L : List (Option mL)) (S : List mV) (M : Mm) (Q : mQ) : vc (n + 1) d 100 21 L S M Q = (pAs 0 S fun as S => pA S fun a S => shO M a 7 (stk S ≤ 8 ∧ XC d 101 (.inr (some a) :: as) M (fun r M => r = none ∧ X d 100 24 L S M Q))) := nr rfl
set_option maxRecDepth 100000 in
theorem v100_24 (n d : Nat) (L : List (Option mL)) (S : List mV) (M : Mm) (Q : mQ) : vc (n + 1) d 100 24 L S M Q = (gR L 0 fun x => vc n d 100 25 L (.inr (.inr x) :: S) M Q) := nr rfl
set_option maxRecDepth 100000 in
theorem v100_25 (n d : Nat) (L : List (Option mL)) (S : List mV) (M : Mm) (Q : mQ) : vc (n + 1) d 100 25 L S M Q = (pA S fun a S => shO M a 0 (rrf M a 2 fun r => vc n d 100 28 L (.inr (.inr r) :: S) M Q)) := nr rfl
set_option maxRecDepth 100000 in
theorem v100_28 (n d : Nat) (L : List (Option mL)) (S : List mV) (M : Mm) (Q : mQ) : vc (n + 1) d 100 28 L S M Q = (pAs 0 S fun as S => pA S fun a S => shO M a 2 (stk S ≤ 8 ∧ XC d 102 (.inr (some a) :: as) M (fun r M => r = none ∧ X d 100 31 L S M Q))) := nr rfl
set_option maxRecDepth 100000 in
theorem v100_31 (n d : Nat) (L : List (Option mL)) (S : List mV) (M : Mm) (Q : mQ) : vc (n + 1) d 100 31 L S M Q = (gR L 0 fun x => vc n d 100 32 L (.inr (.inr x) :: S) M Q) := nr rfl
set_option maxRecDepth 100000 in
theorem v100_32 (n d : Nat) (L : List (Option mL)) (S : List mV) (M : Mm) (Q : mQ) : vc (n + 1) d 100 32 L S M Q = (pA S fun a S => shO M a 0 (rrf M a 0 fun r => vc n d 100 35 L (.inr (.inr r) :: S) M Q)) := nr rfl
set_option maxRecDepth 100000 in
theorem v100_35 (n d : Nat) (L : List (Option mL)) (S : List mV) (M : Mm) (Q : mQ) : vc (n + 1) d 100 35 L S M Q = (pAs 0 S fun as S => pA S fun a S => shO M a 3 (stk S ≤ 8 ∧ XC d 16 (.inr (some a) :: as) M (fun r M => ∃ x : Option Nat, r = some (.inr (.inr x)) ∧ X d 100 38 L (.inr (.inr x) :: S) M Q))) := nr rfl
set_option maxRecDepth 100000 in
theorem v100_38 (n d : Nat) (L : List (Option mL)) (S : List mV) (M : Mm) (Q : mQ) : vc (n + 1) d 100 38 L S M Q = (pA S fun a S => shO M a 8 (vc n d 100 41 L (.inl (M.it a 1) :: S) M Q)) := nr rfl
set_option maxRecDepth 100000 in
theorem v100_41 (n d : Nat) (L : List (Option mL)) (S : List mV) (M : Mm) (Q : mQ) : vc (n + 1) d 100 41 L S M Q = (vc n d 100 42 L (.inl 0 :: S) M Q) := nr rfl
set_option maxRecDepth 100000 in
theorem v100_42 (n d : Nat) (L : List (Option mL)) (S : List mV) (M : Mm) (Q : mQ) : vc (n + 1) d 100 42 L S M Q = (pI S fun y S => pI S fun x S => 0 < d ∧ stk S ≤ 8 ∧ vc n d 100 45 L (.inl (imax x y) :: S) M Q) := nr rfl
set_option maxRecDepth 100000 in
theorem v100_45 (n d : Nat) (L : List (Option mL)) (S : List mV) (M : Mm) (Q : mQ) : vc (n + 1) d 100 45 L S M Q = (pI S fun x S => sL L 2 (some (.inl x)) fun L => vc n d 100 46 L S M Q) := nr rfl
set_option maxRecDepth 100000 in
theorem v100_46 (n d : Nat) (L : List (Option mL)) (S : List mV) (M : Mm) (Q : mQ) : vc (n + 1) d 100 46 L S M Q = (gI L 2 fun x => vc n d 100 47 L (.inl x :: S) M Q) := nr rfl
set_option maxRecDepth 100000 in
theorem v100_47 (n d : Nat) (L : List (Option mL)) (S : List mV) (M : Mm) (Q : mQ) : vc (n + 1) d 100 47 L S M Q = (vc n d 100 48 L (.inl 1 :: S) M Q) := nr rfl
set_option maxRecDepth 100000 in
theorem v100_48 (n d : Nat) (L : List (Option mL)) (S : List mV) (M : Mm) (Q : mQ) : vc (n + 1) d 100 48 L S M Q = (pI S fun y S => pI S fun x S => vc n d 100 49 L (.inl (x + y) :: S) M Q) := nr rfl
set_option maxRecDepth 100000 in
theorem v100_49 (n d : Nat) (L : List (Option mL)) (S : List mV) (M : Mm) (Q : mQ) : vc (n + 1) d 100 49 L S M Q = (pI S fun x S => sL L 3 (some (.inl x)) fun L => X d 100 50 L S M Q) := nr rfl
set_option maxRecDepth 100000 in
theorem v100_50 (n d : Nat) (L : List (Option mL)) (S : List mV) (M : Mm) (Q : mQ) : vc (n + 1) d 100 50 L S M Q = (gI L 3 fun x => vc n d 100 51 L (.inl x :: S) M Q) := nr rfl
set_option maxRecDepth 100000 in
theorem v100_51 (n d : Nat) (L : List (Option mL)) (S : List mV) (M : Mm) (Q : mQ) : vc (n + 1) d 100 51 L S M Q = (gR L 0 fun x => vc n d 100 52 L (.inr (.inr x) :: S) M Q) := nr rfl
set_option maxRecDepth 100000 in
theorem v100_52 (n d : Nat) (L : List (Option mL)) (S : List mV) (M : Mm) (Q : mQ) : vc (n + 1) d 100 52 L S M Q = (pA S fun a S => shO M a 0 (vc n d 100 55 L (.inl (M.it a 17) :: S) M Q)) := nr rfl
set_option maxRecDepth 100000 in
theorem v100_55 (n d : Nat) (L : List (Option mL)) (S : List mV) (M : Mm) (Q : mQ) : vc (n + 1) d 100 55 L S M Q = (pI S fun y S => pI S fun x S => (y < x → vc n d 100 80 L S M Q) ∧ (¬ (y < x) → vc n d 100 58 L S M Q)) := nr rfl
set_option maxRecDepth 100000 in
theorem v100_58 (n d : Nat) (L : List (Option mL)) (S : List mV) (M : Mm) (Q : mQ) : vc (n + 1) d 100 58 L S M Q = (gI L 3 fun x => vc n d 100 59 L (.inl x :: S) M Q) := nr rfl
set_option maxRecDepth 100000 in
theorem v100_59 (n d : Nat) (L : List (Option mL)) (S : List mV) (M : Mm) (Q : mQ) : vc (n + 1) d 100 59 L S M Q = (gR L 0 fun x => vc n d 100 60 L (.inr (.inr x) :: S) M Q) := nr rfl
set_option maxRecDepth 100000 in
theorem v100_60 (n d : Nat) (L : List (Option mL)) (S : List mV) (M : Mm) (Q : mQ) : vc (n + 1) d 100 60 L S M Q = (pA S fun a S => shO M a 0 (rrf M a 13 fun r => vc n d 100 63 L (.inr (.inr r) :: S) M Q)) := nr rfl
set_option maxRecDepth 100000 in
theorem v100_63 (n d : Nat) (L : List (Option mL)) (S : List mV) (M : Mm) (Q : mQ) : vc (n + 1) d 100 63 L S M Q = (pA S fun a S => shA M a fun t k => aTyB t = true ∧ vc n d 100 64 L (.inl (nI k) :: S) M Q) := nr rfl
set_option maxRecDepth 100000 in
theorem v100_64 (n d : Nat) (L : List (Option mL)) (S : List mV) (M : Mm) (Q : mQ) : vc (n + 1) d 100 64 L S M Q = (pI S fun y S => pI S fun x S => (y ≤ x → vc n d 100 80 L S M Q) ∧ (¬ (y ≤ x) → vc n d 100 67 L S M Q)) := nr rfl
set_option maxRecDepth 100000 in
theorem v100_67 (n d : Nat) (L : List (Option mL)) (S : List mV) (M : Mm) (Q : mQ) : vc (n + 1) d 100 67 L S M Q = (gR L 0 fun x => vc n d 100 68 L (.inr (.inr x) :: S) M Q) := nr rfl
set_option maxRecDepth 100000 in
theorem v100_68 (n d : Nat) (L : List (Option mL)) (S : List mV) (M : Mm) (Q : mQ) : vc (n + 1) d 100 68 L S M Q = (pA S fun a S => shO M a 0 (rrf M a 13 fun r => vc n d 100 71 L (.inr (.inr r) :: S) M Q)) := nr rfl
set_option maxRecDepth 100000 in
theorem v100_71 (n d : Nat) (L : List (Option mL)) (S : List mV) (M : Mm) (Q : mQ) : vc (n + 1) d 100 71 L S M Q = (gI L 3 fun x => vc n d 100 72 L (.inl x :: S) M Q) := nr rfl
set_option maxRecDepth 100000 in
theorem v100_72 (n d : Nat) (L : List (Option mL)) (S : List mV) (M : Mm) (Q : mQ) : vc (n + 1) d 100 72 L S M Q = (vc n d 100 73 L (.inl 1 :: S) M Q) := nr rfl
set_option maxRecDepth 100000 in
theorem v100_73 (n d : Nat) (L : List (Option mL)) (S : List mV) (M : Mm) (Q : mQ) : vc (n + 1) d 100 73 L S M Q = (pI S fun x S => pI S fun i S => pA S fun a S => shA M a fun t k => (t = 42 ∨ t = 44) ∧ inB i k ∧ vc n d 100 74 L S (M.si a i.toNatClampNeg (bnar t x)) Q) := nr rfl
set_option maxRecDepth 100000 in
theorem v100_74 (n d : Nat) (L : List (Option mL)) (S : List mV) (M : Mm) (Q : mQ) : vc (n + 1) d 100 74 L S M Q = (gI L 3 fun x => sL L 3 (some (.inl (x + 1))) fun L => vc n d 100 77 L S M Q) := nr rfl
set_option maxRecDepth 100000 in
theorem v100_77 (n d : Nat) (L : List (Option mL)) (S : List mV) (M : Mm) (Q : mQ) : vc (n + 1) d 100 77 L S M Q = (X d 100 50 L S M Q) := nr rfl
set_option maxRecDepth 100000 in
theorem v100_80 (n d : Nat) (L : List (Option mL)) (S : List mV) (M : Mm) (Q : mQ) : vc (n + 1) d 100 80 L S M Q = (gR L 0 fun x => vc n d 100 81 L (.inr (.inr x) :: S) M Q) := nr rfl
set_option maxRecDepth 100000 in
theorem v100_81 (n d : Nat) (L : List (Option mL)) (S : List mV) (M : Mm) (Q : mQ) : vc (n + 1) d 100 81 L S M Q = (vc n d 100 82 L (.inl 1 :: S) M Q) := nr rfl
set_option maxRecDepth 100000 in
theorem v100_82 (n d : Nat) (L : List (Option mL)) (S : List mV) (M : Mm) (Q : mQ) : vc (n + 1) d 100 82 L S M Q = (pI S fun x S => pA S fun a S => (x = 0 ∨ x = 1) ∧ shO M a 0 (vc n d 100 85 L S (M.si a 18 x) Q)) := nr rfl
set_option maxRecDepth 100000 in
theorem v100_85 (n d : Nat) (L : List (Option mL)) (S : List mV) (M : Mm) (Q : mQ) : vc (n + 1) d 100 85 L S M Q = (gI L 1 fun x => vc n d 100 86 L (.inl x :: S) M Q) := nr rfl
set_option maxRecDepth 100000 in
theorem v100_86 (n d : Nat) (L : List (Option mL)) (S : List mV) (M : Mm) (Q : mQ) : vc (n + 1) d 100 86 L S M Q = (pI S fun x S => S = [] ∧ (0 = 0 ∨ x = 0 ∨ x = 1) ∧ Q (some (.inl x)) M) := nr rfl
set_option maxRecDepth 100000 in
theorem v101_0 (n d : Nat) (L : List (Option mL)) (S : List mV) (M : Mm) (Q : mQ) : vc (n + 1) d 101 0 L S M Q = (gR L 0 fun x => vc n d 101 1 L (.inr (.inr x) :: S) M Q) := nr rfl
set_option maxRecDepth 100000 in
theorem v101_1 (n d : Nat) (L : List (Option mL)) (S : List mV) (M : Mm) (Q : mQ) : vc (n + 1) d 101 1 L S M Q = (vc n d 101 2 L (.inl 0 :: S) M Q) := nr rfl
set_option maxRecDepth 100000 in
theorem v101_2 (n d : Nat) (L : List (Option mL)) (S : List mV) (M : Mm) (Q : mQ) : vc (n + 1) d 101 2 L S M Q = (pI S fun x S => pA S fun a S => shO M a 7 (vc n d 101 5 L S (M.si a 1 x) Q)) := nr rfl
set_option maxRecDepth 100000 in
theorem v101_5 (n d : Nat) (L : List (Option mL)) (S : List mV) (M : Mm) (Q : mQ) : vc (n + 1) d 101 5 L S M Q = (S = [] ∧ Q none M) := nr rfl
set_option maxRecDepth 100000 in
theorem v102_0 (n d : Nat) (L : List (Option mL)) (S : List mV) (M : Mm) (Q : mQ) : vc (n + 1) d 102 0 L S M Q = (gR L 0 fun x => vc n d 102 1 L (.inr (.inr x) :: S) M Q) := nr rfl
set_option maxRecDepth 100000 in
theorem v102_1 (n d : Nat) (L : List (Option mL)) (S : List mV) (M : Mm) (Q : mQ) : vc (n + 1) d 102 1 L S M Q = (vc n d 102 2 L (.inl 0 :: S) M Q) := nr rfl
set_option maxRecDepth 100000 in
theorem v102_2 (n d : Nat) (L : List (Option mL)) (S : List mV) (M : Mm) (Q : mQ) : vc (n + 1) d 102 2 L S M Q = (pI S fun x S => pA S fun a S => shO M a 2 (vc n d 102 5 L S (M.si a 1 x) Q)) := nr rfl
set_option maxRecDepth 100000 in
theorem v102_5 (n d : Nat) (L : List (Option mL)) (S : List mV) (M : Mm) (Q : mQ) : vc (n + 1) d 102 5 L S M Q = (S = [] ∧ Q none M) := nr rfl
set_option maxRecDepth 100000 in
theorem v103_0 (n d : Nat) (L : List (Option mL)) (S : List mV) (M : Mm) (Q : mQ) : vc (n + 1) d 103 0 L S M Q = (gR L 0 fun x => vc n d 103 1 L (.inr (.inr x) :: S) M Q) := nr rfl
set_option maxRecDepth 100000 in
theorem v103_1 (n d : Nat) (L : List (Option mL)) (S : List mV) (M : Mm) (Q : mQ) : vc (n + 1) d 103 1 L S M Q = (pA S fun a S => shO M a 0 (vc n d 103 4 L (.inl (M.it a 18) :: S) M Q)) := nr rfl
set_option maxRecDepth 100000 in
theorem v103_4 (n d : Nat) (L : List (Option mL)) (S : List mV) (M : Mm) (Q : mQ) : vc (n + 1) d 103 4 L S M Q = (pI S fun x S => (¬ x = 0 → vc n d 103 9 L S M Q) ∧ (¬ (¬ x = 0) → vc n d 103 7 L S M Q)) := nr rfl
set_option maxRecDepth 100000 in
theorem v103_7 (n d : Nat) (L : List (Option mL)) (S : List mV) (M : Mm) (Q : mQ) : vc (n + 1) d 103 7 L S M Q = (vc n d 103 8 L (.inl (-1) :: S) M Q) := nr rfl
set_option maxRecDepth 100000 in
theorem v103_8 (n d : Nat) (L : List (Option mL)) (S : List mV) (M : Mm) (Q : mQ) : vc (n + 1) d 103 8 L S M Q = (pI S fun x S => S = [] ∧ (0 = 0 ∨ x = 0 ∨ x = 1) ∧ Q (some (.inl x)) M) := nr rfl
set_option maxRecDepth 100000 in
theorem v103_9 (n d : Nat) (L : List (Option mL)) (S : List mV) (M : Mm) (Q : mQ) : vc (n + 1) d 103 9 L S M Q = (gR L 0 fun x => vc n d 103 10 L (.inr (.inr x) :: S) M Q) := nr rfl
set_option maxRecDepth 100000 in
theorem v103_10 (n d : Nat) (L : List (Option mL)) (S : List mV) (M : Mm) (Q : mQ) : vc (n + 1) d 103 10 L S M Q = (pAs 0 S fun as S => pA S fun a S => shO M a 0 (stk S ≤ 8 ∧ XC d 15 (.inr (some a) :: as) M (fun r M => r = none ∧ X d 103 13 L S M Q))) := nr rfl
set_option maxRecDepth 100000 in
theorem v103_13 (n d : Nat) (L : List (Option mL)) (S : List mV) (M : Mm) (Q : mQ) : vc (n + 1) d 103 13 L S M Q = (gR L 0 fun x => vc n d 103 14 L (.inr (.inr x) :: S) M Q) := nr rfl
set_option maxRecDepth 100000 in
theorem v103_14 (n d : Nat) (L : List (Option mL)) (S : List mV) (M : Mm) (Q : mQ) : vc (n + 1) d 103 14 L S M Q = (pA S fun a S => shO M a 0 (rrf M a 5 fun r => vc n d 103 17 L (.inr (.inr r) :: S) M Q)) := nr rfl
set_option maxRecDepth 100000 in
theorem v103_17 (n d : Nat) (L : List (Option mL)) (S : List mV) (M : Mm) (Q : mQ) : vc (n + 1) d 103 17 L S M Q = (pAs 0 S fun as S => pA S fun a S => shO M a 5 (stk S ≤ 8 ∧ XC d 66 (.inr (some a) :: as) M (fun r M => ∃ x : Int32, r = some (.inl x) ∧ X d 103 20 L (.inl x :: S) M Q))) := nr rfl
set_option maxRecDepth 100000 in
theorem v103_20 (n d : Nat) (L : List (Option mL)) (S : List mV) (M : Mm) (Q : mQ) : vc (n + 1) d 103 20 L S M Q = (pI S fun x S => S = [] ∧ (0 = 0 ∨ x = 0 ∨ x = 1) ∧ Q (some (.inl x)) M) := nr rfl
set_option maxRecDepth 100000 in
theorem v104_0 (n d : Nat) (L : List (Option mL)) (S : List mV) (M : Mm) (Q : mQ) : vc (n + 1) d 104 0 L S M Q = (gI L 1 fun x => vc n d 104 1 L (.inl x :: S) M Q) := nr rfl
set_option maxRecDepth 100000 in
theorem v104_1 (n d : Nat) (L : List (Option mL)) (S : List mV) (M : Mm) (Q : mQ) : vc (n + 1) d 104 1 L S M Q = (pI S fun x S => (x.toInt = 0 → vc n d 104 44 L S M Q) ∧ (¬ x.toInt = 0 → (x.toInt = 5 → vc n d 104 49 L S M Q) ∧ (¬ x.toInt = 5 → (x.toInt = 7 → vc n d 104 57 L S M Q) ∧ (¬ x.toInt = 7 → (x.toInt = 11 → vc n d 104 68 L S M Q) ∧ (¬ x.toInt = 11 → vc n d 104 81 L S M Q))))) := nr rfl
set_option maxRecDepth 100000 in
theorem v104_44 (n d : Nat) (L : List (Option mL)) (S : List mV) (M : Mm) (Q : mQ) : vc (n + 1) d 104 44 L S M Q = (gR L 0 fun x => vc n d 104 45 L (.inr (.inr x) :: S) M Q) := nr rfl
set_option maxRecDepth 100000 in
theorem v104_45 (n d : Nat) (L : List (Option mL)) (S : List mV) (M : Mm) (Q : mQ) : vc (n + 1) d 104 45 L S M Q = (pA S fun a S => shO M a 0 (vc n d 104 48 L (.inl (M.it a 17) :: S) M Q)) := nr rfl
set_option maxRecDepth 100000 in
theorem v104_48 (n d : Nat) (L : List (Option mL)) (S : List mV) (M : Mm) (Q : mQ) : vc (n + 1) d 104 48 L S M Q = (pI S fun x S => S = [] ∧ (0 = 0 ∨ x = 0 ∨ x = 1) ∧ Q (some (.inl x)) M) := nr rfl
set_option maxRecDepth 100000 in
theorem v104_49 (n d : Nat) (L : List (Option mL)) (S : List mV) (M : Mm) (Q : mQ) : vc (n + 1) d 104 49 L S M Q = (gR L 0 fun x => vc n d 104 50 L (.inr (.inr x) :: S) M Q) := nr rfl
set_option maxRecDepth 100000 in
theorem v104_50 (n d : Nat) (L : List (Option mL)) (S : List mV) (M : Mm) (Q : mQ) : vc (n + 1) d 104 50 L S M Q = (pA S fun a S => shO M a 0 (rrf M a 2 fun r => vc n d 104 53 L (.inr (.inr r) :: S) M Q)) := nr rfl
set_option maxRecDepth 100000 in
theorem v104_53 (n d : Nat) (L : List (Option mL)) (S : List mV) (M : Mm) (Q : mQ) : vc (n + 1) d 104 53 L S M Q = (pA S fun a S => shO M a 2 (vc n d 104 56 L (.inl (M.it a 2) :: S) M Q)) := nr rfl
set_option maxRecDepth 100000 in
theorem v104_56 (n d : Nat) (L : List (Option mL)) (S : List mV) (M : Mm) (Q : mQ) : vc (n + 1) d 104 56 L S M Q = (pI S fun x S => S = [] ∧ (0 = 0 ∨ x = 0 ∨ x = 1) ∧ Q (some (.inl x)) M) := nr rfl
set_option maxRecDepth 100000 in
theorem v104_57 (n d : Nat) (L : List (Option mL)) (S : List mV) (M : Mm) (Q : mQ) : vc (n + 1) d 104 57 L S M Q = (gR L 0 fun x => vc n d 104 58 L (.inr (.inr x) :: S) M Q) := nr rfl
set_option maxRecDepth 100000 in
theorem v104_58 (n d : Nat) (L : List (Option mL)) (S : List mV) (M : Mm) (Q : mQ) : vc (n + 1) d 104 58 L S M Q = (pA S fun a S => shO M a 0 (rrf M a 0 fun r => vc n d 104 61 L (.inr (.inr r) :: S) M Q)) := nr rfl
set_option maxRecDepth 100000 in
theorem v104_61 (n d : Nat) (L : List (Option mL)) (S : List mV) (M : Mm) (Q : mQ) : vc (n + 1) d 104 61 L S M Q = (pAs 0 S fun as S => pA S fun a S => shO M a 3 (stk S ≤ 8 ∧ XC d 16 (.inr (some a) :: as) M (fun r M => ∃ x : Option Nat, r = some (.inr (.inr x)) ∧ X d 104 64 L (.inr (.inr x) :: S) M Q))) := nr rfl
set_option maxRecDepth 100000 in
theorem v104_64 (n d : Nat) (L : List (Option mL)) (S : List mV) (M : Mm) (Q : mQ) : vc (n + 1) d 104 64 L S M Q = (pA S fun a S => shO M a 8 (vc n d 104 67 L (.inl (M.it a 1) :: S) M Q)) := nr rfl
set_option maxRecDepth 100000 in
theorem v104_67 (n d : Nat) (L : List (Option mL)) (S : List mV) (M : Mm) (Q : mQ) : vc (n + 1) d 104 67 L S M Q = (pI S fun x S => S = [] ∧ (0 = 0 ∨ x = 0 ∨ x = 1) ∧ Q (some (.inl x)) M) := nr rfl
set_option maxRecDepth 100000 in
theorem v104_68 (n d : Nat) (L : List (Option mL)) (S : List mV) (M : Mm) (Q : mQ) : vc (n + 1) d 104 68 L S M Q = (gR L 0 fun x => vc n d 104 69 L (.inr (.inr x) :: S) M Q) := nr rfl
set_option maxRecDepth 100000 in
theorem v104_69 (n d : Nat) (L : List (Option mL)) (S : List mV) (M : Mm) (Q : mQ) : vc (n + 1) d 104 69 L S M Q = (pA S fun a S => shO M a 0 (vc n d 104 72 L (.inl (M.it a 18) :: S) M Q)) := nr rfl
set_option maxRecDepth 100000 in
theorem v104_72 (n d : Nat) (L : List (Option mL)) (S : List mV) (M : Mm) (Q : mQ) : vc (n + 1) d 104 72 L S M Q = (pI S fun x S => (x = 0 → vc n d 104 79 L S M Q) ∧ (¬ (x = 0) → vc n d 104 75 L S M Q)) := nr rfl
set_option maxRecDepth 100000 in
theorem v104_75 (n d : Nat) (L : List (Option mL)) (S : List mV) (M : Mm) (Q : mQ) : vc (n + 1) d 104 75 L S M Q = (vc n d 104 76 L (.inl 1 :: S) M Q) := nr rfl
set_option maxRecDepth 100000 in
theorem v104_76 (n d : Nat) (L : List (Option mL)) (S : List mV) (M : Mm) (Q : mQ) : vc (n + 1) d 104 76 L S M Q = (vc n d 104 80 L S M Q) := nr rfl
set_option maxRecDepth 100000 in
theorem v104_79 (n d : Nat) (L : List (Option mL)) (S : List mV) (M : Mm) (Q : mQ) : vc (n + 1) d 104 79 L S M Q = (vc n d 104 80 L (.inl 0 :: S) M Q) := nr rfl
set_option maxRecDepth 100000 in
theorem v104_80 (n d : Nat) (L : List (Option mL)) (S : List mV) (M : Mm) (Q : mQ) : vc (n + 1) d 104 80 L S M Q = (pI S fun x S => S = [] ∧ (0 = 0 ∨ x = 0 ∨ x = 1) ∧ Q (some (.inl x)) M) := nr rfl
set_option maxRecDepth 100000 in
theorem v104_81 (n d : Nat) (L : List (Option mL)) (S : List mV) (M : Mm) (Q : mQ) : vc (n + 1) d 104 81 L S M Q = (gR L 0 fun x => vc n d 104 82 L (.inr (.inr x) :: S) M Q) := nr rfl
set_option maxRecDepth 100000 in
theorem v104_82 (n d : Nat) (L : List (Option mL)) (S : List mV) (M : Mm) (Q : mQ) : vc (n + 1) d 104 82 L S M Q = (pA S fun a S => shO M a 0 (vc n d 104 85 L (.inl (M.it a 18) :: S) M Q)) := nr rfl
set_option maxRecDepth 100000 in
theorem v104_85 (n d : Nat) (L : List (Option mL)) (S : List mV) (M : Mm) (Q : mQ) : vc (n + 1) d 104 85 L S M Q = (pI S fun x S => (x = 0 → vc n d 104 95 L S M Q) ∧ (¬ (x = 0) → vc n d 104 88 L S M Q)) := nr rfl
set_option maxRecDepth 100000 in
theorem v104_88 (n d : Nat) (L : List (Option mL)) (S : List mV) (M : Mm) (Q : mQ) : vc (n + 1) d 104 88 L S M Q = (gI L 1 fun x => vc n d 104 89 L (.inl x :: S) M Q) := nr rfl
set_option maxRecDepth 100000 in
theorem v104_89 (n d : Nat) (L : List (Option mL)) (S : List mV) (M : Mm) (Q : mQ) : vc (n + 1) d 104 89 L S M Q = (pAs 1 S fun as S => stk S ≤ 8 ∧ XC d 105 as M (fun r M => ∃ x : Int32, r = some (.inl x) ∧ X d 104 92 L (.inl x :: S) M Q)) := nr rfl
set_option maxRecDepth 100000 in
theorem v104_92 (n d : Nat) (L : List (Option mL)) (S : List mV) (M : Mm) (Q : mQ) : vc (n + 1) d 104 92 L S M Q = (X d 104 100 L S M Q) := nr rfl
set_option maxRecDepth 100000 in
theorem v104_95 (n d : Nat) (L : List (Option mL)) (S : List mV) (M : Mm) (Q : mQ) : vc (n + 1) d 104 95 L S M Q = (gR L 0 fun x => vc n d 104 96 L (.inr (.inr x) :: S) M Q) := nr rfl
set_option maxRecDepth 100000 in
theorem v104_96 (n d : Nat) (L : List (Option mL)) (S : List mV) (M : Mm) (Q : mQ) : vc (n + 1) d 104 96 L S M Q = (gI L 1 fun x => vc n d 104 97 L (.inl x :: S) M Q) := nr rfl
set_option maxRecDepth 100000 in
theorem v104_97 (n d : Nat) (L : List (Option mL)) (S : List mV) (M : Mm) (Q : mQ) : vc (n + 1) d 104 97 L S M Q = (pAs 1 S fun as S => pA S fun a S => shO M a 0 (stk S ≤ 8 ∧ XC d 106 (.inr (some a) :: as) M (fun r M => ∃ x : Int32, r = some (.inl x) ∧ X d 104 100 L (.inl x :: S) M Q))) := nr rfl
set_option maxRecDepth 100000 in
theorem v104_100 (n d : Nat) (L : List (Option mL)) (S : List mV) (M : Mm) (Q : mQ) : vc (n + 1) d 104 100 L S M Q = (pI S fun x S => S = [] ∧ (0 = 0 ∨ x = 0 ∨ x = 1) ∧ Q (some (.inl x)) M) := nr rfl
set_option maxRecDepth 100000 in
theorem v105_0 (n d : Nat) (L : List (Option mL)) (S : List mV) (M : Mm) (Q : mQ) : vc (n + 1) d 105 0 L S M Q = (gI L 0 fun x => vc n d 105 1 L (.inl x :: S) M Q) := nr rfl
set_option maxRecDepth 100000 in
theorem v105_1 (n d : Nat) (L : List (Option mL)) (S : List mV) (M : Mm) (Q : mQ) : vc (n + 1) d 105 1 L S M Q = (vc n d 105 2 L (.inl 1 :: S) M Q) := nr rfl
set_option maxRecDepth 100000 in
theorem v105_2 (n d : Nat) (L : List (Option mL)) (S : List mV) (M : Mm) (Q : mQ) : vc (n + 1) d 105 2 L S M Q = (pI S fun y S => pI S fun x S => (x < y → vc n d 105 20 L S M Q) ∧ (¬ (x < y) → vc n d 105 5 L S M Q)) := nr rfl
set_option maxRecDepth 100000 in
theorem v105_5 (n d : Nat) (L : List (Option mL)) (S : List mV) (M : Mm) (Q : mQ) : vc (n + 1) d 105 5 L S M Q = (gI L 0 fun x => vc n d 105 6 L (.inl x :: S) M Q) := nr rfl
set_option maxRecDepth 100000 in
theorem v105_6 (n d : Nat) (L : List (Option mL)) (S : List mV) (M : Mm) (Q : mQ) : vc (n + 1) d 105 6 L S M Q = (vc n d 105 8 L (.inl 10 :: S) M Q) := nr rfl
set_option maxRecDepth 100000 in
theorem v105_8 (n d : Nat) (L : List (Option mL)) (S : List mV) (M : Mm) (Q : mQ) : vc (n + 1) d 105 8 L S M Q = (pI S fun y S => pI S fun x S => (y < x → vc n d 105 20 L S M Q) ∧ (¬ (y < x) → vc n d 105 11 L S M Q)) := nr rfl
set_option maxRecDepth 100000 in
theorem v105_11 (n d : Nat) (L : List (Option mL)) (S : List mV) (M : Mm) (Q : mQ) : vc (n + 1) d 105 11 L S M Q = (gI L 0 fun x => vc n d 105 12 L (.inl x :: S) M Q) := nr rfl
set_option maxRecDepth 100000 in
theorem v105_12 (n d : Nat) (L : List (Option mL)) (S : List mV) (M : Mm) (Q : mQ) : vc (n + 1) d 105 12 L S M Q = (vc n d 105 13 L (.inl 4 :: S) M Q) := nr rfl
set_option maxRecDepth 100000 in
theorem v105_13 (n d : Nat) (L : List (Option mL)) (S : List mV) (M : Mm) (Q : mQ) : vc (n + 1) d 105 13 L S M Q = (pI S fun y S => pI S fun x S => (x = y → vc n d 105 20 L S M Q) ∧ (¬ (x = y) → vc n d 105 16 L S M Q)) := nr rfl
set_option maxRecDepth 100000 in
theorem v105_16 (n d : Nat) (L : List (Option mL)) (S : List mV) (M : Mm) (Q : mQ) : vc (n + 1) d 105 16 L S M Q = (vc n d 105 17 L (.inl 0 :: S) M Q) := nr rfl
set_option maxRecDepth 100000 in
theorem v105_17 (n d : Nat) (L : List (Option mL)) (S : List mV) (M : Mm) (Q : mQ) : vc (n + 1) d 105 17 L S M Q = (vc n d 105 21 L S M Q) := nr rfl
set_option maxRecDepth 100000 in
theorem v105_20 (n d : Nat) (L : List (Option mL)) (S : List mV) (M : Mm) (Q : mQ) : vc (n + 1) d 105 20 L S M Q = (vc n d 105 21 L (.inl (-1) :: S) M Q) := nr rfl
set_option maxRecDepth 100000 in
theorem v105_21 (n d : Nat) (L : List (Option mL)) (S : List mV) (M : Mm) (Q : mQ) : vc (n + 1) d 105 21 L S M Q = (pI S fun x S => S = [] ∧ (0 = 0 ∨ x = 0 ∨ x = 1) ∧ Q (some (.inl x)) M) := nr rfl
set_option maxRecDepth 100000 in
theorem v106_0 (n d : Nat) (L : List (Option mL)) (S : List mV) (M : Mm) (Q : mQ) : vc (n + 1) d 106 0 L S M Q = (gI L 1 fun x => vc n d 106 1 L (.inl x :: S) M Q) := nr rfl
set_option maxRecDepth 100000 in
theorem v106_1 (n d : Nat) (L : List (Option mL)) (S : List mV) (M : Mm) (Q : mQ) : vc (n + 1) d 106 1 L S M Q = (pI S fun x S => (x.toInt = 1 → vc n d 106 56 L S M Q) ∧ (¬ x.toInt = 1 → (x.toInt = 2 → vc n d 106 64 L S M Q) ∧ (¬ x.toInt = 2 → (x.toInt = 3 → vc n d 106 72 L S M Q) ∧ (¬ x.toInt = 3 → (x.toInt = 4 → vc n d 106 80 L S M Q) ∧ (¬ x.toInt = 4 → (x.toInt = 5 → vc n d 106 120 L S M Q) ∧ (¬ x.toInt = 5 → (x.toInt = 6 → vc n d 106 88 L S M Q) ∧ (¬ x.toInt = 6 → (x.toInt = 7 → vc n d 106 120 L S M Q) ∧ (¬ x.toInt = 7 → (x.toInt = 8 → vc n d 106 96 L S M Q) ∧ (¬ x.toInt = 8 → (x.toInt = 9 → vc n d 106 104 L S M Q) ∧ (¬ x.toInt = 9 → (x.toInt = 10 → vc n d 106 115 L S M Q) ∧ (¬ x.toInt = 10 → vc n d 106 120 L S M Q))))))))))) := nr rfl
set_option maxRecDepth 100000 in
theorem v106_56 (n d : Nat) (L : List (Option mL)) (S : List mV) (M : Mm) (Q : mQ) : vc (n + 1) d 106 56 L S M Q = (gR L 0 fun x => vc n d 106 57 L (.inr (.inr x) :: S) M Q) := nr rfl
set_option maxRecDepth 100000 in
theorem v106_57 (n d : Nat) (L : List (Option mL)) (S : List mV) (M : Mm) (Q : mQ) : vc (n + 1) d 106 57 L S M Q = (pA S fun a S => shO M a 0 (rrf M a 1 fun r => vc n d 106 60 L (.inr (.inr r) :: S) M Q)) := nr rfl
set_option maxRecDepth 100000 in
theorem v106_60 (n d : Nat) (L : List (Option mL)) (S : List mV) (M : Mm) (Q : mQ) : vc (n + 1) d 106 60 L S M Q = (pA S fun a S => shO M a 7 (vc n d 106 63 L (.inl (M.it a 1) :: S) M Q)) := nr rfl
set_option maxRecDepth 100000 in
theorem v106_63 (n d : Nat) (L : List (Option mL)) (S : List mV) (M : Mm) (Q : mQ) : vc (n + 1) d 106 63 L S M Q = (pI S fun x S => S = [] ∧ (0 = 0 ∨ x = 0 ∨ x = 1) ∧ Q (some (.inl x)) M) := nr rfl
set_option maxRecDepth 100000 in
theorem v106_64 (n d : Nat) (L : List (Option mL)) (S : List mV) (M : Mm) (Q : mQ) : vc (n + 1) d 106 64 L S M Q = (gR L 0 fun x => vc n d 106 65 L (.inr (.inr x) :: S) M Q) := nr rfl
set_option maxRecDepth 100000 in
theorem v106_65 (n d : Nat) (L : List (Option mL)) (S : List mV) (M : Mm) (Q : mQ) : vc (n + 1) d 106 65 L S M Q = (pA S fun a S => shO M a 0 (rrf M a 1 fun r => vc n d 106 68 L (.inr (.inr r) :: S) M Q)) := nr rfl
set_option maxRecDepth 100000 in
theorem v106_68 (n d : Nat) (L : List (Option mL)) (S : List mV) (M : Mm) (Q : mQ) : vc (n + 1) d 106 68 L S M Q = (pAs 0 S fun as S => pA S fun a S => shO M a 7 (stk S ≤ 8 ∧ XC d 107 (.inr (some a) :: as) M (fun r M => ∃ x : Int32, r = some (.inl x) ∧ X d 106 71 L (.inl x :: S) M Q))) := nr rfl
set_option maxRecDepth 100000 in
theorem v106_71 (n d : Nat) (L : List (Option mL)) (S : List mV) (M : Mm) (Q : mQ) : vc (n + 1) d 106 71 L S M Q = (pI S fun x S => S = [] ∧ (0 = 0 ∨ x = 0 ∨ x = 1) ∧ Q (some (.inl x)) M) := nr rfl
set_option maxRecDepth 100000 in
theorem v106_72 (n d : Nat) (L : List (Option mL)) (S : List mV) (M : Mm) (Q : mQ) : vc (n + 1) d 106 72 L S M Q = (gR L 0 fun x => vc n d 106 73 L (.inr (.inr x) :: S) M Q) := nr rfl
set_option maxRecDepth 100000 in
theorem v106_73 (n d : Nat) (L : List (Option mL)) (S : List mV) (M : Mm) (Q : mQ) : vc (n + 1) d 106 73 L S M Q = (pA S fun a S => shO M a 0 (rrf M a 3 fun r => vc n d 106 76 L (.inr (.inr r) :: S) M Q)) := nr rfl
set_option maxRecDepth 100000 in
theorem v106_76 (n d : Nat) (L : List (Option mL)) (S : List mV) (M : Mm) (Q : mQ) : vc (n + 1) d 106 76 L S M Q = (pAs 0 S fun as S => pA S fun a S => shO M a 6 (stk S ≤ 8 ∧ XC d 48 (.inr (some a) :: as) M (fun r M => ∃ x : Int32, r = some (.inl x) ∧ X d 106 79 L (.inl x :: S) M Q))) := nr rfl
set_option maxRecDepth 100000 in
theorem v106_79 (n d : Nat) (L : List (Option mL)) (S : List mV) (M : Mm) (Q : mQ) : vc (n + 1) d 106 79 L S M Q = (pI S fun x S => S = [] ∧ (0 = 0 ∨ x = 0 ∨ x = 1) ∧ Q (some (.inl x)) M) := nr rfl
set_option maxRecDepth 100000 in
theorem v106_80 (n d : Nat) (L : List (Option mL)) (S : List mV) (M : Mm) (Q : mQ) : vc (n + 1) d 106 80 L S M Q = (gR L 0 fun x => vc n d 106 81 L (.inr (.inr x) :: S) M Q) := nr rfl
set_option maxRecDepth 100000 in
theorem v106_81 (n d : Nat) (L : List (Option mL)) (S : List mV) (M : Mm) (Q : mQ) : vc (n + 1) d 106 81 L S M Q = (pA S fun a S => shO M a 0 (rrf M a 3 fun r => vc n d 106 84 L (.inr (.inr r) :: S) M Q)) := nr rfl
set_option maxRecDepth 100000 in
theorem v106_84 (n d : Nat) (L : List (Option mL)) (S : List mV) (M : Mm) (Q : mQ) : vc (n + 1) d 106 84 L S M Q = (pA S fun a S => shO M a 6 (vc n d 106 87 L (.inl (M.it a 1) :: S) M Q)) := nr rfl
set_option maxRecDepth 100000 in
theorem v106_87 (n d : Nat) (L : List (Option mL)) (S : List mV) (M : Mm) (Q : mQ) : vc (n + 1) d 106 87 L S M Q = (pI S fun x S => S = [] ∧ (0 = 0 ∨ x = 0 ∨ x = 1) ∧ Q (some (.inl x)) M) := nr rfl
set_option maxRecDepth 100000 in
theorem v106_88 (n d : Nat) (L : List (Option mL)) (S : List mV) (M : Mm) (Q : mQ) : vc (n + 1) d 106 88 L S M Q = (gR L 0 fun x => vc n d 106 89 L (.inr (.inr x) :: S) M Q) := nr rfl
set_option maxRecDepth 100000 in
theorem v106_89 (n d : Nat) (L : List (Option mL)) (S : List mV) (M : Mm) (Q : mQ) : vc (n + 1) d 106 89 L S M Q = (pA S fun a S => shO M a 0 (rrf M a 14 fun r => vc n d 106 92 L (.inr (.inr r) :: S) M Q)) := nr rfl
set_option maxRecDepth 100000 in
theorem v106_92 (n d : Nat) (L : List (Option mL)) (S : List mV) (M : Mm) (Q : mQ) : vc (n + 1) d 106 92 L S M Q = (pA S fun a S => shO M a 8 (vc n d 106 95 L (.inl (M.it a 0) :: S) M Q)) := nr rfl
set_option maxRecDepth 100000 in
theorem v106_95 (n d : Nat) (L : List (Option mL)) (S : List mV) (M : Mm) (Q : mQ) : vc (n + 1) d 106 95 L S M Q = (pI S fun x S => S = [] ∧ (0 = 0 ∨ x = 0 ∨ x = 1) ∧ Q (some (.inl x)) M) := nr rfl
set_option maxRecDepth 100000 in
theorem v106_96 (n d : Nat) (L : List (Option mL)) (S : List mV) (M : Mm) (Q : mQ) : vc (n + 1) d 106 96 L S M Q = (gR L 0 fun x => vc n d 106 97 L (.inr (.inr x) :: S) M Q) := nr rfl
set_option maxRecDepth 100000 in
theorem v106_97 (n d : Nat) (L : List (Option mL)) (S : List mV) (M : Mm) (Q : mQ) : vc (n + 1) d 106 97 L S M Q = (pA S fun a S => shO M a 0 (rrf M a 5 fun r => vc n d 106 100 L (.inr (.inr r) :: S) M Q)) := nr rfl
set_option maxRecDepth 100000 in
theorem v106_100 (n d : Nat) (L : List (Option mL)) (S : List mV) (M : Mm) (Q : mQ) : vc (n + 1) d 106 100 L S M Q = (pA S fun a S => shO M a 5 (vc n d 106 103 L (.inl (M.it a 2) :: S) M Q)) := nr rfl
set_option maxRecDepth 100000 in
theorem v106_103 (n d : Nat) (L : List (Option mL)) (S : List mV) (M : Mm) (Q : mQ) : vc (n + 1) d 106 103 L S M Q = (pI S fun x S => S = [] ∧ (0 = 0 ∨ x = 0 ∨ x = 1) ∧ Q (some (.inl x)) M) := nr rfl
set_option maxRecDepth 100000 in
theorem v106_104 (n d : Nat) (L : List (Option mL)) (S : List mV) (M : Mm) (Q : mQ) : vc (n + 1) d 106 104 L S M Q = (gR L 0 fun x => vc n d 106 105 L (.inr (.inr x) :: S) M Q) := nr rfl
set_option maxRecDepth 100000 in
theorem v106_105 (n d : Nat) (L : List (Option mL)) (S : List mV) (M : Mm) (Q : mQ) : vc (n + 1) d 106 105 L S M Q = (pA S fun a S => shO M a 0 (rrf M a 5 fun r => vc n d 106 108 L (.inr (.inr r) :: S) M Q)) := nr rfl
set_option maxRecDepth 100000 in
theorem v106_108 (n d : Nat) (L : List (Option mL)) (S : List mV) (M : Mm) (Q : mQ) : vc (n + 1) d 106 108 L S M Q = (pA S fun a S => shO M a 5 (rrf M a 0 fun r => vc n d 106 111 L (.inr (.inr r) :: S) M Q)) := nr rfl
set_option maxRecDepth 100000 in
theorem v106_111 (n d : Nat) (L : List (Option mL)) (S : List mV) (M : Mm) (Q : mQ) : vc (n + 1) d 106 111 L S M Q = (pA S fun a S => shO M a 4 (vc n d 106 114 L (.inl (M.it a 1) :: S) M Q)) := nr rfl
set_option maxRecDepth 100000 in
theorem v106_114 (n d : Nat) (L : List (Option mL)) (S : List mV) (M : Mm) (Q : mQ) : vc (n + 1) d 106 114 L S M Q = (pI S fun x S => S = [] ∧ (0 = 0 ∨ x = 0 ∨ x = 1) ∧ Q (some (.inl x)) M) := nr rfl
set_option maxRecDepth 100000 in
theorem v106_115 (n d : Nat) (L : List (Option mL)) (S : List mV) (M : Mm) (Q : mQ) : vc (n + 1) d 106 115 L S M Q = (gR L 0 fun x => vc n d 106 116 L (.inr (.inr x) :: S) M Q) := nr rfl
set_option maxRecDepth 100000 in
theorem v106_116 (n d : Nat) (L : List (Option mL)) (S : List mV) (M : Mm) (Q : mQ) : vc (n + 1) d 106 116 L S M Q = (pA S fun a S => shO M a 0 (vc n d 106 119 L (.inl (M.it a 16) :: S) M Q)) := nr rfl
set_option maxRecDepth 100000 in
theorem v106_119 (n d : Nat) (L : List (Option mL)) (S : List mV) (M : Mm) (Q : mQ) : vc (n + 1) d 106 119 L S M Q = (pI S fun x S => S = [] ∧ (0 = 0 ∨ x = 0 ∨ x = 1) ∧ Q (some (.inl x)) M) := nr rfl
set_option maxRecDepth 100000 in
theorem v106_120 (n d : Nat) (L : List (Option mL)) (S : List mV) (M : Mm) (Q : mQ) : vc (n + 1) d 106 120 L S M Q = (vc n d 106 121 L (.inl (-1) :: S) M Q) := nr rfl
set_option maxRecDepth 100000 in
theorem v106_121 (n d : Nat) (L : List (Option mL)) (S : List mV) (M : Mm) (Q : mQ) : vc (n + 1) d 106 121 L S M Q = (pI S fun x S => S = [] ∧ (0 = 0 ∨ x = 0 ∨ x = 1) ∧ Q (some (.inl x)) M) := nr rfl
set_option maxRecDepth 100000 in
theorem v107_0 (n d : Nat) (L : List (Option mL)) (S : List mV) (M : Mm) (Q : mQ) : vc (n + 1) d 107 0 L S M Q = (vc n d 107 1 L (.inl 0 :: S) M Q) := nr rfl
set_option maxRecDepth 100000 in
theorem v107_1 (n d : Nat) (L : List (Option mL)) (S : List mV) (M : Mm) (Q : mQ) : vc (n + 1) d 107 1 L S M Q = (pI S fun x S => sL L 1 (some (.inl x)) fun L => vc n d 107 2 L S M Q) := nr rfl
set_option maxRecDepth 100000 in
theorem v107_2 (n d : Nat) (L : List (Option mL)) (S : List mV) (M : Mm) (Q : mQ) : vc (n + 1) d 107 2 L S M Q = (vc n d 107 3 L (.inl 0 :: S) M Q) := nr rfl
set_option maxRecDepth 100000 in
theorem v107_3 (n d : Nat) (L : List (Option mL)) (S : List mV) (M : Mm) (Q : mQ) : vc (n + 1) d 107 3 L S M Q = (pI S fun x S => sL L 2 (some (.inl x)) fun L => X d 107 4 L S M Q) := nr rfl
set_option maxRecDepth 100000 in
theorem v107_4 (n d : Nat) (L : List (Option mL)) (S : List mV) (M : Mm) (Q : mQ) : vc (n + 1) d 107 4 L S M Q = (gI L 2 fun x => vc n d 107 5 L (.inl x :: S) M Q) := nr rfl
set_option maxRecDepth 100000 in
theorem v107_5 (n d : Nat) (L : List (Option mL)) (S : List mV) (M : Mm) (Q : mQ) : vc (n + 1) d 107 5 L S M Q = (gR L 0 fun x => vc n d 107 6 L (.inr (.inr x) :: S) M Q) := nr rfl
set_option maxRecDepth 100000 in
theorem v107_6 (n d : Nat) (L : List (Option mL)) (S : List mV) (M : Mm) (Q : mQ) : vc (n + 1) d 107 6 L S M Q = (pA S fun a S => shO M a 7 (vc n d 107 9 L (.inl (M.it a 1) :: S) M Q)) := nr rfl
set_option maxRecDepth 100000 in
theorem v107_9 (n d : Nat) (L : List (Option mL)) (S : List mV) (M : Mm) (Q : mQ) : vc (n + 1) d 107 9 L S M Q = (pI S fun y S => pI S fun x S => (y ≤ x → vc n d 107 33 L S M Q) ∧ (¬ (y ≤ x) → vc n d 107 12 L S M Q)) := nr rfl
set_option maxRecDepth 100000 in
theorem v107_12 (n d : Nat) (L : List (Option mL)) (S : List mV) (M : Mm) (Q : mQ) : vc (n + 1) d 107 12 L S M Q = (gR L 0 fun x => vc n d 107 13 L (.inr (.inr x) :: S) M Q) := nr rfl
set_option maxRecDepth 100000 in
theorem v107_13 (n d : Nat) (L : List (Option mL)) (S : List mV) (M : Mm) (Q : mQ) : vc (n + 1) d 107 13 L S M Q = (pA S fun a S => shO M a 7 (rrf M a 0 fun r => vc n d 107 16 L (.inr (.inr r) :: S) M Q)) := nr rfl
set_option maxRecDepth 100000 in
theorem v107_16 (n d : Nat) (L : List (Option mL)) (S : List mV) (M : Mm) (Q : mQ) : vc (n + 1) d 107 16 L S M Q = (gI L 2 fun x => vc n d 107 17 L (.inl x :: S) M Q) := nr rfl
set_option maxRecDepth 100000 in
theorem v107_17 (n d : Nat) (L : List (Option mL)) (S : List mV) (M : Mm) (Q : mQ) : vc (n + 1) d 107 17 L S M Q = (pI S fun i S => pA S fun a S => shA M a fun t k => rTyB t = true ∧ inB i k ∧ rrf M a i.toNatClampNeg fun r => vc n d 107 18 L (.inr (.inr r) :: S) M Q) := nr rfl
set_option maxRecDepth 100000 in
theorem v107_18 (n d : Nat) (L : List (Option mL)) (S : List mV) (M : Mm) (Q : mQ) : vc (n + 1) d 107 18 L S M Q = (pAs 0 S fun as S => pA S fun a S => shO M a 9 (stk S ≤ 8 ∧ XC d 94 (.inr (some a) :: as) M (fun r M => ∃ x : Int32, r = some (.inl x) ∧ X d 107 21 L (.inl x :: S) M Q))) := nr rfl
set_option maxRecDepth 100000 in
theorem v107_21 (n d : Nat) (L : List (Option mL)) (S : List mV) (M : Mm) (Q : mQ) : vc (n + 1) d 107 21 L S M Q = (pI S fun x S => (¬ x = 0 → vc n d 107 27 L S M Q) ∧ (¬ (¬ x = 0) → vc n d 107 24 L S M Q)) := nr rfl
set_option maxRecDepth 100000 in
theorem v107_24 (n d : Nat) (L : List (Option mL)) (S : List mV) (M : Mm) (Q : mQ) : vc (n + 1) d 107 24 L S M Q = (gI L 1 fun x => sL L 1 (some (.inl (x + 1))) fun L => vc n d 107 27 L S M Q) := nr rfl
set_option maxRecDepth 100000 in
theorem v107_27 (n d : Nat) (L : List (Option mL)) (S : List mV) (M : Mm) (Q : mQ) : vc (n + 1) d 107 27 L S M Q = (gI L 2 fun x => sL L 2 (some (.inl (x + 1))) fun L => vc n d 107 30 L S M Q) := nr rfl
set_option maxRecDepth 100000 in
theorem v107_30 (n d : Nat) (L : List (Option mL)) (S : List mV) (M : Mm) (Q : mQ) : vc (n + 1) d 107 30 L S M Q = (X d 107 4 L S M Q) := nr rfl
set_option maxRecDepth 100000 in
theorem v107_33 (n d : Nat) (L : List (Option mL)) (S : List mV) (M : Mm) (Q : mQ) : vc (n + 1) d 107 33 L S M Q = (gI L 1 fun x => vc n d 107 34 L (.inl x :: S) M Q) := nr rfl
set_option maxRecDepth 100000 in
theorem v107_34 (n d : Nat) (L : List (Option mL)) (S : List mV) (M : Mm) (Q : mQ) : vc (n + 1) d 107 34 L S M Q = (pI S fun x S => S = [] ∧ (0 = 0 ∨ x = 0 ∨ x = 1) ∧ Q (some (.inl x)) M) := nr rfl
