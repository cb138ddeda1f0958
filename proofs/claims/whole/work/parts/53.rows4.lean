/-! what each instruction leaves to show, printed by gen_rows.py -/
set_option maxRecDepth 100000 in
theorem v108_0 (n d : Nat) (L : List (Option mL)) (S : List mV) (M : Mm) (Q : mQ) : vc (n + 1) d 108 0 L S M Q = (gR L 0 fun x => vc n d 108 1 L (.inr (.inr x) :: S) M Q) := nr rfl
set_option maxRecDepth 100000 in
theorem v108_1 (n d : Nat) (L : List (Option mL)) (S : List mV) (M : Mm) (Q : mQ) : vc (n + 1) d 108 1 L S M Q = (pA S fun a S => shO M a 0 (rrf M a 1 fun r => vc n d 108 4 L (.inr (.inr r) :: S) M Q)) := nr rfl
set_option maxRecDepth 100000 in
theorem v108_4 (n d : Nat) (L : List (Option mL)) (S : List mV) (M : Mm) (Q : mQ) : vc (n + 1) d 108 4 L S M Q = (gI L 1 fun x => vc n d 108 5 L (.inl x :: S) M Q) := nr rfl
set_option maxRecDepth 100000 in
theorem v108_5 (n d : Nat) (L : List (Option mL)) (S : List mV) (M : Mm) (Q : mQ) : vc (n + 1) d 108 5 L S M Q = (pAs 1 S fun as S => pA S fun a S => shO M a 7 (stk S ≤ 8 ∧ XC d 74 (.inr (some a) :: as) M (fun r M => ∃ x : Option Nat, r = some (.inr (.inr x)) ∧ X d 108 8 L (.inr (.inr x) :: S) M Q))) := nr rfl
set_option maxRecDepth 100000 in
theorem v108_8 (n d : Nat) (L : List (Option mL)) (S : List mV) (M : Mm) (Q : mQ) : vc (n + 1) d 108 8 L S M Q = (pR S fun x S => sL L 3 (some (.inr x)) fun L => vc n d 108 9 L S M Q) := nr rfl
set_option maxRecDepth 100000 in
theorem v108_9 (n d : Nat) (L : List (Option mL)) (S : List mV) (M : Mm) (Q : mQ) : vc (n + 1) d 108 9 L S M Q = (gR L 3 fun x => vc n d 108 10 L (.inr (.inr x) :: S) M Q) := nr rfl
set_option maxRecDepth 100000 in
theorem v108_10 (n d : Nat) (L : List (Option mL)) (S : List mV) (M : Mm) (Q : mQ) : vc (n + 1) d 108 10 L S M Q = (pR S fun x S => (x = none → vc n d 108 13 L S M Q) ∧ (¬ (x = none) → vc n d 108 15 L S M Q)) := nr rfl
set_option maxRecDepth 100000 in
theorem v108_13 (n d : Nat) (L : List (Option mL)) (S : List mV) (M : Mm) (Q : mQ) : vc (n + 1) d 108 13 L S M Q = (vc n d 108 14 L (.inl (-1) :: S) M Q) := nr rfl
set_option maxRecDepth 100000 in
theorem v108_14 (n d : Nat) (L : List (Option mL)) (S : List mV) (M : Mm) (Q : mQ) : vc (n + 1) d 108 14 L S M Q = (pI S fun x S => S = [] ∧ (0 = 0 ∨ x = 0 ∨ x = 1) ∧ Q (some (.inl x)) M) := nr rfl
set_option maxRecDepth 100000 in
theorem v108_15 (n d : Nat) (L : List (Option mL)) (S : List mV) (M : Mm) (Q : mQ) : vc (n + 1) d 108 15 L S M Q = (gI L 2 fun x => vc n d 108 16 L (.inl x :: S) M Q) := nr rfl
set_option maxRecDepth 100000 in
theorem v108_16 (n d : Nat) (L : List (Option mL)) (S : List mV) (M : Mm) (Q : mQ) : vc (n + 1) d 108 16 L S M Q = (pI S fun x S => (x.toInt = 0 → vc n d 108 44 L S M Q) ∧ (¬ x.toInt = 0 → (x.toInt = 1 → vc n d 108 49 L S M Q) ∧ (¬ x.toInt = 1 → (x.toInt = 2 → vc n d 108 54 L S M Q) ∧ (¬ x.toInt = 2 → vc n d 108 59 L S M Q)))) := nr rfl
set_option maxRecDepth 100000 in
theorem v108_44 (n d : Nat) (L : List (Option mL)) (S : List mV) (M : Mm) (Q : mQ) : vc (n + 1) d 108 44 L S M Q = (gR L 3 fun x => vc n d 108 45 L (.inr (.inr x) :: S) M Q) := nr rfl
set_option maxRecDepth 100000 in
theorem v108_45 (n d : Nat) (L : List (Option mL)) (S : List mV) (M : Mm) (Q : mQ) : vc (n + 1) d 108 45 L S M Q = (pA S fun a S => shO M a 9 (vc n d 108 48 L (.inl (M.it a 2) :: S) M Q)) := nr rfl
set_option maxRecDepth 100000 in
theorem v108_48 (n d : Nat) (L : List (Option mL)) (S : List mV) (M : Mm) (Q : mQ) : vc (n + 1) d 108 48 L S M Q = (pI S fun x S => S = [] ∧ (0 = 0 ∨ x = 0 ∨ x = 1) ∧ Q (some (.inl x)) M) := nr rfl
set_option maxRecDepth 100000 in
theorem v108_49 (n d : Nat) (L : List (Option mL)) (S : List mV) (M : Mm) (Q : mQ) : vc (n + 1) d 108 49 L S M Q = (gR L 3 fun x => vc n d 108 50 L (.inr (.inr x) :: S) M Q) := nr rfl
set_option maxRecDepth 100000 in
theorem v108_50 (n d : Nat) (L : List (Option mL)) (S : List mV) (M : Mm) (Q : mQ) : vc (n + 1) d 108 50 L S M Q = (pA S fun a S => shO M a 9 (vc n d 108 53 L (.inl (M.it a 3) :: S) M Q)) := nr rfl
set_option maxRecDepth 100000 in
theorem v108_53 (n d : Nat) (L : List (Option mL)) (S : List mV) (M : Mm) (Q : mQ) : vc (n + 1) d 108 53 L S M Q = (pI S fun x S => S = [] ∧ (0 = 0 ∨ x = 0 ∨ x = 1) ∧ Q (some (.inl x)) M) := nr rfl
set_option maxRecDepth 100000 in
theorem v108_54 (n d : Nat) (L : List (Option mL)) (S : List mV) (M : Mm) (Q : mQ) : vc (n + 1) d 108 54 L S M Q = (gR L 3 fun x => vc n d 108 55 L (.inr (.inr x) :: S) M Q) := nr rfl
set_option maxRecDepth 100000 in
theorem v108_55 (n d : Nat) (L : List (Option mL)) (S : List mV) (M : Mm) (Q : mQ) : vc (n + 1) d 108 55 L S M Q = (pAs 0 S fun as S => pA S fun a S => shO M a 9 (stk S ≤ 8 ∧ XC d 94 (.inr (some a) :: as) M (fun r M => ∃ x : Int32, r = some (.inl x) ∧ X d 108 58 L (.inl x :: S) M Q))) := nr rfl
set_option maxRecDepth 100000 in
theorem v108_58 (n d : Nat) (L : List (Option mL)) (S : List mV) (M : Mm) (Q : mQ) : vc (n + 1) d 108 58 L S M Q = (pI S fun x S => S = [] ∧ (0 = 0 ∨ x = 0 ∨ x = 1) ∧ Q (some (.inl x)) M) := nr rfl
set_option maxRecDepth 100000 in
theorem v108_59 (n d : Nat) (L : List (Option mL)) (S : List mV) (M : Mm) (Q : mQ) : vc (n + 1) d 108 59 L S M Q = (vc n d 108 60 L (.inl (-1) :: S) M Q) := nr rfl
set_option maxRecDepth 100000 in
theorem v108_60 (n d : Nat) (L : List (Option mL)) (S : List mV) (M : Mm) (Q : mQ) : vc (n + 1) d 108 60 L S M Q = (pI S fun x S => S = [] ∧ (0 = 0 ∨ x = 0 ∨ x = 1) ∧ Q (some (.inl x)) M) := nr rfl
set_option maxRecDepth 100000 in
theorem v109_0 (n d : Nat) (L : List (Option mL)) (S : List mV) (M : Mm) (Q : mQ) : vc (n + 1) d 109 0 L S M Q = (gR L 0 fun x => vc n d 109 1 L (.inr (.inr x) :: S) M Q) := nr rfl
set_option maxRecDepth 100000 in
theorem v109_1 (n d : Nat) (L : List (Option mL)) (S : List mV) (M : Mm) (Q : mQ) : vc (n + 1) d 109 1 L S M Q = (pA S fun a S => shO M a 0 (vc n d 109 4 L (.inl (M.it a 18) :: S) M Q)) := nr rfl
set_option maxRecDepth 100000 in
theorem v109_4 (n d : Nat) (L : List (Option mL)) (S : List mV) (M : Mm) (Q : mQ) : vc (n + 1) d 109 4 L S M Q = (pI S fun x S => (¬ x = 0 → vc n d 109 14 L S M Q) ∧ (¬ (¬ x = 0) → vc n d 109 7 L S M Q)) := nr rfl
set_option maxRecDepth 100000 in
theorem v109_7 (n d : Nat) (L : List (Option mL)) (S : List mV) (M : Mm) (Q : mQ) : vc (n + 1) d 109 7 L S M Q = (gI L 1 fun x => vc n d 109 8 L (.inl x :: S) M Q) := nr rfl
set_option maxRecDepth 100000 in
theorem v109_8 (n d : Nat) (L : List (Option mL)) (S : List mV) (M : Mm) (Q : mQ) : vc (n + 1) d 109 8 L S M Q = (pAs 1 S fun as S => stk S ≤ 8 ∧ XC d 40 as M (fun r M => ∃ x : Int32, r = some (.inl x) ∧ X d 109 11 L (.inl x :: S) M Q)) := nr rfl
set_option maxRecDepth 100000 in
theorem v109_11 (n d : Nat) (L : List (Option mL)) (S : List mV) (M : Mm) (Q : mQ) : vc (n + 1) d 109 11 L S M Q = (pI S fun x S => (¬ x = 0 → vc n d 109 16 L S M Q) ∧ (¬ (¬ x = 0) → vc n d 109 14 L S M Q)) := nr rfl
set_option maxRecDepth 100000 in
theorem v109_14 (n d : Nat) (L : List (Option mL)) (S : List mV) (M : Mm) (Q : mQ) : vc (n + 1) d 109 14 L S M Q = (vc n d 109 15 L (.inl (-1) :: S) M Q) := nr rfl
set_option maxRecDepth 100000 in
theorem v109_15 (n d : Nat) (L : List (Option mL)) (S : List mV) (M : Mm) (Q : mQ) : vc (n + 1) d 109 15 L S M Q = (pI S fun x S => S = [] ∧ (0 = 0 ∨ x = 0 ∨ x = 1) ∧ Q (some (.inl x)) M) := nr rfl
set_option maxRecDepth 100000 in
theorem v109_16 (n d : Nat) (L : List (Option mL)) (S : List mV) (M : Mm) (Q : mQ) : vc (n + 1) d 109 16 L S M Q = (gI L 2 fun x => vc n d 109 17 L (.inl x :: S) M Q) := nr rfl
set_option maxRecDepth 100000 in
theorem v109_17 (n d : Nat) (L : List (Option mL)) (S : List mV) (M : Mm) (Q : mQ) : vc (n + 1) d 109 17 L S M Q = (pI S fun x S => (x.toInt = 0 → vc n d 109 44 L S M Q) ∧ (¬ x.toInt = 0 → (x.toInt = 1 → vc n d 109 54 L S M Q) ∧ (¬ x.toInt = 1 → vc n d 109 60 L S M Q))) := nr rfl
set_option maxRecDepth 100000 in
theorem v109_44 (n d : Nat) (L : List (Option mL)) (S : List mV) (M : Mm) (Q : mQ) : vc (n + 1) d 109 44 L S M Q = (gR L 0 fun x => vc n d 109 45 L (.inr (.inr x) :: S) M Q) := nr rfl
set_option maxRecDepth 100000 in
theorem v109_45 (n d : Nat) (L : List (Option mL)) (S : List mV) (M : Mm) (Q : mQ) : vc (n + 1) d 109 45 L S M Q = (pA S fun a S => shO M a 0 (rrf M a 3 fun r => vc n d 109 48 L (.inr (.inr r) :: S) M Q)) := nr rfl
set_option maxRecDepth 100000 in
theorem v109_48 (n d : Nat) (L : List (Option mL)) (S : List mV) (M : Mm) (Q : mQ) : vc (n + 1) d 109 48 L S M Q = (pA S fun a S => shO M a 6 (rrf M a 0 fun r => vc n d 109 51 L (.inr (.inr r) :: S) M Q)) := nr rfl
set_option maxRecDepth 100000 in
theorem v109_51 (n d : Nat) (L : List (Option mL)) (S : List mV) (M : Mm) (Q : mQ) : vc (n + 1) d 109 51 L S M Q = (gI L 1 fun x => vc n d 109 52 L (.inl x :: S) M Q) := nr rfl
set_option maxRecDepth 100000 in
theorem v109_52 (n d : Nat) (L : List (Option mL)) (S : List mV) (M : Mm) (Q : mQ) : vc (n + 1) d 109 52 L S M Q = (pI S fun i S => pA S fun a S => shA M a fun t k => (t = 40 ∨ t = 41) ∧ inB i k ∧ vc n d 109 53 L (.inl (M.it a i.toNatClampNeg) :: S) M Q) := nr rfl
set_option maxRecDepth 100000 in
theorem v109_53 (n d : Nat) (L : List (Option mL)) (S : List mV) (M : Mm) (Q : mQ) : vc (n + 1) d 109 53 L S M Q = (pI S fun x S => S = [] ∧ (0 = 0 ∨ x = 0 ∨ x = 1) ∧ Q (some (.inl x)) M) := nr rfl
set_option maxRecDepth 100000 in
theorem v109_54 (n d : Nat) (L : List (Option mL)) (S : List mV) (M : Mm) (Q : mQ) : vc (n + 1) d 109 54 L S M Q = (gR L 0 fun x => vc n d 109 55 L (.inr (.inr x) :: S) M Q) := nr rfl
set_option maxRecDepth 100000 in
theorem v109_55 (n d : Nat) (L : List (Option mL)) (S : List mV) (M : Mm) (Q : mQ) : vc (n + 1) d 109 55 L S M Q = (gI L 1 fun x => vc n d 109 56 L (.inl x :: S) M Q) := nr rfl
set_option maxRecDepth 100000 in
theorem v109_56 (n d : Nat) (L : List (Option mL)) (S : List mV) (M : Mm) (Q : mQ) : vc (n + 1) d 109 56 L S M Q = (pAs 1 S fun as S => pA S fun a S => shO M a 0 (stk S ≤ 8 ∧ XC d 110 (.inr (some a) :: as) M (fun r M => ∃ x : Int32, r = some (.inl x) ∧ X d 109 59 L (.inl x :: S) M Q))) := nr rfl
set_option maxRecDepth 100000 in
theorem v109_59 (n d : Nat) (L : List (Option mL)) (S : List mV) (M : Mm) (Q : mQ) : vc (n + 1) d 109 59 L S M Q = (pI S fun x S => S = [] ∧ (0 = 0 ∨ x = 0 ∨ x = 1) ∧ Q (some (.inl x)) M) := nr rfl
set_option maxRecDepth 100000 in
theorem v109_60 (n d : Nat) (L : List (Option mL)) (S : List mV) (M : Mm) (Q : mQ) : vc (n + 1) d 109 60 L S M Q = (vc n d 109 61 L (.inl (-1) :: S) M Q) := nr rfl
set_option maxRecDepth 100000 in
theorem v109_61 (n d : Nat) (L : List (Option mL)) (S : List mV) (M : Mm) (Q : mQ) : vc (n + 1) d 109 61 L S M Q = (pI S fun x S => S = [] ∧ (0 = 0 ∨ x = 0 ∨ x = 1) ∧ Q (some (.inl x)) M) := nr rfl
set_option maxRecDepth 100000 in
theorem v110_0 (n d : Nat) (L : List (Option mL)) (S : List mV) (M : Mm) (Q : mQ) : vc (n + 1) d 110 0 L S M Q = (gR L 0 fun x => vc n d 110 1 L (.inr (.inr x) :: S) M Q) := nr rfl
set_option maxRecDepth 100000 in
theorem v110_1 (n d : Nat) (L : List (Option mL)) (S : List mV) (M : Mm) (Q : mQ) : vc (n + 1) d 110 1 L S M Q = (pAs 0 S fun as S => pA S fun a S => shO M a 0 (stk S ≤ 8 ∧ XC d 72 (.inr (some a) :: as) M (fun r M => r = none ∧ X d 110 4 L S M Q))) := nr rfl
set_option maxRecDepth 100000 in
theorem v110_4 (n d : Nat) (L : List (Option mL)) (S : List mV) (M : Mm) (Q : mQ) : vc (n + 1) d 110 4 L S M Q = (vc n d 110 5 L (.inl 0 :: S) M Q) := nr rfl
set_option maxRecDepth 100000 in
theorem v110_5 (n d : Nat) (L : List (Option mL)) (S : List mV) (M : Mm) (Q : mQ) : vc (n + 1) d 110 5 L S M Q = (pI S fun x S => sL L 2 (some (.inl x)) fun L => X d 110 6 L S M Q) := nr rfl
set_option maxRecDepth 100000 in
theorem v110_6 (n d : Nat) (L : List (Option mL)) (S : List mV) (M : Mm) (Q : mQ) : vc (n + 1) d 110 6 L S M Q = (gI L 2 fun x => vc n d 110 7 L (.inl x :: S) M Q) := nr rfl
set_option maxRecDepth 100000 in
theorem v110_7 (n d : Nat) (L : List (Option mL)) (S : List mV) (M : Mm) (Q : mQ) : vc (n + 1) d 110 7 L S M Q = (vc n d 110 9 L (.inl 48 :: S) M Q) := nr rfl
set_option maxRecDepth 100000 in
theorem v110_9 (n d : Nat) (L : List (Option mL)) (S : List mV) (M : Mm) (Q : mQ) : vc (n + 1) d 110 9 L S M Q = (pI S fun y S => pI S fun x S => (y ≤ x → vc n d 110 30 L S M Q) ∧ (¬ (y ≤ x) → vc n d 110 12 L S M Q)) := nr rfl
set_option maxRecDepth 100000 in
theorem v110_12 (n d : Nat) (L : List (Option mL)) (S : List mV) (M : Mm) (Q : mQ) : vc (n + 1) d 110 12 L S M Q = (gR L 0 fun x => vc n d 110 13 L (.inr (.inr x) :: S) M Q) := nr rfl
set_option maxRecDepth 100000 in
theorem v110_13 (n d : Nat) (L : List (Option mL)) (S : List mV) (M : Mm) (Q : mQ) : vc (n + 1) d 110 13 L S M Q = (gR L 0 fun x => vc n d 110 14 L (.inr (.inr x) :: S) M Q) := nr rfl
set_option maxRecDepth 100000 in
theorem v110_14 (n d : Nat) (L : List (Option mL)) (S : List mV) (M : Mm) (Q : mQ) : vc (n + 1) d 110 14 L S M Q = (pA S fun a S => shO M a 0 (rrf M a 5 fun r => vc n d 110 17 L (.inr (.inr r) :: S) M Q)) := nr rfl
set_option maxRecDepth 100000 in
theorem v110_17 (n d : Nat) (L : List (Option mL)) (S : List mV) (M : Mm) (Q : mQ) : vc (n + 1) d 110 17 L S M Q = (gI L 2 fun x => vc n d 110 18 L (.inl x :: S) M Q) := nr rfl
set_option maxRecDepth 100000 in
theorem v110_18 (n d : Nat) (L : List (Option mL)) (S : List mV) (M : Mm) (Q : mQ) : vc (n + 1) d 110 18 L S M Q = (pAs 1 S fun as S => pA S fun a S => shO M a 5 (stk S ≤ 8 ∧ XC d 60 (.inr (some a) :: as) M (fun r M => ∃ x : Int32, r = some (.inl x) ∧ X d 110 21 L (.inl x :: S) M Q))) := nr rfl
set_option maxRecDepth 100000 in
theorem v110_21 (n d : Nat) (L : List (Option mL)) (S : List mV) (M : Mm) (Q : mQ) : vc (n + 1) d 110 21 L S M Q = (pAs 1 S fun as S => pA S fun a S => shO M a 0 (stk S ≤ 8 ∧ XC d 73 (.inr (some a) :: as) M (fun r M => r = none ∧ X d 110 24 L S M Q))) := nr rfl
set_option maxRecDepth 100000 in
theorem v110_24 (n d : Nat) (L : List (Option mL)) (S : List mV) (M : Mm) (Q : mQ) : vc (n + 1) d 110 24 L S M Q = (gI L 2 fun x => sL L 2 (some (.inl (x + 1))) fun L => vc n d 110 27 L S M Q) := nr rfl
set_option maxRecDepth 100000 in
theorem v110_27 (n d : Nat) (L : List (Option mL)) (S : List mV) (M : Mm) (Q : mQ) : vc (n + 1) d 110 27 L S M Q = (X d 110 6 L S M Q) := nr rfl
set_option maxRecDepth 100000 in
theorem v110_30 (n d : Nat) (L : List (Option mL)) (S : List mV) (M : Mm) (Q : mQ) : vc (n + 1) d 110 30 L S M Q = (vc n d 110 31 L (.inl 0 :: S) M Q) := nr rfl
set_option maxRecDepth 100000 in
theorem v110_31 (n d : Nat) (L : List (Option mL)) (S : List mV) (M : Mm) (Q : mQ) : vc (n + 1) d 110 31 L S M Q = (pI S fun x S => sL L 2 (some (.inl x)) fun L => X d 110 32 L S M Q) := nr rfl
set_option maxRecDepth 100000 in
theorem v110_32 (n d : Nat) (L : List (Option mL)) (S : List mV) (M : Mm) (Q : mQ) : vc (n + 1) d 110 32 L S M Q = (gI L 2 fun x => vc n d 110 33 L (.inl x :: S) M Q) := nr rfl
set_option maxRecDepth 100000 in
theorem v110_33 (n d : Nat) (L : List (Option mL)) (S : List mV) (M : Mm) (Q : mQ) : vc (n + 1) d 110 33 L S M Q = (gR L 0 fun x => vc n d 110 34 L (.inr (.inr x) :: S) M Q) := nr rfl
set_option maxRecDepth 100000 in
theorem v110_34 (n d : Nat) (L : List (Option mL)) (S : List mV) (M : Mm) (Q : mQ) : vc (n + 1) d 110 34 L S M Q = (pA S fun a S => shO M a 0 (rrf M a 5 fun r => vc n d 110 37 L (.inr (.inr r) :: S) M Q)) := nr rfl
set_option maxRecDepth 100000 in
theorem v110_37 (n d : Nat) (L : List (Option mL)) (S : List mV) (M : Mm) (Q : mQ) : vc (n + 1) d 110 37 L S M Q = (pA S fun a S => shO M a 5 (vc n d 110 40 L (.inl (M.it a 2) :: S) M Q)) := nr rfl
set_option maxRecDepth 100000 in
theorem v110_40 (n d : Nat) (L : List (Option mL)) (S : List mV) (M : Mm) (Q : mQ) : vc (n + 1) d 110 40 L S M Q = (pI S fun y S => pI S fun x S => (y ≤ x → vc n d 110 61 L S M Q) ∧ (¬ (y ≤ x) → vc n d 110 43 L S M Q)) := nr rfl
set_option maxRecDepth 100000 in
theorem v110_43 (n d : Nat) (L : List (Option mL)) (S : List mV) (M : Mm) (Q : mQ) : vc (n + 1) d 110 43 L S M Q = (gR L 0 fun x => vc n d 110 44 L (.inr (.inr x) :: S) M Q) := nr rfl
set_option maxRecDepth 100000 in
theorem v110_44 (n d : Nat) (L : List (Option mL)) (S : List mV) (M : Mm) (Q : mQ) : vc (n + 1) d 110 44 L S M Q = (gR L 0 fun x => vc n d 110 45 L (.inr (.inr x) :: S) M Q) := nr rfl
set_option maxRecDepth 100000 in
theorem v110_45 (n d : Nat) (L : List (Option mL)) (S : List mV) (M : Mm) (Q : mQ) : vc (n + 1) d 110 45 L S M Q = (pA S fun a S => shO M a 0 (rrf M a 5 fun r => vc n d 110 48 L (.inr (.inr r) :: S) M Q)) := nr rfl
set_option maxRecDepth 100000 in
theorem v110_48 (n d : Nat) (L : List (Option mL)) (S : List mV) (M : Mm) (Q : mQ) : vc (n + 1) d 110 48 L S M Q = (gI L 2 fun x => vc n d 110 49 L (.inl x :: S) M Q) := nr rfl
set_option maxRecDepth 100000 in
theorem v110_49 (n d : Nat) (L : List (Option mL)) (S : List mV) (M : Mm) (Q : mQ) : vc (n + 1) d 110 49 L S M Q = (pAs 1 S fun as S => pA S fun a S => shO M a 5 (stk S ≤ 8 ∧ XC d 80 (.inr (some a) :: as) M (fun r M => ∃ x : Int32, r = some (.inl x) ∧ X d 110 52 L (.inl x :: S) M Q))) := nr rfl
set_option maxRecDepth 100000 in
theorem v110_52 (n d : Nat) (L : List (Option mL)) (S : List mV) (M : Mm) (Q : mQ) : vc (n + 1) d 110 52 L S M Q = (pAs 1 S fun as S => pA S fun a S => shO M a 0 (stk S ≤ 8 ∧ XC d 73 (.inr (some a) :: as) M (fun r M => r = none ∧ X d 110 55 L S M Q))) := nr rfl
set_option maxRecDepth 100000 in
theorem v110_55 (n d : Nat) (L : List (Option mL)) (S : List mV) (M : Mm) (Q : mQ) : vc (n + 1) d 110 55 L S M Q = (gI L 2 fun x => sL L 2 (some (.inl (x + 1))) fun L => vc n d 110 58 L S M Q) := nr rfl
set_option maxRecDepth 100000 in
theorem v110_58 (n d : Nat) (L : List (Option mL)) (S : List mV) (M : Mm) (Q : mQ) : vc (n + 1) d 110 58 L S M Q = (X d 110 32 L S M Q) := nr rfl
set_option maxRecDepth 100000 in
theorem v110_61 (n d : Nat) (L : List (Option mL)) (S : List mV) (M : Mm) (Q : mQ) : vc (n + 1) d 110 61 L S M Q = (vc n d 110 62 L (.inl 0 :: S) M Q) := nr rfl
set_option maxRecDepth 100000 in
theorem v110_62 (n d : Nat) (L : List (Option mL)) (S : List mV) (M : Mm) (Q : mQ) : vc (n + 1) d 110 62 L S M Q = (pI S fun x S => sL L 2 (some (.inl x)) fun L => vc n d 110 63 L S M Q) := nr rfl
set_option maxRecDepth 100000 in
theorem v110_63 (n d : Nat) (L : List (Option mL)) (S : List mV) (M : Mm) (Q : mQ) : vc (n + 1) d 110 63 L S M Q = (vc n d 110 64 L (.inl 0 :: S) M Q) := nr rfl
set_option maxRecDepth 100000 in
theorem v110_64 (n d : Nat) (L : List (Option mL)) (S : List mV) (M : Mm) (Q : mQ) : vc (n + 1) d 110 64 L S M Q = (pI S fun x S => sL L 3 (some (.inl x)) fun L => X d 110 65 L S M Q) := nr rfl
set_option maxRecDepth 100000 in
theorem v110_65 (n d : Nat) (L : List (Option mL)) (S : List mV) (M : Mm) (Q : mQ) : vc (n + 1) d 110 65 L S M Q = (gI L 3 fun x => vc n d 110 66 L (.inl x :: S) M Q) := nr rfl
set_option maxRecDepth 100000 in
theorem v110_66 (n d : Nat) (L : List (Option mL)) (S : List mV) (M : Mm) (Q : mQ) : vc (n + 1) d 110 66 L S M Q = (vc n d 110 68 L (.inl 16 :: S) M Q) := nr rfl
set_option maxRecDepth 100000 in
theorem v110_68 (n d : Nat) (L : List (Option mL)) (S : List mV) (M : Mm) (Q : mQ) : vc (n + 1) d 110 68 L S M Q = (pI S fun y S => pI S fun x S => (y ≤ x → vc n d 110 94 L S M Q) ∧ (¬ (y ≤ x) → vc n d 110 71 L S M Q)) := nr rfl
set_option maxRecDepth 100000 in
theorem v110_71 (n d : Nat) (L : List (Option mL)) (S : List mV) (M : Mm) (Q : mQ) : vc (n + 1) d 110 71 L S M Q = (gR L 0 fun x => vc n d 110 72 L (.inr (.inr x) :: S) M Q) := nr rfl
set_option maxRecDepth 100000 in
theorem v110_72 (n d : Nat) (L : List (Option mL)) (S : List mV) (M : Mm) (Q : mQ) : vc (n + 1) d 110 72 L S M Q = (pA S fun a S => shO M a 0 (rrf M a 10 fun r => vc n d 110 75 L (.inr (.inr r) :: S) M Q)) := nr rfl
set_option maxRecDepth 100000 in
theorem v110_75 (n d : Nat) (L : List (Option mL)) (S : List mV) (M : Mm) (Q : mQ) : vc (n + 1) d 110 75 L S M Q = (gI L 1 fun x => vc n d 110 76 L (.inl x :: S) M Q) := nr rfl
set_option maxRecDepth 100000 in
theorem v110_76 (n d : Nat) (L : List (Option mL)) (S : List mV) (M : Mm) (Q : mQ) : vc (n + 1) d 110 76 L S M Q = (vc n d 110 78 L (.inl 16 :: S) M Q) := nr rfl
set_option maxRecDepth 100000 in
theorem v110_78 (n d : Nat) (L : List (Option mL)) (S : List mV) (M : Mm) (Q : mQ) : vc (n + 1) d 110 78 L S M Q = (pI S fun y S => pI S fun x S => vc n d 110 79 L (.inl (x * y) :: S) M Q) := nr rfl
set_option maxRecDepth 100000 in
theorem v110_79 (n d : Nat) (L : List (Option mL)) (S : List mV) (M : Mm) (Q : mQ) : vc (n + 1) d 110 79 L S M Q = (gI L 3 fun x => vc n d 110 80 L (.inl x :: S) M Q) := nr rfl
set_option maxRecDepth 100000 in
theorem v110_80 (n d : Nat) (L : List (Option mL)) (S : List mV) (M : Mm) (Q : mQ) : vc (n + 1) d 110 80 L S M Q = (pI S fun y S => pI S fun x S => vc n d 110 81 L (.inl (x + y) :: S) M Q) := nr rfl
set_option maxRecDepth 100000 in
theorem v110_81 (n d : Nat) (L : List (Option mL)) (S : List mV) (M : Mm) (Q : mQ) : vc (n + 1) d 110 81 L S M Q = (pI S fun i S => pA S fun a S => shA M a fun t k => (t = 42 ∨ t = 44) ∧ inB i k ∧ vc n d 110 82 L (.inl (M.it a i.toNatClampNeg) :: S) M Q) := nr rfl
set_option maxRecDepth 100000 in
theorem v110_82 (n d : Nat) (L : List (Option mL)) (S : List mV) (M : Mm) (Q : mQ) : vc (n + 1) d 110 82 L S M Q = (pI S fun x S => (x = 0 → vc n d 110 88 L S M Q) ∧ (¬ (x = 0) → vc n d 110 85 L S M Q)) := nr rfl
set_option maxRecDepth 100000 in
theorem v110_85 (n d : Nat) (L : List (Option mL)) (S : List mV) (M : Mm) (Q : mQ) : vc (n + 1) d 110 85 L S M Q = (gI L 2 fun x => sL L 2 (some (.inl (x + 1))) fun L => vc n d 110 88 L S M Q) := nr rfl
set_option maxRecDepth 100000 in
theorem v110_88 (n d : Nat) (L : List (Option mL)) (S : List mV) (M : Mm) (Q : mQ) : vc (n + 1) d 110 88 L S M Q = (gI L 3 fun x => sL L 3 (some (.inl (x + 1))) fun L => vc n d 110 91 L S M Q) := nr rfl
set_option maxRecDepth 100000 in
theorem v110_91 (n d : Nat) (L : List (Option mL)) (S : List mV) (M : Mm) (Q : mQ) : vc (n + 1) d 110 91 L S M Q = (X d 110 65 L S M Q) := nr rfl
set_option maxRecDepth 100000 in
theorem v110_94 (n d : Nat) (L : List (Option mL)) (S : List mV) (M : Mm) (Q : mQ) : vc (n + 1) d 110 94 L S M Q = (gI L 2 fun x => vc n d 110 95 L (.inl x :: S) M Q) := nr rfl
set_option maxRecDepth 100000 in
theorem v110_95 (n d : Nat) (L : List (Option mL)) (S : List mV) (M : Mm) (Q : mQ) : vc (n + 1) d 110 95 L S M Q = (pI S fun x S => S = [] ∧ (0 = 0 ∨ x = 0 ∨ x = 1) ∧ Q (some (.inl x)) M) := nr rfl
set_option maxRecDepth 100000 in
theorem v111_0 (n d : Nat) (L : List (Option mL)) (S : List mV) (M : Mm) (Q : mQ) : vc (n + 1) d 111 0 L S M Q = (gI L 1 fun x => vc n d 111 1 L (.inl x :: S) M Q) := nr rfl
set_option maxRecDepth 100000 in
theorem v111_1 (n d : Nat) (L : List (Option mL)) (S : List mV) (M : Mm) (Q : mQ) : vc (n + 1) d 111 1 L S M Q = (pAs 1 S fun as S => stk S ≤ 8 ∧ XC d 40 as M (fun r M => ∃ x : Int32, r = some (.inl x) ∧ X d 111 4 L (.inl x :: S) M Q)) := nr rfl
set_option maxRecDepth 100000 in
theorem v111_4 (n d : Nat) (L : List (Option mL)) (S : List mV) (M : Mm) (Q : mQ) : vc (n + 1) d 111 4 L S M Q = (pI S fun x S => (x = 0 → vc n d 111 17 L S M Q) ∧ (¬ (x = 0) → vc n d 111 7 L S M Q)) := nr rfl
set_option maxRecDepth 100000 in
theorem v111_7 (n d : Nat) (L : List (Option mL)) (S : List mV) (M : Mm) (Q : mQ) : vc (n + 1) d 111 7 L S M Q = (gI L 2 fun x => vc n d 111 8 L (.inl x :: S) M Q) := nr rfl
set_option maxRecDepth 100000 in
theorem v111_8 (n d : Nat) (L : List (Option mL)) (S : List mV) (M : Mm) (Q : mQ) : vc (n + 1) d 111 8 L S M Q = (pI S fun x S => (x < 0 → vc n d 111 17 L S M Q) ∧ (¬ (x < 0) → vc n d 111 11 L S M Q)) := nr rfl
set_option maxRecDepth 100000 in
theorem v111_11 (n d : Nat) (L : List (Option mL)) (S : List mV) (M : Mm) (Q : mQ) : vc (n + 1) d 111 11 L S M Q = (gI L 2 fun x => vc n d 111 12 L (.inl x :: S) M Q) := nr rfl
set_option maxRecDepth 100000 in
theorem v111_12 (n d : Nat) (L : List (Option mL)) (S : List mV) (M : Mm) (Q : mQ) : vc (n + 1) d 111 12 L S M Q = (vc n d 111 14 L (.inl 16 :: S) M Q) := nr rfl
set_option maxRecDepth 100000 in
theorem v111_14 (n d : Nat) (L : List (Option mL)) (S : List mV) (M : Mm) (Q : mQ) : vc (n + 1) d 111 14 L S M Q = (pI S fun y S => pI S fun x S => (x < y → vc n d 111 19 L S M Q) ∧ (¬ (x < y) → vc n d 111 17 L S M Q)) := nr rfl
set_option maxRecDepth 100000 in
theorem v111_17 (n d : Nat) (L : List (Option mL)) (S : List mV) (M : Mm) (Q : mQ) : vc (n + 1) d 111 17 L S M Q = (vc n d 111 18 L (.inl (-1) :: S) M Q) := nr rfl
set_option maxRecDepth 100000 in
theorem v111_18 (n d : Nat) (L : List (Option mL)) (S : List mV) (M : Mm) (Q : mQ) : vc (n + 1) d 111 18 L S M Q = (pI S fun x S => S = [] ∧ (0 = 0 ∨ x = 0 ∨ x = 1) ∧ Q (some (.inl x)) M) := nr rfl
set_option maxRecDepth 100000 in
theorem v111_19 (n d : Nat) (L : List (Option mL)) (S : List mV) (M : Mm) (Q : mQ) : vc (n + 1) d 111 19 L S M Q = (gR L 0 fun x => vc n d 111 20 L (.inr (.inr x) :: S) M Q) := nr rfl
set_option maxRecDepth 100000 in
theorem v111_20 (n d : Nat) (L : List (Option mL)) (S : List mV) (M : Mm) (Q : mQ) : vc (n + 1) d 111 20 L S M Q = (pA S fun a S => shO M a 0 (rrf M a 0 fun r => vc n d 111 23 L (.inr (.inr r) :: S) M Q)) := nr rfl
set_option maxRecDepth 100000 in
theorem v111_23 (n d : Nat) (L : List (Option mL)) (S : List mV) (M : Mm) (Q : mQ) : vc (n + 1) d 111 23 L S M Q = (gI L 1 fun x => vc n d 111 24 L (.inl x :: S) M Q) := nr rfl
set_option maxRecDepth 100000 in
theorem v111_24 (n d : Nat) (L : List (Option mL)) (S : List mV) (M : Mm) (Q : mQ) : vc (n + 1) d 111 24 L S M Q = (vc n d 111 26 L (.inl 16 :: S) M Q) := nr rfl
set_option maxRecDepth 100000 in
theorem v111_26 (n d : Nat) (L : List (Option mL)) (S : List mV) (M : Mm) (Q : mQ) : vc (n + 1) d 111 26 L S M Q = (pI S fun y S => pI S fun x S => vc n d 111 27 L (.inl (x * y) :: S) M Q) := nr rfl
set_option maxRecDepth 100000 in
theorem v111_27 (n d : Nat) (L : List (Option mL)) (S : List mV) (M : Mm) (Q : mQ) : vc (n + 1) d 111 27 L S M Q = (gI L 2 fun x => vc n d 111 28 L (.inl x :: S) M Q) := nr rfl
set_option maxRecDepth 100000 in
theorem v111_28 (n d : Nat) (L : List (Option mL)) (S : List mV) (M : Mm) (Q : mQ) : vc (n + 1) d 111 28 L S M Q = (pI S fun y S => pI S fun x S => vc n d 111 29 L (.inl (x + y) :: S) M Q) := nr rfl
set_option maxRecDepth 100000 in
theorem v111_29 (n d : Nat) (L : List (Option mL)) (S : List mV) (M : Mm) (Q : mQ) : vc (n + 1) d 111 29 L S M Q = (gI L 3 fun x => vc n d 111 30 L (.inl x :: S) M Q) := nr rfl
set_option maxRecDepth 100000 in
theorem v111_30 (n d : Nat) (L : List (Option mL)) (S : List mV) (M : Mm) (Q : mQ) : vc (n + 1) d 111 30 L S M Q = (pAs 2 S fun as S => pA S fun a S => shO M a 3 (stk S ≤ 8 ∧ XC d 28 (.inr (some a) :: as) M (fun r M => ∃ x : Int32, r = some (.inl x) ∧ X d 111 33 L (.inl x :: S) M Q))) := nr rfl
set_option maxRecDepth 100000 in
theorem v111_33 (n d : Nat) (L : List (Option mL)) (S : List mV) (M : Mm) (Q : mQ) : vc (n + 1) d 111 33 L S M Q = (pI S fun x S => S = [] ∧ (0 = 0 ∨ x = 0 ∨ x = 1) ∧ Q (some (.inl x)) M) := nr rfl
set_option maxRecDepth 100000 in
theorem v112_0 (n d : Nat) (L : List (Option mL)) (S : List mV) (M : Mm) (Q : mQ) : vc (n + 1) d 112 0 L S M Q = (gR L 0 fun x => vc n d 112 1 L (.inr (.inr x) :: S) M Q) := nr rfl
set_option maxRecDepth 100000 in
theorem v112_1 (n d : Nat) (L : List (Option mL)) (S : List mV) (M : Mm) (Q : mQ) : vc (n + 1) d 112 1 L S M Q = (pA S fun a S => shO M a 0 (rrf M a 0 fun r => vc n d 112 4 L (.inr (.inr r) :: S) M Q)) := nr rfl
set_option maxRecDepth 100000 in
theorem v112_4 (n d : Nat) (L : List (Option mL)) (S : List mV) (M : Mm) (Q : mQ) : vc (n + 1) d 112 4 L S M Q = (gI L 1 fun x => vc n d 112 5 L (.inl x :: S) M Q) := nr rfl
set_option maxRecDepth 100000 in
theorem v112_5 (n d : Nat) (L : List (Option mL)) (S : List mV) (M : Mm) (Q : mQ) : vc (n + 1) d 112 5 L S M Q = (pAs 1 S fun as S => pA S fun a S => shO M a 3 (stk S ≤ 8 ∧ XC d 113 (.inr (some a) :: as) M (fun r M => ∃ x : Option Nat, r = some (.inr (.inr x)) ∧ X d 112 8 L (.inr (.inr x) :: S) M Q))) := nr rfl
set_option maxRecDepth 100000 in
theorem v112_8 (n d : Nat) (L : List (Option mL)) (S : List mV) (M : Mm) (Q : mQ) : vc (n + 1) d 112 8 L S M Q = (pR S fun x S => sL L 3 (some (.inr x)) fun L => vc n d 112 9 L S M Q) := nr rfl
set_option maxRecDepth 100000 in
theorem v112_9 (n d : Nat) (L : List (Option mL)) (S : List mV) (M : Mm) (Q : mQ) : vc (n + 1) d 112 9 L S M Q = (gR L 3 fun x => vc n d 112 10 L (.inr (.inr x) :: S) M Q) := nr rfl
set_option maxRecDepth 100000 in
theorem v112_10 (n d : Nat) (L : List (Option mL)) (S : List mV) (M : Mm) (Q : mQ) : vc (n + 1) d 112 10 L S M Q = (pR S fun x S => (x = none → vc n d 112 13 L S M Q) ∧ (¬ (x = none) → vc n d 112 17 L S M Q)) := nr rfl
set_option maxRecDepth 100000 in
theorem v112_13 (n d : Nat) (L : List (Option mL)) (S : List mV) (M : Mm) (Q : mQ) : vc (n + 1) d 112 13 L S M Q = (vc n d 112 14 L (.inl (-1) :: S) M Q) := nr rfl
set_option maxRecDepth 100000 in
theorem v112_14 (n d : Nat) (L : List (Option mL)) (S : List mV) (M : Mm) (Q : mQ) : vc (n + 1) d 112 14 L S M Q = (X d 112 22 L S M Q) := nr rfl
set_option maxRecDepth 100000 in
theorem v112_17 (n d : Nat) (L : List (Option mL)) (S : List mV) (M : Mm) (Q : mQ) : vc (n + 1) d 112 17 L S M Q = (gR L 3 fun x => vc n d 112 18 L (.inr (.inr x) :: S) M Q) := nr rfl
set_option maxRecDepth 100000 in
theorem v112_18 (n d : Nat) (L : List (Option mL)) (S : List mV) (M : Mm) (Q : mQ) : vc (n + 1) d 112 18 L S M Q = (gI L 2 fun x => vc n d 112 19 L (.inl x :: S) M Q) := nr rfl
set_option maxRecDepth 100000 in
theorem v112_19 (n d : Nat) (L : List (Option mL)) (S : List mV) (M : Mm) (Q : mQ) : vc (n + 1) d 112 19 L S M Q = (pAs 1 S fun as S => pA S fun a S => shO M a 8 (stk S ≤ 8 ∧ XC d 114 (.inr (some a) :: as) M (fun r M => ∃ x : Int32, r = some (.inl x) ∧ X d 112 22 L (.inl x :: S) M Q))) := nr rfl
set_option maxRecDepth 100000 in
theorem v112_22 (n d : Nat) (L : List (Option mL)) (S : List mV) (M : Mm) (Q : mQ) : vc (n + 1) d 112 22 L S M Q = (pI S fun x S => S = [] ∧ (0 = 0 ∨ x = 0 ∨ x = 1) ∧ Q (some (.inl x)) M) := nr rfl
set_option maxRecDepth 100000 in
theorem v113_0 (n d : Nat) (L : List (Option mL)) (S : List mV) (M : Mm) (Q : mQ) : vc (n + 1) d 113 0 L S M Q = (gI L 1 fun x => vc n d 113 1 L (.inl x :: S) M Q) := nr rfl
set_option maxRecDepth 100000 in
theorem v113_1 (n d : Nat) (L : List (Option mL)) (S : List mV) (M : Mm) (Q : mQ) : vc (n + 1) d 113 1 L S M Q = (pI S fun x S => (x < 0 → vc n d 113 18 L S M Q) ∧ (¬ (x < 0) → vc n d 113 4 L S M Q)) := nr rfl
set_option maxRecDepth 100000 in
theorem v113_4 (n d : Nat) (L : List (Option mL)) (S : List mV) (M : Mm) (Q : mQ) : vc (n + 1) d 113 4 L S M Q = (gI L 1 fun x => vc n d 113 5 L (.inl x :: S) M Q) := nr rfl
set_option maxRecDepth 100000 in
theorem v113_5 (n d : Nat) (L : List (Option mL)) (S : List mV) (M : Mm) (Q : mQ) : vc (n + 1) d 113 5 L S M Q = (vc n d 113 6 L (.inl 2 :: S) M Q) := nr rfl
set_option maxRecDepth 100000 in
theorem v113_6 (n d : Nat) (L : List (Option mL)) (S : List mV) (M : Mm) (Q : mQ) : vc (n + 1) d 113 6 L S M Q = (pI S fun y S => pI S fun x S => (y ≤ x → vc n d 113 18 L S M Q) ∧ (¬ (y ≤ x) → vc n d 113 9 L S M Q)) := nr rfl
set_option maxRecDepth 100000 in
theorem v113_9 (n d : Nat) (L : List (Option mL)) (S : List mV) (M : Mm) (Q : mQ) : vc (n + 1) d 113 9 L S M Q = (gR L 0 fun x => vc n d 113 10 L (.inr (.inr x) :: S) M Q) := nr rfl
set_option maxRecDepth 100000 in
theorem v113_10 (n d : Nat) (L : List (Option mL)) (S : List mV) (M : Mm) (Q : mQ) : vc (n + 1) d 113 10 L S M Q = (pA S fun a S => shO M a 3 (rrf M a 1 fun r => vc n d 113 13 L (.inr (.inr r) :: S) M Q)) := nr rfl
set_option maxRecDepth 100000 in
theorem v113_13 (n d : Nat) (L : List (Option mL)) (S : List mV) (M : Mm) (Q : mQ) : vc (n + 1) d 113 13 L S M Q = (gI L 1 fun x => vc n d 113 14 L (.inl x :: S) M Q) := nr rfl
set_option maxRecDepth 100000 in
theorem v113_14 (n d : Nat) (L : List (Option mL)) (S : List mV) (M : Mm) (Q : mQ) : vc (n + 1) d 113 14 L S M Q = (pI S fun i S => pA S fun a S => shA M a fun t k => rTyB t = true ∧ inB i k ∧ rrf M a i.toNatClampNeg fun r => vc n d 113 15 L (.inr (.inr r) :: S) M Q) := nr rfl
set_option maxRecDepth 100000 in
theorem v113_15 (n d : Nat) (L : List (Option mL)) (S : List mV) (M : Mm) (Q : mQ) : vc (n + 1) d 113 15 L S M Q = (vc n d 113 19 L S M Q) := nr rfl
set_option maxRecDepth 100000 in
theorem v113_18 (n d : Nat) (L : List (Option mL)) (S : List mV) (M : Mm) (Q : mQ) : vc (n + 1) d 113 18 L S M Q = (vc n d 113 19 L (.inr (.inr none) :: S) M Q) := nr rfl
set_option maxRecDepth 100000 in
theorem v113_19 (n d : Nat) (L : List (Option mL)) (S : List mV) (M : Mm) (Q : mQ) : vc (n + 1) d 113 19 L S M Q = (pR S fun r S => S = [] ∧ Q (some (.inr (.inr r))) M) := nr rfl
set_option maxRecDepth 100000 in
theorem v114_0 (n d : Nat) (L : List (Option mL)) (S : List mV) (M : Mm) (Q : mQ) : vc (n + 1) d 114 0 L S M Q = (gI L 1 fun x => vc n d 114 1 L (.inl x :: S) M Q) := nr rfl
set_option maxRecDepth 100000 in
theorem v114_1 (n d : Nat) (L : List (Option mL)) (S : List mV) (M : Mm) (Q : mQ) : vc (n + 1) d 114 1 L S M Q = (vc n d 114 2 L (.inl 4 :: S) M Q) := nr rfl
set_option maxRecDepth 100000 in
theorem v114_2 (n d : Nat) (L : List (Option mL)) (S : List mV) (M : Mm) (Q : mQ) : vc (n + 1) d 114 2 L S M Q = (pI S fun y S => pI S fun x S => (x < y → X d 114 19 L S M Q) ∧ (¬ (x < y) → vc n d 114 5 L S M Q)) := nr rfl
set_option maxRecDepth 100000 in
theorem v114_5 (n d : Nat) (L : List (Option mL)) (S : List mV) (M : Mm) (Q : mQ) : vc (n + 1) d 114 5 L S M Q = (gI L 1 fun x => vc n d 114 6 L (.inl x :: S) M Q) := nr rfl
set_option maxRecDepth 100000 in
theorem v114_6 (n d : Nat) (L : List (Option mL)) (S : List mV) (M : Mm) (Q : mQ) : vc (n + 1) d 114 6 L S M Q = (vc n d 114 8 L (.inl 12 :: S) M Q) := nr rfl
set_option maxRecDepth 100000 in
theorem v114_8 (n d : Nat) (L : List (Option mL)) (S : List mV) (M : Mm) (Q : mQ) : vc (n + 1) d 114 8 L S M Q = (pI S fun y S => pI S fun x S => (y ≤ x → X d 114 19 L S M Q) ∧ (¬ (y ≤ x) → vc n d 114 11 L S M Q)) := nr rfl
set_option maxRecDepth 100000 in
theorem v114_11 (n d : Nat) (L : List (Option mL)) (S : List mV) (M : Mm) (Q : mQ) : vc (n + 1) d 114 11 L S M Q = (gR L 0 fun x => vc n d 114 12 L (.inr (.inr x) :: S) M Q) := nr rfl
set_option maxRecDepth 100000 in
theorem v114_12 (n d : Nat) (L : List (Option mL)) (S : List mV) (M : Mm) (Q : mQ) : vc (n + 1) d 114 12 L S M Q = (gI L 1 fun x => vc n d 114 13 L (.inl x :: S) M Q) := nr rfl
set_option maxRecDepth 100000 in
theorem v114_13 (n d : Nat) (L : List (Option mL)) (S : List mV) (M : Mm) (Q : mQ) : vc (n + 1) d 114 13 L S M Q = (vc n d 114 14 L (.inl 4 :: S) M Q) := nr rfl
set_option maxRecDepth 100000 in
theorem v114_14 (n d : Nat) (L : List (Option mL)) (S : List mV) (M : Mm) (Q : mQ) : vc (n + 1) d 114 14 L S M Q = (pI S fun y S => pI S fun x S => vc n d 114 15 L (.inl (x - y) :: S) M Q) := nr rfl
set_option maxRecDepth 100000 in
theorem v114_15 (n d : Nat) (L : List (Option mL)) (S : List mV) (M : Mm) (Q : mQ) : vc (n + 1) d 114 15 L S M Q = (pAs 1 S fun as S => pA S fun a S => shO M a 8 (stk S ≤ 8 ∧ XC d 18 (.inr (some a) :: as) M (fun r M => ∃ x : Int32, r = some (.inl x) ∧ X d 114 18 L (.inl x :: S) M Q))) := nr rfl
set_option maxRecDepth 100000 in
theorem v114_18 (n d : Nat) (L : List (Option mL)) (S : List mV) (M : Mm) (Q : mQ) : vc (n + 1) d 114 18 L S M Q = (pI S fun x S => S = [] ∧ (0 = 0 ∨ x = 0 ∨ x = 1) ∧ Q (some (.inl x)) M) := nr rfl
set_option maxRecDepth 100000 in
theorem v114_19 (n d : Nat) (L : List (Option mL)) (S : List mV) (M : Mm) (Q : mQ) : vc (n + 1) d 114 19 L S M Q = (gI L 1 fun x => vc n d 114 20 L (.inl x :: S) M Q) := nr rfl
set_option maxRecDepth 100000 in
theorem v114_20 (n d : Nat) (L : List (Option mL)) (S : List mV) (M : Mm) (Q : mQ) : vc (n + 1) d 114 20 L S M Q = (pI S fun x S => (x.toInt = 0 → vc n d 114 52 L S M Q) ∧ (¬ x.toInt = 0 → (x.toInt = 1 → vc n d 114 57 L S M Q) ∧ (¬ x.toInt = 1 → (x.toInt = 2 → vc n d 114 62 L S M Q) ∧ (¬ x.toInt = 2 → (x.toInt = 3 → vc n d 114 67 L S M Q) ∧ (¬ x.toInt = 3 → vc n d 114 72 L S M Q))))) := nr rfl
set_option maxRecDepth 100000 in
theorem v114_52 (n d : Nat) (L : List (Option mL)) (S : List mV) (M : Mm) (Q : mQ) : vc (n + 1) d 114 52 L S M Q = (gR L 0 fun x => vc n d 114 53 L (.inr (.inr x) :: S) M Q) := nr rfl
set_option maxRecDepth 100000 in
theorem v114_53 (n d : Nat) (L : List (Option mL)) (S : List mV) (M : Mm) (Q : mQ) : vc (n + 1) d 114 53 L S M Q = (pA S fun a S => shO M a 8 (vc n d 114 56 L (.inl (M.it a 0) :: S) M Q)) := nr rfl
set_option maxRecDepth 100000 in
theorem v114_56 (n d : Nat) (L : List (Option mL)) (S : List mV) (M : Mm) (Q : mQ) : vc (n + 1) d 114 56 L S M Q = (pI S fun x S => S = [] ∧ (0 = 0 ∨ x = 0 ∨ x = 1) ∧ Q (some (.inl x)) M) := nr rfl
set_option maxRecDepth 100000 in
theorem v114_57 (n d : Nat) (L : List (Option mL)) (S : List mV) (M : Mm) (Q : mQ) : vc (n + 1) d 114 57 L S M Q = (gR L 0 fun x => vc n d 114 58 L (.inr (.inr x) :: S) M Q) := nr rfl
set_option maxRecDepth 100000 in
theorem v114_58 (n d : Nat) (L : List (Option mL)) (S : List mV) (M : Mm) (Q : mQ) : vc (n + 1) d 114 58 L S M Q = (pA S fun a S => shO M a 8 (vc n d 114 61 L (.inl (M.it a 1) :: S) M Q)) := nr rfl
set_option maxRecDepth 100000 in
theorem v114_61 (n d : Nat) (L : List (Option mL)) (S : List mV) (M : Mm) (Q : mQ) : vc (n + 1) d 114 61 L S M Q = (pI S fun x S => S = [] ∧ (0 = 0 ∨ x = 0 ∨ x = 1) ∧ Q (some (.inl x)) M) := nr rfl
set_option maxRecDepth 100000 in
theorem v114_62 (n d : Nat) (L : List (Option mL)) (S : List mV) (M : Mm) (Q : mQ) : vc (n + 1) d 114 62 L S M Q = (gR L 0 fun x => vc n d 114 63 L (.inr (.inr x) :: S) M Q) := nr rfl
set_option maxRecDepth 100000 in
theorem v114_63 (n d : Nat) (L : List (Option mL)) (S : List mV) (M : Mm) (Q : mQ) : vc (n + 1) d 114 63 L S M Q = (pA S fun a S => shO M a 8 (vc n d 114 66 L (.inl (M.it a 2) :: S) M Q)) := nr rfl
set_option maxRecDepth 100000 in
theorem v114_66 (n d : Nat) (L : List (Option mL)) (S : List mV) (M : Mm) (Q : mQ) : vc (n + 1) d 114 66 L S M Q = (pI S fun x S => S = [] ∧ (0 = 0 ∨ x = 0 ∨ x = 1) ∧ Q (some (.inl x)) M) := nr rfl
set_option maxRecDepth 100000 in
theorem v114_67 (n d : Nat) (L : List (Option mL)) (S : List mV) (M : Mm) (Q : mQ) : vc (n + 1) d 114 67 L S M Q = (gR L 0 fun x => vc n d 114 68 L (.inr (.inr x) :: S) M Q) := nr rfl
set_option maxRecDepth 100000 in
theorem v114_68 (n d : Nat) (L : List (Option mL)) (S : List mV) (M : Mm) (Q : mQ) : vc (n + 1) d 114 68 L S M Q = (pAs 0 S fun as S => pA S fun a S => shO M a 8 (stk S ≤ 8 ∧ XC d 20 (.inr (some a) :: as) M (fun r M => ∃ x : Int32, r = some (.inl x) ∧ X d 114 71 L (.inl x :: S) M Q))) := nr rfl
set_option maxRecDepth 100000 in
theorem v114_71 (n d : Nat) (L : List (Option mL)) (S : List mV) (M : Mm) (Q : mQ) : vc (n + 1) d 114 71 L S M Q = (pI S fun x S => S = [] ∧ (0 = 0 ∨ x = 0 ∨ x = 1) ∧ Q (some (.inl x)) M) := nr rfl
set_option maxRecDepth 100000 in
theorem v114_72 (n d : Nat) (L : List (Option mL)) (S : List mV) (M : Mm) (Q : mQ) : vc (n + 1) d 114 72 L S M Q = (gR L 0 fun x => vc n d 114 73 L (.inr (.inr x) :: S) M Q) := nr rfl
set_option maxRecDepth 100000 in
theorem v114_73 (n d : Nat) (L : List (Option mL)) (S : List mV) (M : Mm) (Q : mQ) : vc (n + 1) d 114 73 L S M Q = (gI L 1 fun x => vc n d 114 74 L (.inl x :: S) M Q) := nr rfl
set_option maxRecDepth 100000 in
theorem v114_74 (n d : Nat) (L : List (Option mL)) (S : List mV) (M : Mm) (Q : mQ) : vc (n + 1) d 114 74 L S M Q = (vc n d 114 75 L (.inl 4 :: S) M Q) := nr rfl
set_option maxRecDepth 100000 in
theorem v114_75 (n d : Nat) (L : List (Option mL)) (S : List mV) (M : Mm) (Q : mQ) : vc (n + 1) d 114 75 L S M Q = (pI S fun y S => pI S fun x S => vc n d 114 76 L (.inl (x - y) :: S) M Q) := nr rfl
set_option maxRecDepth 100000 in
theorem v114_76 (n d : Nat) (L : List (Option mL)) (S : List mV) (M : Mm) (Q : mQ) : vc (n + 1) d 114 76 L S M Q = (vc n d 114 78 L (.inl 8 :: S) M Q) := nr rfl
set_option maxRecDepth 100000 in
theorem v114_78 (n d : Nat) (L : List (Option mL)) (S : List mV) (M : Mm) (Q : mQ) : vc (n + 1) d 114 78 L S M Q = (pI S fun y S => pI S fun x S => vc n d 114 79 L (.inl (x - y) :: S) M Q) := nr rfl
set_option maxRecDepth 100000 in
theorem v114_79 (n d : Nat) (L : List (Option mL)) (S : List mV) (M : Mm) (Q : mQ) : vc (n + 1) d 114 79 L S M Q = (pAs 1 S fun as S => pA S fun a S => shO M a 8 (stk S ≤ 8 ∧ XC d 115 (.inr (some a) :: as) M (fun r M => ∃ x : Int32, r = some (.inl x) ∧ X d 114 82 L (.inl x :: S) M Q))) := nr rfl
set_option maxRecDepth 100000 in
theorem v114_82 (n d : Nat) (L : List (Option mL)) (S : List mV) (M : Mm) (Q : mQ) : vc (n + 1) d 114 82 L S M Q = (pI S fun x S => S = [] ∧ (0 = 0 ∨ x = 0 ∨ x = 1) ∧ Q (some (.inl x)) M) := nr rfl
set_option maxRecDepth 100000 in
theorem v115_0 (n d : Nat) (L : List (Option mL)) (S : List mV) (M : Mm) (Q : mQ) : vc (n + 1) d 115 0 L S M Q = (gI L 1 fun x => vc n d 115 1 L (.inl x :: S) M Q) := nr rfl
set_option maxRecDepth 100000 in
theorem v115_1 (n d : Nat) (L : List (Option mL)) (S : List mV) (M : Mm) (Q : mQ) : vc (n + 1) d 115 1 L S M Q = (pI S fun x S => (x < 0 → vc n d 115 14 L S M Q) ∧ (¬ (x < 0) → vc n d 115 4 L S M Q)) := nr rfl
set_option maxRecDepth 100000 in
theorem v115_4 (n d : Nat) (L : List (Option mL)) (S : List mV) (M : Mm) (Q : mQ) : vc (n + 1) d 115 4 L S M Q = (gI L 1 fun x => vc n d 115 5 L (.inl x :: S) M Q) := nr rfl
set_option maxRecDepth 100000 in
theorem v115_5 (n d : Nat) (L : List (Option mL)) (S : List mV) (M : Mm) (Q : mQ) : vc (n + 1) d 115 5 L S M Q = (vc n d 115 6 L (.inl 2 :: S) M Q) := nr rfl
set_option maxRecDepth 100000 in
theorem v115_6 (n d : Nat) (L : List (Option mL)) (S : List mV) (M : Mm) (Q : mQ) : vc (n + 1) d 115 6 L S M Q = (gR L 0 fun x => vc n d 115 7 L (.inr (.inr x) :: S) M Q) := nr rfl
set_option maxRecDepth 100000 in
theorem v115_7 (n d : Nat) (L : List (Option mL)) (S : List mV) (M : Mm) (Q : mQ) : vc (n + 1) d 115 7 L S M Q = (pAs 0 S fun as S => pA S fun a S => shO M a 8 (stk S ≤ 8 ∧ XC d 20 (.inr (some a) :: as) M (fun r M => ∃ x : Int32, r = some (.inl x) ∧ X d 115 10 L (.inl x :: S) M Q))) := nr rfl
set_option maxRecDepth 100000 in
theorem v115_10 (n d : Nat) (L : List (Option mL)) (S : List mV) (M : Mm) (Q : mQ) : vc (n + 1) d 115 10 L S M Q = (pI S fun y S => pI S fun x S => vc n d 115 11 L (.inl (x * y) :: S) M Q) := nr rfl
set_option maxRecDepth 100000 in
theorem v115_11 (n d : Nat) (L : List (Option mL)) (S : List mV) (M : Mm) (Q : mQ) : vc (n + 1) d 115 11 L S M Q = (pI S fun y S => pI S fun x S => (x < y → vc n d 115 16 L S M Q) ∧ (¬ (x < y) → vc n d 115 14 L S M Q)) := nr rfl
set_option maxRecDepth 100000 in
theorem v115_14 (n d : Nat) (L : List (Option mL)) (S : List mV) (M : Mm) (Q : mQ) : vc (n + 1) d 115 14 L S M Q = (vc n d 115 15 L (.inl (-1) :: S) M Q) := nr rfl
set_option maxRecDepth 100000 in
theorem v115_15 (n d : Nat) (L : List (Option mL)) (S : List mV) (M : Mm) (Q : mQ) : vc (n + 1) d 115 15 L S M Q = (pI S fun x S => S = [] ∧ (0 = 0 ∨ x = 0 ∨ x = 1) ∧ Q (some (.inl x)) M) := nr rfl
set_option maxRecDepth 100000 in
theorem v115_16 (n d : Nat) (L : List (Option mL)) (S : List mV) (M : Mm) (Q : mQ) : vc (n + 1) d 115 16 L S M Q = (gR L 0 fun x => vc n d 115 17 L (.inr (.inr x) :: S) M Q) := nr rfl
set_option maxRecDepth 100000 in
theorem v115_17 (n d : Nat) (L : List (Option mL)) (S : List mV) (M : Mm) (Q : mQ) : vc (n + 1) d 115 17 L S M Q = (gI L 1 fun x => vc n d 115 18 L (.inl x :: S) M Q) := nr rfl
set_option maxRecDepth 100000 in
theorem v115_18 (n d : Nat) (L : List (Option mL)) (S : List mV) (M : Mm) (Q : mQ) : vc (n + 1) d 115 18 L S M Q = (vc n d 115 19 L (.inl 2 :: S) M Q) := nr rfl
set_option maxRecDepth 100000 in
theorem v115_19 (n d : Nat) (L : List (Option mL)) (S : List mV) (M : Mm) (Q : mQ) : vc (n + 1) d 115 19 L S M Q = (pI S fun y S => pI S fun x S => ¬ y = 0 ∧ vc n d 115 20 L (.inl (x / y) :: S) M Q) := nr rfl
set_option maxRecDepth 100000 in
theorem v115_20 (n d : Nat) (L : List (Option mL)) (S : List mV) (M : Mm) (Q : mQ) : vc (n + 1) d 115 20 L S M Q = (pAs 1 S fun as S => pA S fun a S => shO M a 8 (stk S ≤ 8 ∧ XC d 21 (.inr (some a) :: as) M (fun r M => ∃ x : Int32, r = some (.inl x) ∧ X d 115 23 L (.inl x :: S) M Q))) := nr rfl
set_option maxRecDepth 100000 in
theorem v115_23 (n d : Nat) (L : List (Option mL)) (S : List mV) (M : Mm) (Q : mQ) : vc (n + 1) d 115 23 L S M Q = (pI S fun x S => sL L 2 (some (.inl x)) fun L => vc n d 115 24 L S M Q) := nr rfl
set_option maxRecDepth 100000 in
theorem v115_24 (n d : Nat) (L : List (Option mL)) (S : List mV) (M : Mm) (Q : mQ) : vc (n + 1) d 115 24 L S M Q = (gI L 1 fun x => vc n d 115 25 L (.inl x :: S) M Q) := nr rfl
set_option maxRecDepth 100000 in
theorem v115_25 (n d : Nat) (L : List (Option mL)) (S : List mV) (M : Mm) (Q : mQ) : vc (n + 1) d 115 25 L S M Q = (vc n d 115 26 L (.inl 2 :: S) M Q) := nr rfl
set_option maxRecDepth 100000 in
theorem v115_26 (n d : Nat) (L : List (Option mL)) (S : List mV) (M : Mm) (Q : mQ) : vc (n + 1) d 115 26 L S M Q = (pI S fun y S => pI S fun x S => ¬ y = 0 ∧ vc n d 115 27 L (.inl (x - x / y * y) :: S) M Q) := nr rfl
set_option maxRecDepth 100000 in
theorem v115_27 (n d : Nat) (L : List (Option mL)) (S : List mV) (M : Mm) (Q : mQ) : vc (n + 1) d 115 27 L S M Q = (pI S fun x S => (¬ x = 0 → vc n d 115 37 L S M Q) ∧ (¬ (¬ x = 0) → vc n d 115 30 L S M Q)) := nr rfl
set_option maxRecDepth 100000 in
theorem v115_30 (n d : Nat) (L : List (Option mL)) (S : List mV) (M : Mm) (Q : mQ) : vc (n + 1) d 115 30 L S M Q = (gI L 2 fun x => vc n d 115 31 L (.inl x :: S) M Q) := nr rfl
set_option maxRecDepth 100000 in
theorem v115_31 (n d : Nat) (L : List (Option mL)) (S : List mV) (M : Mm) (Q : mQ) : vc (n + 1) d 115 31 L S M Q = (vc n d 115 33 L (.inl 16 :: S) M Q) := nr rfl
set_option maxRecDepth 100000 in
theorem v115_33 (n d : Nat) (L : List (Option mL)) (S : List mV) (M : Mm) (Q : mQ) : vc (n + 1) d 115 33 L S M Q = (pI S fun y S => pI S fun x S => ¬ y = 0 ∧ vc n d 115 34 L (.inl (x / y) :: S) M Q) := nr rfl
set_option maxRecDepth 100000 in
theorem v115_34 (n d : Nat) (L : List (Option mL)) (S : List mV) (M : Mm) (Q : mQ) : vc (n + 1) d 115 34 L S M Q = (vc n d 115 41 L S M Q) := nr rfl
set_option maxRecDepth 100000 in
theorem v115_37 (n d : Nat) (L : List (Option mL)) (S : List mV) (M : Mm) (Q : mQ) : vc (n + 1) d 115 37 L S M Q = (gI L 2 fun x => vc n d 115 38 L (.inl x :: S) M Q) := nr rfl
set_option maxRecDepth 100000 in
theorem v115_38 (n d : Nat) (L : List (Option mL)) (S : List mV) (M : Mm) (Q : mQ) : vc (n + 1) d 115 38 L S M Q = (vc n d 115 40 L (.inl 16 :: S) M Q) := nr rfl
set_option maxRecDepth 100000 in
theorem v115_40 (n d : Nat) (L : List (Option mL)) (S : List mV) (M : Mm) (Q : mQ) : vc (n + 1) d 115 40 L S M Q = (pI S fun y S => pI S fun x S => ¬ y = 0 ∧ vc n d 115 41 L (.inl (x - x / y * y) :: S) M Q) := nr rfl
set_option maxRecDepth 100000 in
theorem v115_41 (n d : Nat) (L : List (Option mL)) (S : List mV) (M : Mm) (Q : mQ) : vc (n + 1) d 115 41 L S M Q = (pI S fun x S => S = [] ∧ (0 = 0 ∨ x = 0 ∨ x = 1) ∧ Q (some (.inl x)) M) := nr rfl
set_option maxRecDepth 100000 in
theorem v116_0 (n d : Nat) (L : List (Option mL)) (S : List mV) (M : Mm) (Q : mQ) : vc (n + 1) d 116 0 L S M Q = (gR L 0 fun x => vc n d 116 1 L (.inr (.inr x) :: S) M Q) := nr rfl
set_option maxRecDepth 100000 in
theorem v116_1 (n d : Nat) (L : List (Option mL)) (S : List mV) (M : Mm) (Q : mQ) : vc (n + 1) d 116 1 L S M Q = (pA S fun _ S => 1000 = 1000 ∧ 0 < d ∧ stk S ≤ 8 ∧ vc n d 116 4 L S M Q) := nr rfl
set_option maxRecDepth 100000 in
theorem v116_4 (n d : Nat) (L : List (Option mL)) (S : List mV) (M : Mm) (Q : mQ) : vc (n + 1) d 116 4 L S M Q = (gR L 0 fun x => vc n d 116 5 L (.inr (.inr x) :: S) M Q) := nr rfl
set_option maxRecDepth 100000 in
theorem v116_5 (n d : Nat) (L : List (Option mL)) (S : List mV) (M : Mm) (Q : mQ) : vc (n + 1) d 116 5 L S M Q = (vc n d 116 8 L (.inl 200 :: S) M Q) := nr rfl
set_option maxRecDepth 100000 in
theorem v116_8 (n d : Nat) (L : List (Option mL)) (S : List mV) (M : Mm) (Q : mQ) : vc (n + 1) d 116 8 L S M Q = (pI S fun k S => 0 ≤ k.toInt ∧ k.toInt ≤ 100000 ∧ vc n d 116 10 L (.inr (.inr (some M.sz)) :: S) (M.nw (44, k.toNatClampNeg) k.toNatClampNeg) Q) := nr rfl
set_option maxRecDepth 100000 in
theorem v116_10 (n d : Nat) (L : List (Option mL)) (S : List mV) (M : Mm) (Q : mQ) : vc (n + 1) d 116 10 L S M Q = (pR S fun x S => pA S fun a S => shO M a 10 (vc n d 116 13 L S (M.sr a 1 x) Q)) := nr rfl
set_option maxRecDepth 100000 in
theorem v116_13 (n d : Nat) (L : List (Option mL)) (S : List mV) (M : Mm) (Q : mQ) : vc (n + 1) d 116 13 L S M Q = (gR L 0 fun x => vc n d 116 14 L (.inr (.inr x) :: S) M Q) := nr rfl
set_option maxRecDepth 100000 in
theorem v116_14 (n d : Nat) (L : List (Option mL)) (S : List mV) (M : Mm) (Q : mQ) : vc (n + 1) d 116 14 L S M Q = (vc n d 116 17 L (.inl 2048 :: S) M Q) := nr rfl
set_option maxRecDepth 100000 in
theorem v116_17 (n d : Nat) (L : List (Option mL)) (S : List mV) (M : Mm) (Q : mQ) : vc (n + 1) d 116 17 L S M Q = (pI S fun k S => 0 ≤ k.toInt ∧ k.toInt ≤ 100000 ∧ vc n d 116 19 L (.inr (.inr (some M.sz)) :: S) (M.nw (44, k.toNatClampNeg) k.toNatClampNeg) Q) := nr rfl
set_option maxRecDepth 100000 in
theorem v116_19 (n d : Nat) (L : List (Option mL)) (S : List mV) (M : Mm) (Q : mQ) : vc (n + 1) d 116 19 L S M Q = (pR S fun x S => pA S fun a S => shO M a 10 (vc n d 116 22 L S (M.sr a 3 x) Q)) := nr rfl
set_option maxRecDepth 100000 in
theorem v116_22 (n d : Nat) (L : List (Option mL)) (S : List mV) (M : Mm) (Q : mQ) : vc (n + 1) d 116 22 L S M Q = (gR L 0 fun x => vc n d 116 23 L (.inr (.inr x) :: S) M Q) := nr rfl
set_option maxRecDepth 100000 in
theorem v116_23 (n d : Nat) (L : List (Option mL)) (S : List mV) (M : Mm) (Q : mQ) : vc (n + 1) d 116 23 L S M Q = (vc n d 116 25 L (.inl 36 :: S) M Q) := nr rfl
set_option maxRecDepth 100000 in
theorem v116_25 (n d : Nat) (L : List (Option mL)) (S : List mV) (M : Mm) (Q : mQ) : vc (n + 1) d 116 25 L S M Q = (pI S fun k S => 0 ≤ k.toInt ∧ k.toInt ≤ 100000 ∧ vc n d 116 27 L (.inr (.inr (some M.sz)) :: S) (M.nw (41, k.toNatClampNeg) k.toNatClampNeg) Q) := nr rfl
set_option maxRecDepth 100000 in
theorem v116_27 (n d : Nat) (L : List (Option mL)) (S : List mV) (M : Mm) (Q : mQ) : vc (n + 1) d 116 27 L S M Q = (pR S fun x S => pA S fun a S => shO M a 10 (vc n d 116 30 L S (M.sr a 4 x) Q)) := nr rfl
set_option maxRecDepth 100000 in
theorem v116_30 (n d : Nat) (L : List (Option mL)) (S : List mV) (M : Mm) (Q : mQ) : vc (n + 1) d 116 30 L S M Q = (gR L 0 fun x => vc n d 116 31 L (.inr (.inr x) :: S) M Q) := nr rfl
set_option maxRecDepth 100000 in
theorem v116_31 (n d : Nat) (L : List (Option mL)) (S : List mV) (M : Mm) (Q : mQ) : vc (n + 1) d 116 31 L S M Q = (vc n d 116 33 L (.inl 8 :: S) M Q) := nr rfl
set_option maxRecDepth 100000 in
theorem v116_33 (n d : Nat) (L : List (Option mL)) (S : List mV) (M : Mm) (Q : mQ) : vc (n + 1) d 116 33 L S M Q = (pI S fun k S => 0 ≤ k.toInt ∧ k.toInt ≤ 100000 ∧ vc n d 116 35 L (.inr (.inr (some M.sz)) :: S) (M.nw (41, k.toNatClampNeg) k.toNatClampNeg) Q) := nr rfl
set_option maxRecDepth 100000 in
theorem v116_35 (n d : Nat) (L : List (Option mL)) (S : List mV) (M : Mm) (Q : mQ) : vc (n + 1) d 116 35 L S M Q = (pR S fun x S => pA S fun a S => shO M a 10 (vc n d 116 38 L S (M.sr a 6 x) Q)) := nr rfl
set_option maxRecDepth 100000 in
theorem v116_38 (n d : Nat) (L : List (Option mL)) (S : List mV) (M : Mm) (Q : mQ) : vc (n + 1) d 116 38 L S M Q = (gR L 0 fun x => vc n d 116 39 L (.inr (.inr x) :: S) M Q) := nr rfl
set_option maxRecDepth 100000 in
theorem v116_39 (n d : Nat) (L : List (Option mL)) (S : List mV) (M : Mm) (Q : mQ) : vc (n + 1) d 116 39 L S M Q = (vc n d 116 41 L (.inl 8 :: S) M Q) := nr rfl
set_option maxRecDepth 100000 in
theorem v116_41 (n d : Nat) (L : List (Option mL)) (S : List mV) (M : Mm) (Q : mQ) : vc (n + 1) d 116 41 L S M Q = (pI S fun k S => 0 ≤ k.toInt ∧ k.toInt ≤ 100000 ∧ vc n d 116 43 L (.inr (.inr (some M.sz)) :: S) (M.nw (41, k.toNatClampNeg) k.toNatClampNeg) Q) := nr rfl
set_option maxRecDepth 100000 in
theorem v116_43 (n d : Nat) (L : List (Option mL)) (S : List mV) (M : Mm) (Q : mQ) : vc (n + 1) d 116 43 L S M Q = (pR S fun x S => pA S fun a S => shO M a 10 (vc n d 116 46 L S (M.sr a 7 x) Q)) := nr rfl
set_option maxRecDepth 100000 in
theorem v116_46 (n d : Nat) (L : List (Option mL)) (S : List mV) (M : Mm) (Q : mQ) : vc (n + 1) d 116 46 L S M Q = (gR L 0 fun x => vc n d 116 47 L (.inr (.inr x) :: S) M Q) := nr rfl
set_option maxRecDepth 100000 in
theorem v116_47 (n d : Nat) (L : List (Option mL)) (S : List mV) (M : Mm) (Q : mQ) : vc (n + 1) d 116 47 L S M Q = (vc n d 116 50 L (.inl 200 :: S) M Q) := nr rfl
set_option maxRecDepth 100000 in
theorem v116_50 (n d : Nat) (L : List (Option mL)) (S : List mV) (M : Mm) (Q : mQ) : vc (n + 1) d 116 50 L S M Q = (pI S fun k S => 0 ≤ k.toInt ∧ k.toInt ≤ 100000 ∧ vc n d 116 52 L (.inr (.inr (some M.sz)) :: S) (M.nw (41, k.toNatClampNeg) k.toNatClampNeg) Q) := nr rfl
set_option maxRecDepth 100000 in
theorem v116_52 (n d : Nat) (L : List (Option mL)) (S : List mV) (M : Mm) (Q : mQ) : vc (n + 1) d 116 52 L S M Q = (pR S fun x S => pA S fun a S => shO M a 10 (vc n d 116 55 L S (M.sr a 8 x) Q)) := nr rfl
set_option maxRecDepth 100000 in
theorem v116_55 (n d : Nat) (L : List (Option mL)) (S : List mV) (M : Mm) (Q : mQ) : vc (n + 1) d 116 55 L S M Q = (gR L 0 fun x => vc n d 116 56 L (.inr (.inr x) :: S) M Q) := nr rfl
set_option maxRecDepth 100000 in
theorem v116_56 (n d : Nat) (L : List (Option mL)) (S : List mV) (M : Mm) (Q : mQ) : vc (n + 1) d 116 56 L S M Q = (vc n d 116 58 L (.inl 6 :: S) M Q) := nr rfl
set_option maxRecDepth 100000 in
theorem v116_58 (n d : Nat) (L : List (Option mL)) (S : List mV) (M : Mm) (Q : mQ) : vc (n + 1) d 116 58 L S M Q = (pI S fun k S => 0 ≤ k.toInt ∧ k.toInt ≤ 100000 ∧ vc n d 116 60 L (.inr (.inr (some M.sz)) :: S) (M.nw (41, k.toNatClampNeg) k.toNatClampNeg) Q) := nr rfl
set_option maxRecDepth 100000 in
theorem v116_60 (n d : Nat) (L : List (Option mL)) (S : List mV) (M : Mm) (Q : mQ) : vc (n + 1) d 116 60 L S M Q = (pR S fun x S => pA S fun a S => shO M a 10 (vc n d 116 63 L S (M.sr a 16 x) Q)) := nr rfl
set_option maxRecDepth 100000 in
theorem v116_63 (n d : Nat) (L : List (Option mL)) (S : List mV) (M : Mm) (Q : mQ) : vc (n + 1) d 116 63 L S M Q = (gR L 0 fun x => vc n d 116 64 L (.inr (.inr x) :: S) M Q) := nr rfl
set_option maxRecDepth 100000 in
theorem v116_64 (n d : Nat) (L : List (Option mL)) (S : List mV) (M : Mm) (Q : mQ) : vc (n + 1) d 116 64 L S M Q = (vc n d 116 66 L (.inl 48 :: S) M Q) := nr rfl
set_option maxRecDepth 100000 in
theorem v116_66 (n d : Nat) (L : List (Option mL)) (S : List mV) (M : Mm) (Q : mQ) : vc (n + 1) d 116 66 L S M Q = (pI S fun k S => 0 ≤ k.toInt ∧ k.toInt ≤ 100000 ∧ vc n d 116 68 L (.inr (.inr (some M.sz)) :: S) (M.nw (41, k.toNatClampNeg) k.toNatClampNeg) Q) := nr rfl
set_option maxRecDepth 100000 in
theorem v116_68 (n d : Nat) (L : List (Option mL)) (S : List mV) (M : Mm) (Q : mQ) : vc (n + 1) d 116 68 L S M Q = (pR S fun x S => pA S fun a S => shO M a 10 (vc n d 116 71 L S (M.sr a 17 x) Q)) := nr rfl
set_option maxRecDepth 100000 in
theorem v116_71 (n d : Nat) (L : List (Option mL)) (S : List mV) (M : Mm) (Q : mQ) : vc (n + 1) d 116 71 L S M Q = (gR L 0 fun x => vc n d 116 72 L (.inr (.inr x) :: S) M Q) := nr rfl
set_option maxRecDepth 100000 in
theorem v116_72 (n d : Nat) (L : List (Option mL)) (S : List mV) (M : Mm) (Q : mQ) : vc (n + 1) d 116 72 L S M Q = (vc n d 116 75 L (.inl 144 :: S) M Q) := nr rfl
set_option maxRecDepth 100000 in
theorem v116_75 (n d : Nat) (L : List (Option mL)) (S : List mV) (M : Mm) (Q : mQ) : vc (n + 1) d 116 75 L S M Q = (pI S fun k S => 0 ≤ k.toInt ∧ k.toInt ≤ 100000 ∧ vc n d 116 77 L (.inr (.inr (some M.sz)) :: S) (M.nw (41, k.toNatClampNeg) k.toNatClampNeg) Q) := nr rfl
set_option maxRecDepth 100000 in
theorem v116_77 (n d : Nat) (L : List (Option mL)) (S : List mV) (M : Mm) (Q : mQ) : vc (n + 1) d 116 77 L S M Q = (pR S fun x S => pA S fun a S => shO M a 10 (vc n d 116 80 L S (M.sr a 18 x) Q)) := nr rfl
set_option maxRecDepth 100000 in
theorem v116_80 (n d : Nat) (L : List (Option mL)) (S : List mV) (M : Mm) (Q : mQ) : vc (n + 1) d 116 80 L S M Q = (gR L 0 fun x => vc n d 116 81 L (.inr (.inr x) :: S) M Q) := nr rfl
set_option maxRecDepth 100000 in
theorem v116_81 (n d : Nat) (L : List (Option mL)) (S : List mV) (M : Mm) (Q : mQ) : vc (n + 1) d 116 81 L S M Q = (vc n d 116 84 L (.inl 160 :: S) M Q) := nr rfl
set_option maxRecDepth 100000 in
theorem v116_84 (n d : Nat) (L : List (Option mL)) (S : List mV) (M : Mm) (Q : mQ) : vc (n + 1) d 116 84 L S M Q = (pI S fun k S => 0 ≤ k.toInt ∧ k.toInt ≤ 100000 ∧ vc n d 116 86 L (.inr (.inr (some M.sz)) :: S) (M.nw (41, k.toNatClampNeg) k.toNatClampNeg) Q) := nr rfl
set_option maxRecDepth 100000 in
theorem v116_86 (n d : Nat) (L : List (Option mL)) (S : List mV) (M : Mm) (Q : mQ) : vc (n + 1) d 116 86 L S M Q = (pR S fun x S => pA S fun a S => shO M a 10 (vc n d 116 89 L S (M.sr a 19 x) Q)) := nr rfl
set_option maxRecDepth 100000 in
theorem v116_89 (n d : Nat) (L : List (Option mL)) (S : List mV) (M : Mm) (Q : mQ) : vc (n + 1) d 116 89 L S M Q = (gR L 0 fun x => vc n d 116 90 L (.inr (.inr x) :: S) M Q) := nr rfl
set_option maxRecDepth 100000 in
theorem v116_90 (n d : Nat) (L : List (Option mL)) (S : List mV) (M : Mm) (Q : mQ) : vc (n + 1) d 116 90 L S M Q = (vc n d 116 93 L (.inl 160 :: S) M Q) := nr rfl
set_option maxRecDepth 100000 in
theorem v116_93 (n d : Nat) (L : List (Option mL)) (S : List mV) (M : Mm) (Q : mQ) : vc (n + 1) d 116 93 L S M Q = (pI S fun k S => 0 ≤ k.toInt ∧ k.toInt ≤ 100000 ∧ vc n d 116 95 L (.inr (.inr (some M.sz)) :: S) (M.nw (41, k.toNatClampNeg) k.toNatClampNeg) Q) := nr rfl
set_option maxRecDepth 100000 in
theorem v116_95 (n d : Nat) (L : List (Option mL)) (S : List mV) (M : Mm) (Q : mQ) : vc (n + 1) d 116 95 L S M Q = (pR S fun x S => pA S fun a S => shO M a 10 (vc n d 116 98 L S (M.sr a 20 x) Q)) := nr rfl
set_option maxRecDepth 100000 in
theorem v116_98 (n d : Nat) (L : List (Option mL)) (S : List mV) (M : Mm) (Q : mQ) : vc (n + 1) d 116 98 L S M Q = (gR L 0 fun x => vc n d 116 99 L (.inr (.inr x) :: S) M Q) := nr rfl
set_option maxRecDepth 100000 in
theorem v116_99 (n d : Nat) (L : List (Option mL)) (S : List mV) (M : Mm) (Q : mQ) : vc (n + 1) d 116 99 L S M Q = (vc n d 116 102 L (.inl 160 :: S) M Q) := nr rfl
set_option maxRecDepth 100000 in
theorem v116_102 (n d : Nat) (L : List (Option mL)) (S : List mV) (M : Mm) (Q : mQ) : vc (n + 1) d 116 102 L S M Q = (pI S fun k S => 0 ≤ k.toInt ∧ k.toInt ≤ 100000 ∧ vc n d 116 104 L (.inr (.inr (some M.sz)) :: S) (M.nw (41, k.toNatClampNeg) k.toNatClampNeg) Q) := nr rfl
set_option maxRecDepth 100000 in
theorem v116_104 (n d : Nat) (L : List (Option mL)) (S : List mV) (M : Mm) (Q : mQ) : vc (n + 1) d 116 104 L S M Q = (pR S fun x S => pA S fun a S => shO M a 10 (vc n d 116 107 L S (M.sr a 21 x) Q)) := nr rfl
set_option maxRecDepth 100000 in
theorem v116_107 (n d : Nat) (L : List (Option mL)) (S : List mV) (M : Mm) (Q : mQ) : vc (n + 1) d 116 107 L S M Q = (gR L 0 fun x => vc n d 116 108 L (.inr (.inr x) :: S) M Q) := nr rfl
set_option maxRecDepth 100000 in
theorem v116_108 (n d : Nat) (L : List (Option mL)) (S : List mV) (M : Mm) (Q : mQ) : vc (n + 1) d 116 108 L S M Q = (vc n d 116 111 L (.inl 32000 :: S) M Q) := nr rfl
set_option maxRecDepth 100000 in
theorem v116_111 (n d : Nat) (L : List (Option mL)) (S : List mV) (M : Mm) (Q : mQ) : vc (n + 1) d 116 111 L S M Q = (pI S fun k S => 0 ≤ k.toInt ∧ k.toInt ≤ 100000 ∧ vc n d 116 113 L (.inr (.inr (some M.sz)) :: S) (M.nw (41, k.toNatClampNeg) k.toNatClampNeg) Q) := nr rfl
set_option maxRecDepth 100000 in
theorem v116_113 (n d : Nat) (L : List (Option mL)) (S : List mV) (M : Mm) (Q : mQ) : vc (n + 1) d 116 113 L S M Q = (pR S fun x S => pA S fun a S => shO M a 10 (vc n d 116 116 L S (M.sr a 22 x) Q)) := nr rfl
set_option maxRecDepth 100000 in
theorem v116_116 (n d : Nat) (L : List (Option mL)) (S : List mV) (M : Mm) (Q : mQ) : vc (n + 1) d 116 116 L S M Q = (gR L 0 fun x => vc n d 116 117 L (.inr (.inr x) :: S) M Q) := nr rfl
set_option maxRecDepth 100000 in
theorem v116_117 (n d : Nat) (L : List (Option mL)) (S : List mV) (M : Mm) (Q : mQ) : vc (n + 1) d 116 117 L S M Q = (vc n d 116 120 L (.inl 2560 :: S) M Q) := nr rfl
set_option maxRecDepth 100000 in
theorem v116_120 (n d : Nat) (L : List (Option mL)) (S : List mV) (M : Mm) (Q : mQ) : vc (n + 1) d 116 120 L S M Q = (pI S fun k S => 0 ≤ k.toInt ∧ k.toInt ≤ 100000 ∧ vc n d 116 122 L (.inr (.inr (some M.sz)) :: S) (M.nw (44, k.toNatClampNeg) k.toNatClampNeg) Q) := nr rfl
set_option maxRecDepth 100000 in
theorem v116_122 (n d : Nat) (L : List (Option mL)) (S : List mV) (M : Mm) (Q : mQ) : vc (n + 1) d 116 122 L S M Q = (pR S fun x S => pA S fun a S => shO M a 10 (vc n d 116 125 L S (M.sr a 23 x) Q)) := nr rfl
set_option maxRecDepth 100000 in
theorem v116_125 (n d : Nat) (L : List (Option mL)) (S : List mV) (M : Mm) (Q : mQ) : vc (n + 1) d 116 125 L S M Q = (gR L 0 fun x => vc n d 116 126 L (.inr (.inr x) :: S) M Q) := nr rfl
set_option maxRecDepth 100000 in
theorem v116_126 (n d : Nat) (L : List (Option mL)) (S : List mV) (M : Mm) (Q : mQ) : vc (n + 1) d 116 126 L S M Q = (vc n d 116 129 L (.inl 2880 :: S) M Q) := nr rfl
set_option maxRecDepth 100000 in
theorem v116_129 (n d : Nat) (L : List (Option mL)) (S : List mV) (M : Mm) (Q : mQ) : vc (n + 1) d 116 129 L S M Q = (pI S fun k S => 0 ≤ k.toInt ∧ k.toInt ≤ 100000 ∧ vc n d 116 131 L (.inr (.inr (some M.sz)) :: S) (M.nw (41, k.toNatClampNeg) k.toNatClampNeg) Q) := nr rfl
set_option maxRecDepth 100000 in
theorem v116_131 (n d : Nat) (L : List (Option mL)) (S : List mV) (M : Mm) (Q : mQ) : vc (n + 1) d 116 131 L S M Q = (pR S fun x S => pA S fun a S => shO M a 10 (vc n d 116 134 L S (M.sr a 24 x) Q)) := nr rfl
set_option maxRecDepth 100000 in
theorem v116_134 (n d : Nat) (L : List (Option mL)) (S : List mV) (M : Mm) (Q : mQ) : vc (n + 1) d 116 134 L S M Q = (gR L 0 fun x => vc n d 116 135 L (.inr (.inr x) :: S) M Q) := nr rfl
set_option maxRecDepth 100000 in
theorem v116_135 (n d : Nat) (L : List (Option mL)) (S : List mV) (M : Mm) (Q : mQ) : vc (n + 1) d 116 135 L S M Q = (vc n d 116 138 L (.inl 5000 :: S) M Q) := nr rfl
set_option maxRecDepth 100000 in
theorem v116_138 (n d : Nat) (L : List (Option mL)) (S : List mV) (M : Mm) (Q : mQ) : vc (n + 1) d 116 138 L S M Q = (pI S fun k S => 0 ≤ k.toInt ∧ k.toInt ≤ 100000 ∧ vc n d 116 140 L (.inr (.inr (some M.sz)) :: S) (M.nw (42, k.toNatClampNeg) k.toNatClampNeg) Q) := nr rfl
set_option maxRecDepth 100000 in
theorem v116_140 (n d : Nat) (L : List (Option mL)) (S : List mV) (M : Mm) (Q : mQ) : vc (n + 1) d 116 140 L S M Q = (pR S fun x S => pA S fun a S => shO M a 10 (vc n d 116 143 L S (M.sr a 25 x) Q)) := nr rfl
set_option maxRecDepth 100000 in
theorem v116_143 (n d : Nat) (L : List (Option mL)) (S : List mV) (M : Mm) (Q : mQ) : vc (n + 1) d 116 143 L S M Q = (gR L 0 fun x => vc n d 116 144 L (.inr (.inr x) :: S) M Q) := nr rfl
set_option maxRecDepth 100000 in
theorem v116_144 (n d : Nat) (L : List (Option mL)) (S : List mV) (M : Mm) (Q : mQ) : vc (n + 1) d 116 144 L S M Q = (vc n d 116 146 L (.inl 6 :: S) M Q) := nr rfl
set_option maxRecDepth 100000 in
theorem v116_146 (n d : Nat) (L : List (Option mL)) (S : List mV) (M : Mm) (Q : mQ) : vc (n + 1) d 116 146 L S M Q = (pI S fun k S => 0 ≤ k.toInt ∧ k.toInt ≤ 100000 ∧ vc n d 116 148 L (.inr (.inr (some M.sz)) :: S) (M.nw (41, k.toNatClampNeg) k.toNatClampNeg) Q) := nr rfl
set_option maxRecDepth 100000 in
theorem v116_148 (n d : Nat) (L : List (Option mL)) (S : List mV) (M : Mm) (Q : mQ) : vc (n + 1) d 116 148 L S M Q = (pR S fun x S => pA S fun a S => shO M a 10 (vc n d 116 151 L S (M.sr a 26 x) Q)) := nr rfl
set_option maxRecDepth 100000 in
theorem v116_151 (n d : Nat) (L : List (Option mL)) (S : List mV) (M : Mm) (Q : mQ) : vc (n + 1) d 116 151 L S M Q = (gR L 0 fun x => vc n d 116 152 L (.inr (.inr x) :: S) M Q) := nr rfl
set_option maxRecDepth 100000 in
theorem v116_152 (n d : Nat) (L : List (Option mL)) (S : List mV) (M : Mm) (Q : mQ) : vc (n + 1) d 116 152 L S M Q = (vc n d 116 154 L (.inl 100 :: S) M Q) := nr rfl
set_option maxRecDepth 100000 in
theorem v116_154 (n d : Nat) (L : List (Option mL)) (S : List mV) (M : Mm) (Q : mQ) : vc (n + 1) d 116 154 L S M Q = (pI S fun k S => 0 ≤ k.toInt ∧ k.toInt ≤ 100000 ∧ vc n d 116 156 L (.inr (.inr (some M.sz)) :: S) (M.nw (44, k.toNatClampNeg) k.toNatClampNeg) Q) := nr rfl
set_option maxRecDepth 100000 in
theorem v116_156 (n d : Nat) (L : List (Option mL)) (S : List mV) (M : Mm) (Q : mQ) : vc (n + 1) d 116 156 L S M Q = (pR S fun x S => pA S fun a S => shO M a 10 (vc n d 116 159 L S (M.sr a 29 x) Q)) := nr rfl
set_option maxRecDepth 100000 in
theorem v116_159 (n d : Nat) (L : List (Option mL)) (S : List mV) (M : Mm) (Q : mQ) : vc (n + 1) d 116 159 L S M Q = (gR L 0 fun x => vc n d 116 160 L (.inr (.inr x) :: S) M Q) := nr rfl
set_option maxRecDepth 100000 in
theorem v116_160 (n d : Nat) (L : List (Option mL)) (S : List mV) (M : Mm) (Q : mQ) : vc (n + 1) d 116 160 L S M Q = (vc n d 116 163 L (.inl 256 :: S) M Q) := nr rfl
set_option maxRecDepth 100000 in
theorem v116_163 (n d : Nat) (L : List (Option mL)) (S : List mV) (M : Mm) (Q : mQ) : vc (n + 1) d 116 163 L S M Q = (pI S fun k S => 0 ≤ k.toInt ∧ k.toInt ≤ 100000 ∧ vc n d 116 165 L (.inr (.inr (some M.sz)) :: S) (M.nw (44, k.toNatClampNeg) k.toNatClampNeg) Q) := nr rfl
set_option maxRecDepth 100000 in
theorem v116_165 (n d : Nat) (L : List (Option mL)) (S : List mV) (M : Mm) (Q : mQ) : vc (n + 1) d 116 165 L S M Q = (pR S fun x S => pA S fun a S => shO M a 10 (vc n d 116 168 L S (M.sr a 30 x) Q)) := nr rfl
set_option maxRecDepth 100000 in
theorem v116_168 (n d : Nat) (L : List (Option mL)) (S : List mV) (M : Mm) (Q : mQ) : vc (n + 1) d 116 168 L S M Q = (gR L 0 fun x => vc n d 116 169 L (.inr (.inr x) :: S) M Q) := nr rfl
set_option maxRecDepth 100000 in
theorem v116_169 (n d : Nat) (L : List (Option mL)) (S : List mV) (M : Mm) (Q : mQ) : vc (n + 1) d 116 169 L S M Q = (vc n d 116 172 L (.inl 1700 :: S) M Q) := nr rfl
set_option maxRecDepth 100000 in
theorem v116_172 (n d : Nat) (L : List (Option mL)) (S : List mV) (M : Mm) (Q : mQ) : vc (n + 1) d 116 172 L S M Q = (pI S fun k S => 0 ≤ k.toInt ∧ k.toInt ≤ 100000 ∧ vc n d 116 174 L (.inr (.inr (some M.sz)) :: S) (M.nw (44, k.toNatClampNeg) k.toNatClampNeg) Q) := nr rfl
set_option maxRecDepth 100000 in
theorem v116_174 (n d : Nat) (L : List (Option mL)) (S : List mV) (M : Mm) (Q : mQ) : vc (n + 1) d 116 174 L S M Q = (pR S fun x S => pA S fun a S => shO M a 10 (vc n d 116 177 L S (M.sr a 31 x) Q)) := nr rfl
set_option maxRecDepth 100000 in
theorem v116_177 (n d : Nat) (L : List (Option mL)) (S : List mV) (M : Mm) (Q : mQ) : vc (n + 1) d 116 177 L S M Q = (gR L 0 fun x => vc n d 116 178 L (.inr (.inr x) :: S) M Q) := nr rfl
set_option maxRecDepth 100000 in
theorem v116_178 (n d : Nat) (L : List (Option mL)) (S : List mV) (M : Mm) (Q : mQ) : vc (n + 1) d 116 178 L S M Q = (vc n d 116 180 L (.inl 16 :: S) M Q) := nr rfl
set_option maxRecDepth 100000 in
theorem v116_180 (n d : Nat) (L : List (Option mL)) (S : List mV) (M : Mm) (Q : mQ) : vc (n + 1) d 116 180 L S M Q = (pI S fun k S => 0 ≤ k.toInt ∧ k.toInt ≤ 100000 ∧ vc n d 116 182 L (.inr (.inr (some M.sz)) :: S) (M.nw (41, k.toNatClampNeg) k.toNatClampNeg) Q) := nr rfl
set_option maxRecDepth 100000 in
theorem v116_182 (n d : Nat) (L : List (Option mL)) (S : List mV) (M : Mm) (Q : mQ) : vc (n + 1) d 116 182 L S M Q = (pR S fun x S => pA S fun a S => shO M a 10 (vc n d 116 185 L S (M.sr a 32 x) Q)) := nr rfl
set_option maxRecDepth 100000 in
theorem v116_185 (n d : Nat) (L : List (Option mL)) (S : List mV) (M : Mm) (Q : mQ) : vc (n + 1) d 116 185 L S M Q = (gR L 0 fun x => vc n d 116 186 L (.inr (.inr x) :: S) M Q) := nr rfl
set_option maxRecDepth 100000 in
theorem v116_186 (n d : Nat) (L : List (Option mL)) (S : List mV) (M : Mm) (Q : mQ) : vc (n + 1) d 116 186 L S M Q = (vc n d 116 188 L (.inl 16 :: S) M Q) := nr rfl
set_option maxRecDepth 100000 in
theorem v116_188 (n d : Nat) (L : List (Option mL)) (S : List mV) (M : Mm) (Q : mQ) : vc (n + 1) d 116 188 L S M Q = (pI S fun k S => 0 ≤ k.toInt ∧ k.toInt ≤ 100000 ∧ vc n d 116 190 L (.inr (.inr (some M.sz)) :: S) (M.nw (41, k.toNatClampNeg) k.toNatClampNeg) Q) := nr rfl
set_option maxRecDepth 100000 in
theorem v116_190 (n d : Nat) (L : List (Option mL)) (S : List mV) (M : Mm) (Q : mQ) : vc (n + 1) d 116 190 L S M Q = (pR S fun x S => pA S fun a S => shO M a 10 (vc n d 116 193 L S (M.sr a 33 x) Q)) := nr rfl
set_option maxRecDepth 100000 in
theorem v116_193 (n d : Nat) (L : List (Option mL)) (S : List mV) (M : Mm) (Q : mQ) : vc (n + 1) d 116 193 L S M Q = (gR L 0 fun x => vc n d 116 194 L (.inr (.inr x) :: S) M Q) := nr rfl
set_option maxRecDepth 100000 in
theorem v116_194 (n d : Nat) (L : List (Option mL)) (S : List mV) (M : Mm) (Q : mQ) : vc (n + 1) d 116 194 L S M Q = (vc n d 116 196 L (.inl 48 :: S) M Q) := nr rfl
set_option maxRecDepth 100000 in
theorem v116_196 (n d : Nat) (L : List (Option mL)) (S : List mV) (M : Mm) (Q : mQ) : vc (n + 1) d 116 196 L S M Q = (pI S fun k S => 0 ≤ k.toInt ∧ k.toInt ≤ 100000 ∧ vc n d 116 198 L (.inr (.inr (some M.sz)) :: S) (M.nw (41, k.toNatClampNeg) k.toNatClampNeg) Q) := nr rfl
set_option maxRecDepth 100000 in
theorem v116_198 (n d : Nat) (L : List (Option mL)) (S : List mV) (M : Mm) (Q : mQ) : vc (n + 1) d 116 198 L S M Q = (pR S fun x S => pA S fun a S => shO M a 10 (vc n d 116 201 L S (M.sr a 37 x) Q)) := nr rfl
set_option maxRecDepth 100000 in
theorem v116_201 (n d : Nat) (L : List (Option mL)) (S : List mV) (M : Mm) (Q : mQ) : vc (n + 1) d 116 201 L S M Q = (gR L 0 fun x => vc n d 116 202 L (.inr (.inr x) :: S) M Q) := nr rfl
set_option maxRecDepth 100000 in
theorem v116_202 (n d : Nat) (L : List (Option mL)) (S : List mV) (M : Mm) (Q : mQ) : vc (n + 1) d 116 202 L S M Q = (pA S fun a S => shO M a 10 (rrf M a 4 fun r => vc n d 116 205 L (.inr (.inr r) :: S) M Q)) := nr rfl
set_option maxRecDepth 100000 in
theorem v116_205 (n d : Nat) (L : List (Option mL)) (S : List mV) (M : Mm) (Q : mQ) : vc (n + 1) d 116 205 L S M Q = (vc n d 116 207 L (.inl 18 :: S) M Q) := nr rfl
set_option maxRecDepth 100000 in
theorem v116_207 (n d : Nat) (L : List (Option mL)) (S : List mV) (M : Mm) (Q : mQ) : vc (n + 1) d 116 207 L S M Q = (vc n d 116 208 L (.inl (-1) :: S) M Q) := nr rfl
set_option maxRecDepth 100000 in
theorem v116_208 (n d : Nat) (L : List (Option mL)) (S : List mV) (M : Mm) (Q : mQ) : vc (n + 1) d 116 208 L S M Q = (pI S fun x S => pI S fun i S => pA S fun a S => shA M a fun t k => t = 41 ∧ inB i k ∧ vc n d 116 209 L S (M.si a i.toNatClampNeg x) Q) := nr rfl
set_option maxRecDepth 100000 in
theorem v116_209 (n d : Nat) (L : List (Option mL)) (S : List mV) (M : Mm) (Q : mQ) : vc (n + 1) d 116 209 L S M Q = (vc n d 116 210 L (.inl 0 :: S) M Q) := nr rfl
set_option maxRecDepth 100000 in
theorem v116_210 (n d : Nat) (L : List (Option mL)) (S : List mV) (M : Mm) (Q : mQ) : vc (n + 1) d 116 210 L S M Q = (pI S fun x S => sL L 1 (some (.inl x)) fun L => X d 116 211 L S M Q) := nr rfl
set_option maxRecDepth 100000 in
theorem v116_211 (n d : Nat) (L : List (Option mL)) (S : List mV) (M : Mm) (Q : mQ) : vc (n + 1) d 116 211 L S M Q = (gI L 1 fun x => vc n d 116 212 L (.inl x :: S) M Q) := nr rfl
set_option maxRecDepth 100000 in
theorem v116_212 (n d : Nat) (L : List (Option mL)) (S : List mV) (M : Mm) (Q : mQ) : vc (n + 1) d 116 212 L S M Q = (vc n d 116 214 L (.inl 8 :: S) M Q) := nr rfl
set_option maxRecDepth 100000 in
theorem v116_214 (n d : Nat) (L : List (Option mL)) (S : List mV) (M : Mm) (Q : mQ) : vc (n + 1) d 116 214 L S M Q = (pI S fun y S => pI S fun x S => (y ≤ x → vc n d 116 230 L S M Q) ∧ (¬ (y ≤ x) → vc n d 116 217 L S M Q)) := nr rfl
set_option maxRecDepth 100000 in
theorem v116_217 (n d : Nat) (L : List (Option mL)) (S : List mV) (M : Mm) (Q : mQ) : vc (n + 1) d 116 217 L S M Q = (gR L 0 fun x => vc n d 116 218 L (.inr (.inr x) :: S) M Q) := nr rfl
set_option maxRecDepth 100000 in
theorem v116_218 (n d : Nat) (L : List (Option mL)) (S : List mV) (M : Mm) (Q : mQ) : vc (n + 1) d 116 218 L S M Q = (pA S fun a S => shO M a 10 (rrf M a 7 fun r => vc n d 116 221 L (.inr (.inr r) :: S) M Q)) := nr rfl
set_option maxRecDepth 100000 in
theorem v116_221 (n d : Nat) (L : List (Option mL)) (S : List mV) (M : Mm) (Q : mQ) : vc (n + 1) d 116 221 L S M Q = (gI L 1 fun x => vc n d 116 222 L (.inl x :: S) M Q) := nr rfl
set_option maxRecDepth 100000 in
theorem v116_222 (n d : Nat) (L : List (Option mL)) (S : List mV) (M : Mm) (Q : mQ) : vc (n + 1) d 116 222 L S M Q = (vc n d 116 223 L (.inl (-1) :: S) M Q) := nr rfl
set_option maxRecDepth 100000 in
theorem v116_223 (n d : Nat) (L : List (Option mL)) (S : List mV) (M : Mm) (Q : mQ) : vc (n + 1) d 116 223 L S M Q = (pI S fun x S => pI S fun i S => pA S fun a S => shA M a fun t k => t = 41 ∧ inB i k ∧ vc n d 116 224 L S (M.si a i.toNatClampNeg x) Q) := nr rfl
set_option maxRecDepth 100000 in
theorem v116_224 (n d : Nat) (L : List (Option mL)) (S : List mV) (M : Mm) (Q : mQ) : vc (n + 1) d 116 224 L S M Q = (gI L 1 fun x => sL L 1 (some (.inl (x + 1))) fun L => vc n d 116 227 L S M Q) := nr rfl
set_option maxRecDepth 100000 in
theorem v116_227 (n d : Nat) (L : List (Option mL)) (S : List mV) (M : Mm) (Q : mQ) : vc (n + 1) d 116 227 L S M Q = (X d 116 211 L S M Q) := nr rfl
set_option maxRecDepth 100000 in
theorem v116_230 (n d : Nat) (L : List (Option mL)) (S : List mV) (M : Mm) (Q : mQ) : vc (n + 1) d 116 230 L S M Q = (gR L 0 fun x => vc n d 116 231 L (.inr (.inr x) :: S) M Q) := nr rfl
set_option maxRecDepth 100000 in
theorem v116_231 (n d : Nat) (L : List (Option mL)) (S : List mV) (M : Mm) (Q : mQ) : vc (n + 1) d 116 231 L S M Q = (vc n d 116 232 L (.inl (-1) :: S) M Q) := nr rfl
set_option maxRecDepth 100000 in
theorem v116_232 (n d : Nat) (L : List (Option mL)) (S : List mV) (M : Mm) (Q : mQ) : vc (n + 1) d 116 232 L S M Q = (pI S fun x S => pA S fun a S => shO M a 10 (vc n d 116 235 L S (M.si a 9 x) Q)) := nr rfl
set_option maxRecDepth 100000 in
theorem v116_235 (n d : Nat) (L : List (Option mL)) (S : List mV) (M : Mm) (Q : mQ) : vc (n + 1) d 116 235 L S M Q = (vc n d 116 236 L (.inl 0 :: S) M Q) := nr rfl
set_option maxRecDepth 100000 in
theorem v116_236 (n d : Nat) (L : List (Option mL)) (S : List mV) (M : Mm) (Q : mQ) : vc (n + 1) d 116 236 L S M Q = (pI S fun x S => sL L 1 (some (.inl x)) fun L => X d 116 237 L S M Q) := nr rfl
set_option maxRecDepth 100000 in
theorem v116_237 (n d : Nat) (L : List (Option mL)) (S : List mV) (M : Mm) (Q : mQ) : vc (n + 1) d 116 237 L S M Q = (gI L 1 fun x => vc n d 116 238 L (.inl x :: S) M Q) := nr rfl
set_option maxRecDepth 100000 in
theorem v116_238 (n d : Nat) (L : List (Option mL)) (S : List mV) (M : Mm) (Q : mQ) : vc (n + 1) d 116 238 L S M Q = (vc n d 116 240 L (.inl 48 :: S) M Q) := nr rfl
set_option maxRecDepth 100000 in
theorem v116_240 (n d : Nat) (L : List (Option mL)) (S : List mV) (M : Mm) (Q : mQ) : vc (n + 1) d 116 240 L S M Q = (pI S fun y S => pI S fun x S => (y ≤ x → vc n d 116 256 L S M Q) ∧ (¬ (y ≤ x) → vc n d 116 243 L S M Q)) := nr rfl
set_option maxRecDepth 100000 in
theorem v116_243 (n d : Nat) (L : List (Option mL)) (S : List mV) (M : Mm) (Q : mQ) : vc (n + 1) d 116 243 L S M Q = (gR L 0 fun x => vc n d 116 244 L (.inr (.inr x) :: S) M Q) := nr rfl
set_option maxRecDepth 100000 in
theorem v116_244 (n d : Nat) (L : List (Option mL)) (S : List mV) (M : Mm) (Q : mQ) : vc (n + 1) d 116 244 L S M Q = (pA S fun a S => shO M a 10 (rrf M a 17 fun r => vc n d 116 247 L (.inr (.inr r) :: S) M Q)) := nr rfl
set_option maxRecDepth 100000 in
theorem v116_247 (n d : Nat) (L : List (Option mL)) (S : List mV) (M : Mm) (Q : mQ) : vc (n + 1) d 116 247 L S M Q = (gI L 1 fun x => vc n d 116 248 L (.inl x :: S) M Q) := nr rfl
set_option maxRecDepth 100000 in
theorem v116_248 (n d : Nat) (L : List (Option mL)) (S : List mV) (M : Mm) (Q : mQ) : vc (n + 1) d 116 248 L S M Q = (vc n d 116 249 L (.inl (-1) :: S) M Q) := nr rfl
set_option maxRecDepth 100000 in
theorem v116_249 (n d : Nat) (L : List (Option mL)) (S : List mV) (M : Mm) (Q : mQ) : vc (n + 1) d 116 249 L S M Q = (pI S fun x S => pI S fun i S => pA S fun a S => shA M a fun t k => t = 41 ∧ inB i k ∧ vc n d 116 250 L S (M.si a i.toNatClampNeg x) Q) := nr rfl
set_option maxRecDepth 100000 in
theorem v116_250 (n d : Nat) (L : List (Option mL)) (S : List mV) (M : Mm) (Q : mQ) : vc (n + 1) d 116 250 L S M Q = (gI L 1 fun x => sL L 1 (some (.inl (x + 1))) fun L => vc n d 116 253 L S M Q) := nr rfl
set_option maxRecDepth 100000 in
theorem v116_253 (n d : Nat) (L : List (Option mL)) (S : List mV) (M : Mm) (Q : mQ) : vc (n + 1) d 116 253 L S M Q = (X d 116 237 L S M Q) := nr rfl
set_option maxRecDepth 100000 in
theorem v116_256 (n d : Nat) (L : List (Option mL)) (S : List mV) (M : Mm) (Q : mQ) : vc (n + 1) d 116 256 L S M Q = (vc n d 116 257 L (.inl 0 :: S) M Q) := nr rfl
set_option maxRecDepth 100000 in
theorem v116_257 (n d : Nat) (L : List (Option mL)) (S : List mV) (M : Mm) (Q : mQ) : vc (n + 1) d 116 257 L S M Q = (pI S fun x S => sL L 1 (some (.inl x)) fun L => X d 116 258 L S M Q) := nr rfl
set_option maxRecDepth 100000 in
theorem v116_258 (n d : Nat) (L : List (Option mL)) (S : List mV) (M : Mm) (Q : mQ) : vc (n + 1) d 116 258 L S M Q = (gI L 1 fun x => vc n d 116 259 L (.inl x :: S) M Q) := nr rfl
set_option maxRecDepth 100000 in
theorem v116_259 (n d : Nat) (L : List (Option mL)) (S : List mV) (M : Mm) (Q : mQ) : vc (n + 1) d 116 259 L S M Q = (vc n d 116 262 L (.inl 144 :: S) M Q) := nr rfl
set_option maxRecDepth 100000 in
theorem v116_262 (n d : Nat) (L : List (Option mL)) (S : List mV) (M : Mm) (Q : mQ) : vc (n + 1) d 116 262 L S M Q = (pI S fun y S => pI S fun x S => (y ≤ x → vc n d 116 278 L S M Q) ∧ (¬ (y ≤ x) → vc n d 116 265 L S M Q)) := nr rfl
set_option maxRecDepth 100000 in
theorem v116_265 (n d : Nat) (L : List (Option mL)) (S : List mV) (M : Mm) (Q : mQ) : vc (n + 1) d 116 265 L S M Q = (gR L 0 fun x => vc n d 116 266 L (.inr (.inr x) :: S) M Q) := nr rfl
set_option maxRecDepth 100000 in
theorem v116_266 (n d : Nat) (L : List (Option mL)) (S : List mV) (M : Mm) (Q : mQ) : vc (n + 1) d 116 266 L S M Q = (pA S fun a S => shO M a 10 (rrf M a 18 fun r => vc n d 116 269 L (.inr (.inr r) :: S) M Q)) := nr rfl
set_option maxRecDepth 100000 in
theorem v116_269 (n d : Nat) (L : List (Option mL)) (S : List mV) (M : Mm) (Q : mQ) : vc (n + 1) d 116 269 L S M Q = (gI L 1 fun x => vc n d 116 270 L (.inl x :: S) M Q) := nr rfl
set_option maxRecDepth 100000 in
theorem v116_270 (n d : Nat) (L : List (Option mL)) (S : List mV) (M : Mm) (Q : mQ) : vc (n + 1) d 116 270 L S M Q = (vc n d 116 271 L (.inl (-1) :: S) M Q) := nr rfl
set_option maxRecDepth 100000 in
theorem v116_271 (n d : Nat) (L : List (Option mL)) (S : List mV) (M : Mm) (Q : mQ) : vc (n + 1) d 116 271 L S M Q = (pI S fun x S => pI S fun i S => pA S fun a S => shA M a fun t k => t = 41 ∧ inB i k ∧ vc n d 116 272 L S (M.si a i.toNatClampNeg x) Q) := nr rfl
set_option maxRecDepth 100000 in
theorem v116_272 (n d : Nat) (L : List (Option mL)) (S : List mV) (M : Mm) (Q : mQ) : vc (n + 1) d 116 272 L S M Q = (gI L 1 fun x => sL L 1 (some (.inl (x + 1))) fun L => vc n d 116 275 L S M Q) := nr rfl
set_option maxRecDepth 100000 in
theorem v116_275 (n d : Nat) (L : List (Option mL)) (S : List mV) (M : Mm) (Q : mQ) : vc (n + 1) d 116 275 L S M Q = (X d 116 258 L S M Q) := nr rfl
set_option maxRecDepth 100000 in
theorem v116_278 (n d : Nat) (L : List (Option mL)) (S : List mV) (M : Mm) (Q : mQ) : vc (n + 1) d 116 278 L S M Q = (S = [] ∧ Q none M) := nr rfl
set_option maxRecDepth 100000 in
theorem v117_0 (n d : Nat) (L : List (Option mL)) (S : List mV) (M : Mm) (Q : mQ) : vc (n + 1) d 117 0 L S M Q = (gR L 0 fun x => vc n d 117 1 L (.inr (.inr x) :: S) M Q) := nr rfl
set_option maxRecDepth 100000 in
theorem v117_1 (n d : Nat) (L : List (Option mL)) (S : List mV) (M : Mm) (Q : mQ) : vc (n + 1) d 117 1 L S M Q = (vc n d 117 2 L (.inl 0 :: S) M Q) := nr rfl
set_option maxRecDepth 100000 in
theorem v117_2 (n d : Nat) (L : List (Option mL)) (S : List mV) (M : Mm) (Q : mQ) : vc (n + 1) d 117 2 L S M Q = (pI S fun x S => pA S fun a S => shO M a 10 (vc n d 117 5 L S (M.si a 0 x) Q)) := nr rfl
set_option maxRecDepth 100000 in
theorem v117_5 (n d : Nat) (L : List (Option mL)) (S : List mV) (M : Mm) (Q : mQ) : vc (n + 1) d 117 5 L S M Q = (gR L 0 fun x => vc n d 117 6 L (.inr (.inr x) :: S) M Q) := nr rfl
set_option maxRecDepth 100000 in
theorem v117_6 (n d : Nat) (L : List (Option mL)) (S : List mV) (M : Mm) (Q : mQ) : vc (n + 1) d 117 6 L S M Q = (pA S fun a S => shO M a 10 (vc n d 117 9 L (.inl (M.it a 2) :: S) M Q)) := nr rfl
set_option maxRecDepth 100000 in
theorem v117_9 (n d : Nat) (L : List (Option mL)) (S : List mV) (M : Mm) (Q : mQ) : vc (n + 1) d 117 9 L S M Q = (vc n d 117 11 L (.inl 20 :: S) M Q) := nr rfl
set_option maxRecDepth 100000 in
theorem v117_11 (n d : Nat) (L : List (Option mL)) (S : List mV) (M : Mm) (Q : mQ) : vc (n + 1) d 117 11 L S M Q = (pI S fun y S => pI S fun x S => vc n d 117 12 L (.inl (x + y) :: S) M Q) := nr rfl
set_option maxRecDepth 100000 in
theorem v117_12 (n d : Nat) (L : List (Option mL)) (S : List mV) (M : Mm) (Q : mQ) : vc (n + 1) d 117 12 L S M Q = (vc n d 117 15 L (.inl 200 :: S) M Q) := nr rfl
set_option maxRecDepth 100000 in
theorem v117_15 (n d : Nat) (L : List (Option mL)) (S : List mV) (M : Mm) (Q : mQ) : vc (n + 1) d 117 15 L S M Q = (pI S fun y S => pI S fun x S => (x ≤ y → vc n d 117 20 L S M Q) ∧ (¬ (x ≤ y) → vc n d 117 18 L S M Q)) := nr rfl
set_option maxRecDepth 100000 in
theorem v117_18 (n d : Nat) (L : List (Option mL)) (S : List mV) (M : Mm) (Q : mQ) : vc (n + 1) d 117 18 L S M Q = (vc n d 117 19 L (.inl (-1) :: S) M Q) := nr rfl
set_option maxRecDepth 100000 in
theorem v117_19 (n d : Nat) (L : List (Option mL)) (S : List mV) (M : Mm) (Q : mQ) : vc (n + 1) d 117 19 L S M Q = (pI S fun x S => S = [] ∧ (0 = 0 ∨ x = 0 ∨ x = 1) ∧ Q (some (.inl x)) M) := nr rfl
set_option maxRecDepth 100000 in
theorem v117_20 (n d : Nat) (L : List (Option mL)) (S : List mV) (M : Mm) (Q : mQ) : vc (n + 1) d 117 20 L S M Q = (vc n d 117 21 L (.inl 0 :: S) M Q) := nr rfl
set_option maxRecDepth 100000 in
theorem v117_21 (n d : Nat) (L : List (Option mL)) (S : List mV) (M : Mm) (Q : mQ) : vc (n + 1) d 117 21 L S M Q = (pI S fun x S => sL L 6 (some (.inl x)) fun L => X d 117 23 L S M Q) := nr rfl
set_option maxRecDepth 100000 in
theorem v117_23 (n d : Nat) (L : List (Option mL)) (S : List mV) (M : Mm) (Q : mQ) : vc (n + 1) d 117 23 L S M Q = (gI L 6 fun x => vc n d 117 25 L (.inl x :: S) M Q) := nr rfl
set_option maxRecDepth 100000 in
theorem v117_25 (n d : Nat) (L : List (Option mL)) (S : List mV) (M : Mm) (Q : mQ) : vc (n + 1) d 117 25 L S M Q = (vc n d 117 27 L (.inl 20 :: S) M Q) := nr rfl
set_option maxRecDepth 100000 in
theorem v117_27 (n d : Nat) (L : List (Option mL)) (S : List mV) (M : Mm) (Q : mQ) : vc (n + 1) d 117 27 L S M Q = (pI S fun y S => pI S fun x S => (y ≤ x → vc n d 117 117 L S M Q) ∧ (¬ (y ≤ x) → vc n d 117 30 L S M Q)) := nr rfl
set_option maxRecDepth 100000 in
theorem v117_30 (n d : Nat) (L : List (Option mL)) (S : List mV) (M : Mm) (Q : mQ) : vc (n + 1) d 117 30 L S M Q = (gI L 6 fun x => vc n d 117 32 L (.inl x :: S) M Q) := nr rfl
set_option maxRecDepth 100000 in
theorem v117_32 (n d : Nat) (L : List (Option mL)) (S : List mV) (M : Mm) (Q : mQ) : vc (n + 1) d 117 32 L S M Q = (vc n d 117 33 L (.inl 4 :: S) M Q) := nr rfl
set_option maxRecDepth 100000 in
theorem v117_33 (n d : Nat) (L : List (Option mL)) (S : List mV) (M : Mm) (Q : mQ) : vc (n + 1) d 117 33 L S M Q = (pI S fun y S => pI S fun x S => (y ≤ x → vc n d 117 40 L S M Q) ∧ (¬ (y ≤ x) → vc n d 117 36 L S M Q)) := nr rfl
set_option maxRecDepth 100000 in
theorem v117_36 (n d : Nat) (L : List (Option mL)) (S : List mV) (M : Mm) (Q : mQ) : vc (n + 1) d 117 36 L S M Q = (gI L 1 fun x => vc n d 117 37 L (.inl x :: S) M Q) := nr rfl
set_option maxRecDepth 100000 in
theorem v117_37 (n d : Nat) (L : List (Option mL)) (S : List mV) (M : Mm) (Q : mQ) : vc (n + 1) d 117 37 L S M Q = (X d 117 76 L S M Q) := nr rfl
set_option maxRecDepth 100000 in
theorem v117_40 (n d : Nat) (L : List (Option mL)) (S : List mV) (M : Mm) (Q : mQ) : vc (n + 1) d 117 40 L S M Q = (gI L 6 fun x => vc n d 117 42 L (.inl x :: S) M Q) := nr rfl
set_option maxRecDepth 100000 in
theorem v117_42 (n d : Nat) (L : List (Option mL)) (S : List mV) (M : Mm) (Q : mQ) : vc (n + 1) d 117 42 L S M Q = (vc n d 117 44 L (.inl 8 :: S) M Q) := nr rfl
set_option maxRecDepth 100000 in
theorem v117_44 (n d : Nat) (L : List (Option mL)) (S : List mV) (M : Mm) (Q : mQ) : vc (n + 1) d 117 44 L S M Q = (pI S fun y S => pI S fun x S => (y ≤ x → vc n d 117 51 L S M Q) ∧ (¬ (y ≤ x) → vc n d 117 47 L S M Q)) := nr rfl
set_option maxRecDepth 100000 in
theorem v117_47 (n d : Nat) (L : List (Option mL)) (S : List mV) (M : Mm) (Q : mQ) : vc (n + 1) d 117 47 L S M Q = (gI L 2 fun x => vc n d 117 48 L (.inl x :: S) M Q) := nr rfl
set_option maxRecDepth 100000 in
theorem v117_48 (n d : Nat) (L : List (Option mL)) (S : List mV) (M : Mm) (Q : mQ) : vc (n + 1) d 117 48 L S M Q = (X d 117 76 L S M Q) := nr rfl
set_option maxRecDepth 100000 in
theorem v117_51 (n d : Nat) (L : List (Option mL)) (S : List mV) (M : Mm) (Q : mQ) : vc (n + 1) d 117 51 L S M Q = (gI L 6 fun x => vc n d 117 53 L (.inl x :: S) M Q) := nr rfl
set_option maxRecDepth 100000 in
theorem v117_53 (n d : Nat) (L : List (Option mL)) (S : List mV) (M : Mm) (Q : mQ) : vc (n + 1) d 117 53 L S M Q = (vc n d 117 55 L (.inl 12 :: S) M Q) := nr rfl
set_option maxRecDepth 100000 in
theorem v117_55 (n d : Nat) (L : List (Option mL)) (S : List mV) (M : Mm) (Q : mQ) : vc (n + 1) d 117 55 L S M Q = (pI S fun y S => pI S fun x S => (y ≤ x → vc n d 117 62 L S M Q) ∧ (¬ (y ≤ x) → vc n d 117 58 L S M Q)) := nr rfl
set_option maxRecDepth 100000 in
theorem v117_58 (n d : Nat) (L : List (Option mL)) (S : List mV) (M : Mm) (Q : mQ) : vc (n + 1) d 117 58 L S M Q = (gI L 3 fun x => vc n d 117 59 L (.inl x :: S) M Q) := nr rfl
set_option maxRecDepth 100000 in
theorem v117_59 (n d : Nat) (L : List (Option mL)) (S : List mV) (M : Mm) (Q : mQ) : vc (n + 1) d 117 59 L S M Q = (X d 117 76 L S M Q) := nr rfl
set_option maxRecDepth 100000 in
theorem v117_62 (n d : Nat) (L : List (Option mL)) (S : List mV) (M : Mm) (Q : mQ) : vc (n + 1) d 117 62 L S M Q = (gI L 6 fun x => vc n d 117 64 L (.inl x :: S) M Q) := nr rfl
set_option maxRecDepth 100000 in
theorem v117_64 (n d : Nat) (L : List (Option mL)) (S : List mV) (M : Mm) (Q : mQ) : vc (n + 1) d 117 64 L S M Q = (vc n d 117 66 L (.inl 16 :: S) M Q) := nr rfl
set_option maxRecDepth 100000 in
theorem v117_66 (n d : Nat) (L : List (Option mL)) (S : List mV) (M : Mm) (Q : mQ) : vc (n + 1) d 117 66 L S M Q = (pI S fun y S => pI S fun x S => (y ≤ x → vc n d 117 74 L S M Q) ∧ (¬ (y ≤ x) → vc n d 117 69 L S M Q)) := nr rfl
set_option maxRecDepth 100000 in
theorem v117_69 (n d : Nat) (L : List (Option mL)) (S : List mV) (M : Mm) (Q : mQ) : vc (n + 1) d 117 69 L S M Q = (gI L 4 fun x => vc n d 117 71 L (.inl x :: S) M Q) := nr rfl
set_option maxRecDepth 100000 in
theorem v117_71 (n d : Nat) (L : List (Option mL)) (S : List mV) (M : Mm) (Q : mQ) : vc (n + 1) d 117 71 L S M Q = (X d 117 76 L S M Q) := nr rfl
set_option maxRecDepth 100000 in
theorem v117_74 (n d : Nat) (L : List (Option mL)) (S : List mV) (M : Mm) (Q : mQ) : vc (n + 1) d 117 74 L S M Q = (gI L 5 fun x => X d 117 76 L (.inl x :: S) M Q) := nr rfl
set_option maxRecDepth 100000 in
theorem v117_76 (n d : Nat) (L : List (Option mL)) (S : List mV) (M : Mm) (Q : mQ) : vc (n + 1) d 117 76 L S M Q = (pI S fun x S => sL L 7 (some (.inl x)) fun L => vc n d 117 78 L S M Q) := nr rfl
set_option maxRecDepth 100000 in
theorem v117_78 (n d : Nat) (L : List (Option mL)) (S : List mV) (M : Mm) (Q : mQ) : vc (n + 1) d 117 78 L S M Q = (gR L 0 fun x => vc n d 117 79 L (.inr (.inr x) :: S) M Q) := nr rfl
set_option maxRecDepth 100000 in
theorem v117_79 (n d : Nat) (L : List (Option mL)) (S : List mV) (M : Mm) (Q : mQ) : vc (n + 1) d 117 79 L S M Q = (pA S fun a S => shO M a 10 (rrf M a 1 fun r => vc n d 117 82 L (.inr (.inr r) :: S) M Q)) := nr rfl
set_option maxRecDepth 100000 in
theorem v117_82 (n d : Nat) (L : List (Option mL)) (S : List mV) (M : Mm) (Q : mQ) : vc (n + 1) d 117 82 L S M Q = (gR L 0 fun x => vc n d 117 83 L (.inr (.inr x) :: S) M Q) := nr rfl
set_option maxRecDepth 100000 in
theorem v117_83 (n d : Nat) (L : List (Option mL)) (S : List mV) (M : Mm) (Q : mQ) : vc (n + 1) d 117 83 L S M Q = (pA S fun a S => shO M a 10 (vc n d 117 86 L (.inl (M.it a 2) :: S) M Q)) := nr rfl
set_option maxRecDepth 100000 in
theorem v117_86 (n d : Nat) (L : List (Option mL)) (S : List mV) (M : Mm) (Q : mQ) : vc (n + 1) d 117 86 L S M Q = (gI L 7 fun x => vc n d 117 88 L (.inl x :: S) M Q) := nr rfl
set_option maxRecDepth 100000 in
theorem v117_88 (n d : Nat) (L : List (Option mL)) (S : List mV) (M : Mm) (Q : mQ) : vc (n + 1) d 117 88 L S M Q = (vc n d 117 90 L (.inl 24 :: S) M Q) := nr rfl
set_option maxRecDepth 100000 in
theorem v117_90 (n d : Nat) (L : List (Option mL)) (S : List mV) (M : Mm) (Q : mQ) : vc (n + 1) d 117 90 L S M Q = (vc n d 117 92 L (.inl 8 :: S) M Q) := nr rfl
set_option maxRecDepth 100000 in
theorem v117_92 (n d : Nat) (L : List (Option mL)) (S : List mV) (M : Mm) (Q : mQ) : vc (n + 1) d 117 92 L S M Q = (gI L 6 fun x => vc n d 117 94 L (.inl x :: S) M Q) := nr rfl
set_option maxRecDepth 100000 in
theorem v117_94 (n d : Nat) (L : List (Option mL)) (S : List mV) (M : Mm) (Q : mQ) : vc (n + 1) d 117 94 L S M Q = (vc n d 117 95 L (.inl 4 :: S) M Q) := nr rfl
set_option maxRecDepth 100000 in
theorem v117_95 (n d : Nat) (L : List (Option mL)) (S : List mV) (M : Mm) (Q : mQ) : vc (n + 1) d 117 95 L S M Q = (pI S fun y S => pI S fun x S => ¬ y = 0 ∧ vc n d 117 96 L (.inl (x - x / y * y) :: S) M Q) := nr rfl
set_option maxRecDepth 100000 in
theorem v117_96 (n d : Nat) (L : List (Option mL)) (S : List mV) (M : Mm) (Q : mQ) : vc (n + 1) d 117 96 L S M Q = (pI S fun y S => pI S fun x S => vc n d 117 97 L (.inl (x * y) :: S) M Q) := nr rfl
set_option maxRecDepth 100000 in
theorem v117_97 (n d : Nat) (L : List (Option mL)) (S : List mV) (M : Mm) (Q : mQ) : vc (n + 1) d 117 97 L S M Q = (pI S fun y S => pI S fun x S => vc n d 117 98 L (.inl (x - y) :: S) M Q) := nr rfl
set_option maxRecDepth 100000 in
theorem v117_98 (n d : Nat) (L : List (Option mL)) (S : List mV) (M : Mm) (Q : mQ) : vc (n + 1) d 117 98 L S M Q = (pI S fun y S => pI S fun x S => vc n d 117 99 L (.inl (x >>> (y &&& 31)) :: S) M Q) := nr rfl
set_option maxRecDepth 100000 in
theorem v117_99 (n d : Nat) (L : List (Option mL)) (S : List mV) (M : Mm) (Q : mQ) : vc (n + 1) d 117 99 L S M Q = (pI S fun x S => vc n d 117 100 L (.inl x.toInt8.toInt32 :: S) M Q) := nr rfl
set_option maxRecDepth 100000 in
theorem v117_100 (n d : Nat) (L : List (Option mL)) (S : List mV) (M : Mm) (Q : mQ) : vc (n + 1) d 117 100 L S M Q = (pI S fun x S => pI S fun i S => pA S fun a S => shA M a fun t k => (t = 42 ∨ t = 44) ∧ inB i k ∧ vc n d 117 101 L S (M.si a i.toNatClampNeg (bnar t x)) Q) := nr rfl
set_option maxRecDepth 100000 in
theorem v117_101 (n d : Nat) (L : List (Option mL)) (S : List mV) (M : Mm) (Q : mQ) : vc (n + 1) d 117 101 L S M Q = (gR L 0 fun x => vc n d 117 102 L (.inr (.inr x) :: S) M Q) := nr rfl
set_option maxRecDepth 100000 in
theorem v117_102 (n d : Nat) (L : List (Option mL)) (S : List mV) (M : Mm) (Q : mQ) : vc (n + 1) d 117 102 L S M Q = (pC S fun v S => vc n d 117 103 L (v :: v :: S) M Q) := nr rfl
set_option maxRecDepth 100000 in
theorem v117_103 (n d : Nat) (L : List (Option mL)) (S : List mV) (M : Mm) (Q : mQ) : vc (n + 1) d 117 103 L S M Q = (pA S fun a S => shO M a 10 (vc n d 117 106 L (.inl (M.it a 2) :: S) M Q)) := nr rfl
set_option maxRecDepth 100000 in
theorem v117_106 (n d : Nat) (L : List (Option mL)) (S : List mV) (M : Mm) (Q : mQ) : vc (n + 1) d 117 106 L S M Q = (vc n d 117 107 L (.inl 1 :: S) M Q) := nr rfl
set_option maxRecDepth 100000 in
theorem v117_107 (n d : Nat) (L : List (Option mL)) (S : List mV) (M : Mm) (Q : mQ) : vc (n + 1) d 117 107 L S M Q = (pI S fun y S => pI S fun x S => vc n d 117 108 L (.inl (x + y) :: S) M Q) := nr rfl
set_option maxRecDepth 100000 in
theorem v117_108 (n d : Nat) (L : List (Option mL)) (S : List mV) (M : Mm) (Q : mQ) : vc (n + 1) d 117 108 L S M Q = (pI S fun x S => pA S fun a S => shO M a 10 (vc n d 117 111 L S (M.si a 2 x) Q)) := nr rfl
set_option maxRecDepth 100000 in
theorem v117_111 (n d : Nat) (L : List (Option mL)) (S : List mV) (M : Mm) (Q : mQ) : vc (n + 1) d 117 111 L S M Q = (gI L 6 fun x => sL L 6 (some (.inl (x + 1))) fun L => vc n d 117 114 L S M Q) := nr rfl
set_option maxRecDepth 100000 in
theorem v117_114 (n d : Nat) (L : List (Option mL)) (S : List mV) (M : Mm) (Q : mQ) : vc (n + 1) d 117 114 L S M Q = (X d 117 23 L S M Q) := nr rfl
set_option maxRecDepth 100000 in
theorem v117_117 (n d : Nat) (L : List (Option mL)) (S : List mV) (M : Mm) (Q : mQ) : vc (n + 1) d 117 117 L S M Q = (gR L 0 fun x => vc n d 117 118 L (.inr (.inr x) :: S) M Q) := nr rfl
set_option maxRecDepth 100000 in
theorem v117_118 (n d : Nat) (L : List (Option mL)) (S : List mV) (M : Mm) (Q : mQ) : vc (n + 1) d 117 118 L S M Q = (pA S fun a S => shO M a 10 (vc n d 117 121 L (.inl (M.it a 2) :: S) M Q)) := nr rfl
set_option maxRecDepth 100000 in
theorem v117_121 (n d : Nat) (L : List (Option mL)) (S : List mV) (M : Mm) (Q : mQ) : vc (n + 1) d 117 121 L S M Q = (pI S fun x S => S = [] ∧ (0 = 0 ∨ x = 0 ∨ x = 1) ∧ Q (some (.inl x)) M) := nr rfl
set_option maxRecDepth 100000 in
theorem v118_0 (n d : Nat) (L : List (Option mL)) (S : List mV) (M : Mm) (Q : mQ) : vc (n + 1) d 118 0 L S M Q = (gR L 0 fun x => vc n d 118 1 L (.inr (.inr x) :: S) M Q) := nr rfl
set_option maxRecDepth 100000 in
theorem v118_1 (n d : Nat) (L : List (Option mL)) (S : List mV) (M : Mm) (Q : mQ) : vc (n + 1) d 118 1 L S M Q = (vc n d 118 2 L (.inl 0 :: S) M Q) := nr rfl
set_option maxRecDepth 100000 in
theorem v118_2 (n d : Nat) (L : List (Option mL)) (S : List mV) (M : Mm) (Q : mQ) : vc (n + 1) d 118 2 L S M Q = (pI S fun x S => pA S fun a S => shO M a 10 (vc n d 118 5 L S (M.si a 0 x) Q)) := nr rfl
set_option maxRecDepth 100000 in
theorem v118_5 (n d : Nat) (L : List (Option mL)) (S : List mV) (M : Mm) (Q : mQ) : vc (n + 1) d 118 5 L S M Q = (gR L 0 fun x => vc n d 118 6 L (.inr (.inr x) :: S) M Q) := nr rfl
set_option maxRecDepth 100000 in
theorem v118_6 (n d : Nat) (L : List (Option mL)) (S : List mV) (M : Mm) (Q : mQ) : vc (n + 1) d 118 6 L S M Q = (pA S fun a S => shO M a 10 (vc n d 118 9 L (.inl (M.it a 5) :: S) M Q)) := nr rfl
set_option maxRecDepth 100000 in
theorem v118_9 (n d : Nat) (L : List (Option mL)) (S : List mV) (M : Mm) (Q : mQ) : vc (n + 1) d 118 9 L S M Q = (pI S fun x S => (¬ x = 0 → vc n d 118 37 L S M Q) ∧ (¬ (¬ x = 0) → vc n d 118 12 L S M Q)) := nr rfl
set_option maxRecDepth 100000 in
theorem v118_12 (n d : Nat) (L : List (Option mL)) (S : List mV) (M : Mm) (Q : mQ) : vc (n + 1) d 118 12 L S M Q = (gI L 1 fun x => vc n d 118 13 L (.inl x :: S) M Q) := nr rfl
set_option maxRecDepth 100000 in
theorem v118_13 (n d : Nat) (L : List (Option mL)) (S : List mV) (M : Mm) (Q : mQ) : vc (n + 1) d 118 13 L S M Q = (pAs 1 S fun as S => stk S ≤ 8 ∧ XC d 119 as M (fun r M => ∃ x : Int32, r = some (.inl x) ∧ X d 118 16 L (.inl x :: S) M Q)) := nr rfl
set_option maxRecDepth 100000 in
theorem v118_16 (n d : Nat) (L : List (Option mL)) (S : List mV) (M : Mm) (Q : mQ) : vc (n + 1) d 118 16 L S M Q = (pI S fun x S => (x = 0 → vc n d 118 37 L S M Q) ∧ (¬ (x = 0) → vc n d 118 19 L S M Q)) := nr rfl
set_option maxRecDepth 100000 in
theorem v118_19 (n d : Nat) (L : List (Option mL)) (S : List mV) (M : Mm) (Q : mQ) : vc (n + 1) d 118 19 L S M Q = (gI L 2 fun x => vc n d 118 20 L (.inl x :: S) M Q) := nr rfl
set_option maxRecDepth 100000 in
theorem v118_20 (n d : Nat) (L : List (Option mL)) (S : List mV) (M : Mm) (Q : mQ) : vc (n + 1) d 118 20 L S M Q = (pI S fun x S => (x < 0 → vc n d 118 37 L S M Q) ∧ (¬ (x < 0) → vc n d 118 23 L S M Q)) := nr rfl
set_option maxRecDepth 100000 in
theorem v118_23 (n d : Nat) (L : List (Option mL)) (S : List mV) (M : Mm) (Q : mQ) : vc (n + 1) d 118 23 L S M Q = (gI L 2 fun x => vc n d 118 24 L (.inl x :: S) M Q) := nr rfl
set_option maxRecDepth 100000 in
theorem v118_24 (n d : Nat) (L : List (Option mL)) (S : List mV) (M : Mm) (Q : mQ) : vc (n + 1) d 118 24 L S M Q = (vc n d 118 26 L (.inl 100 :: S) M Q) := nr rfl
set_option maxRecDepth 100000 in
theorem v118_26 (n d : Nat) (L : List (Option mL)) (S : List mV) (M : Mm) (Q : mQ) : vc (n + 1) d 118 26 L S M Q = (pI S fun y S => pI S fun x S => (y < x → vc n d 118 37 L S M Q) ∧ (¬ (y < x) → vc n d 118 29 L S M Q)) := nr rfl
set_option maxRecDepth 100000 in
theorem v118_29 (n d : Nat) (L : List (Option mL)) (S : List mV) (M : Mm) (Q : mQ) : vc (n + 1) d 118 29 L S M Q = (gI L 2 fun x => vc n d 118 30 L (.inl x :: S) M Q) := nr rfl
set_option maxRecDepth 100000 in
theorem v118_30 (n d : Nat) (L : List (Option mL)) (S : List mV) (M : Mm) (Q : mQ) : vc (n + 1) d 118 30 L S M Q = (gR L 0 fun x => vc n d 118 31 L (.inr (.inr x) :: S) M Q) := nr rfl
set_option maxRecDepth 100000 in
theorem v118_31 (n d : Nat) (L : List (Option mL)) (S : List mV) (M : Mm) (Q : mQ) : vc (n + 1) d 118 31 L S M Q = (pA S fun a S => shO M a 10 (vc n d 118 34 L (.inl (M.it a 2) :: S) M Q)) := nr rfl
set_option maxRecDepth 100000 in
theorem v118_34 (n d : Nat) (L : List (Option mL)) (S : List mV) (M : Mm) (Q : mQ) : vc (n + 1) d 118 34 L S M Q = (pI S fun y S => pI S fun x S => (x ≤ y → vc n d 118 39 L S M Q) ∧ (¬ (x ≤ y) → vc n d 118 37 L S M Q)) := nr rfl
set_option maxRecDepth 100000 in
theorem v118_37 (n d : Nat) (L : List (Option mL)) (S : List mV) (M : Mm) (Q : mQ) : vc (n + 1) d 118 37 L S M Q = (vc n d 118 38 L (.inl (-1) :: S) M Q) := nr rfl
set_option maxRecDepth 100000 in
theorem v118_38 (n d : Nat) (L : List (Option mL)) (S : List mV) (M : Mm) (Q : mQ) : vc (n + 1) d 118 38 L S M Q = (pI S fun x S => S = [] ∧ (0 = 0 ∨ x = 0 ∨ x = 1) ∧ Q (some (.inl x)) M) := nr rfl
set_option maxRecDepth 100000 in
theorem v118_39 (n d : Nat) (L : List (Option mL)) (S : List mV) (M : Mm) (Q : mQ) : vc (n + 1) d 118 39 L S M Q = (vc n d 118 40 L (.inl 0 :: S) M Q) := nr rfl
set_option maxRecDepth 100000 in
theorem v118_40 (n d : Nat) (L : List (Option mL)) (S : List mV) (M : Mm) (Q : mQ) : vc (n + 1) d 118 40 L S M Q = (pI S fun x S => sL L 3 (some (.inl x)) fun L => X d 118 41 L S M Q) := nr rfl
set_option maxRecDepth 100000 in
theorem v118_41 (n d : Nat) (L : List (Option mL)) (S : List mV) (M : Mm) (Q : mQ) : vc (n + 1) d 118 41 L S M Q = (gI L 3 fun x => vc n d 118 42 L (.inl x :: S) M Q) := nr rfl
set_option maxRecDepth 100000 in
theorem v118_42 (n d : Nat) (L : List (Option mL)) (S : List mV) (M : Mm) (Q : mQ) : vc (n + 1) d 118 42 L S M Q = (gI L 2 fun x => vc n d 118 43 L (.inl x :: S) M Q) := nr rfl
set_option maxRecDepth 100000 in
theorem v118_43 (n d : Nat) (L : List (Option mL)) (S : List mV) (M : Mm) (Q : mQ) : vc (n + 1) d 118 43 L S M Q = (pI S fun y S => pI S fun x S => (y ≤ x → vc n d 118 67 L S M Q) ∧ (¬ (y ≤ x) → vc n d 118 46 L S M Q)) := nr rfl
set_option maxRecDepth 100000 in
theorem v118_46 (n d : Nat) (L : List (Option mL)) (S : List mV) (M : Mm) (Q : mQ) : vc (n + 1) d 118 46 L S M Q = (gR L 0 fun x => vc n d 118 47 L (.inr (.inr x) :: S) M Q) := nr rfl
set_option maxRecDepth 100000 in
theorem v118_47 (n d : Nat) (L : List (Option mL)) (S : List mV) (M : Mm) (Q : mQ) : vc (n + 1) d 118 47 L S M Q = (pA S fun a S => shO M a 10 (rrf M a 30 fun r => vc n d 118 50 L (.inr (.inr r) :: S) M Q)) := nr rfl
set_option maxRecDepth 100000 in
theorem v118_50 (n d : Nat) (L : List (Option mL)) (S : List mV) (M : Mm) (Q : mQ) : vc (n + 1) d 118 50 L S M Q = (vc n d 118 52 L (.inl 6 :: S) M Q) := nr rfl
set_option maxRecDepth 100000 in
theorem v118_52 (n d : Nat) (L : List (Option mL)) (S : List mV) (M : Mm) (Q : mQ) : vc (n + 1) d 118 52 L S M Q = (gI L 3 fun x => vc n d 118 53 L (.inl x :: S) M Q) := nr rfl
set_option maxRecDepth 100000 in
theorem v118_53 (n d : Nat) (L : List (Option mL)) (S : List mV) (M : Mm) (Q : mQ) : vc (n + 1) d 118 53 L S M Q = (pI S fun y S => pI S fun x S => vc n d 118 54 L (.inl (x + y) :: S) M Q) := nr rfl
set_option maxRecDepth 100000 in
theorem v118_54 (n d : Nat) (L : List (Option mL)) (S : List mV) (M : Mm) (Q : mQ) : vc (n + 1) d 118 54 L S M Q = (gR L 0 fun x => vc n d 118 55 L (.inr (.inr x) :: S) M Q) := nr rfl
set_option maxRecDepth 100000 in
theorem v118_55 (n d : Nat) (L : List (Option mL)) (S : List mV) (M : Mm) (Q : mQ) : vc (n + 1) d 118 55 L S M Q = (pA S fun a S => shO M a 10 (rrf M a 1 fun r => vc n d 118 58 L (.inr (.inr r) :: S) M Q)) := nr rfl
set_option maxRecDepth 100000 in
theorem v118_58 (n d : Nat) (L : List (Option mL)) (S : List mV) (M : Mm) (Q : mQ) : vc (n + 1) d 118 58 L S M Q = (gI L 3 fun x => vc n d 118 59 L (.inl x :: S) M Q) := nr rfl
set_option maxRecDepth 100000 in
theorem v118_59 (n d : Nat) (L : List (Option mL)) (S : List mV) (M : Mm) (Q : mQ) : vc (n + 1) d 118 59 L S M Q = (pI S fun i S => pA S fun a S => shA M a fun t k => (t = 42 ∨ t = 44) ∧ inB i k ∧ vc n d 118 60 L (.inl (M.it a i.toNatClampNeg) :: S) M Q) := nr rfl
set_option maxRecDepth 100000 in
theorem v118_60 (n d : Nat) (L : List (Option mL)) (S : List mV) (M : Mm) (Q : mQ) : vc (n + 1) d 118 60 L S M Q = (pI S fun x S => pI S fun i S => pA S fun a S => shA M a fun t k => (t = 42 ∨ t = 44) ∧ inB i k ∧ vc n d 118 61 L S (M.si a i.toNatClampNeg (bnar t x)) Q) := nr rfl
set_option maxRecDepth 100000 in
theorem v118_61 (n d : Nat) (L : List (Option mL)) (S : List mV) (M : Mm) (Q : mQ) : vc (n + 1) d 118 61 L S M Q = (gI L 3 fun x => sL L 3 (some (.inl (x + 1))) fun L => vc n d 118 64 L S M Q) := nr rfl
set_option maxRecDepth 100000 in
theorem v118_64 (n d : Nat) (L : List (Option mL)) (S : List mV) (M : Mm) (Q : mQ) : vc (n + 1) d 118 64 L S M Q = (X d 118 41 L S M Q) := nr rfl
set_option maxRecDepth 100000 in
theorem v118_67 (n d : Nat) (L : List (Option mL)) (S : List mV) (M : Mm) (Q : mQ) : vc (n + 1) d 118 67 L S M Q = (gR L 0 fun x => vc n d 118 68 L (.inr (.inr x) :: S) M Q) := nr rfl
set_option maxRecDepth 100000 in
theorem v118_68 (n d : Nat) (L : List (Option mL)) (S : List mV) (M : Mm) (Q : mQ) : vc (n + 1) d 118 68 L S M Q = (vc n d 118 69 L (.inl 0 :: S) M Q) := nr rfl
set_option maxRecDepth 100000 in
theorem v118_69 (n d : Nat) (L : List (Option mL)) (S : List mV) (M : Mm) (Q : mQ) : vc (n + 1) d 118 69 L S M Q = (pI S fun x S => pA S fun a S => shO M a 10 (vc n d 118 72 L S (M.si a 2 x) Q)) := nr rfl
set_option maxRecDepth 100000 in
theorem v118_72 (n d : Nat) (L : List (Option mL)) (S : List mV) (M : Mm) (Q : mQ) : vc (n + 1) d 118 72 L S M Q = (gR L 0 fun x => vc n d 118 73 L (.inr (.inr x) :: S) M Q) := nr rfl
set_option maxRecDepth 100000 in
theorem v118_73 (n d : Nat) (L : List (Option mL)) (S : List mV) (M : Mm) (Q : mQ) : vc (n + 1) d 118 73 L S M Q = (pAs 0 S fun as S => pA S fun a S => shO M a 10 (stk S ≤ 8 ∧ XC d 120 (.inr (some a) :: as) M (fun r M => r = none ∧ X d 118 76 L S M Q))) := nr rfl
set_option maxRecDepth 100000 in
theorem v118_76 (n d : Nat) (L : List (Option mL)) (S : List mV) (M : Mm) (Q : mQ) : vc (n + 1) d 118 76 L S M Q = (gR L 0 fun x => vc n d 118 77 L (.inr (.inr x) :: S) M Q) := nr rfl
set_option maxRecDepth 100000 in
theorem v118_77 (n d : Nat) (L : List (Option mL)) (S : List mV) (M : Mm) (Q : mQ) : vc (n + 1) d 118 77 L S M Q = (vc n d 118 78 L (.inl 1 :: S) M Q) := nr rfl
set_option maxRecDepth 100000 in
theorem v118_78 (n d : Nat) (L : List (Option mL)) (S : List mV) (M : Mm) (Q : mQ) : vc (n + 1) d 118 78 L S M Q = (gI L 1 fun x => vc n d 118 79 L (.inl x :: S) M Q) := nr rfl
set_option maxRecDepth 100000 in
theorem v118_79 (n d : Nat) (L : List (Option mL)) (S : List mV) (M : Mm) (Q : mQ) : vc (n + 1) d 118 79 L S M Q = (gI L 2 fun x => vc n d 118 80 L (.inl x :: S) M Q) := nr rfl
set_option maxRecDepth 100000 in
theorem v118_80 (n d : Nat) (L : List (Option mL)) (S : List mV) (M : Mm) (Q : mQ) : vc (n + 1) d 118 80 L S M Q = (vc n d 118 81 L (.inl 3 :: S) M Q) := nr rfl
set_option maxRecDepth 100000 in
theorem v118_81 (n d : Nat) (L : List (Option mL)) (S : List mV) (M : Mm) (Q : mQ) : vc (n + 1) d 118 81 L S M Q = (pAs 4 S fun as S => pA S fun a S => shO M a 10 (stk S ≤ 8 ∧ XC d 121 (.inr (some a) :: as) M (fun r M => ∃ x : Int32, r = some (.inl x) ∧ X d 118 84 L (.inl x :: S) M Q))) := nr rfl
set_option maxRecDepth 100000 in
theorem v118_84 (n d : Nat) (L : List (Option mL)) (S : List mV) (M : Mm) (Q : mQ) : vc (n + 1) d 118 84 L S M Q = (pI S fun x S => sL L 3 (some (.inl x)) fun L => vc n d 118 85 L S M Q) := nr rfl
set_option maxRecDepth 100000 in
theorem v118_85 (n d : Nat) (L : List (Option mL)) (S : List mV) (M : Mm) (Q : mQ) : vc (n + 1) d 118 85 L S M Q = (gI L 3 fun x => vc n d 118 86 L (.inl x :: S) M Q) := nr rfl
set_option maxRecDepth 100000 in
theorem v118_86 (n d : Nat) (L : List (Option mL)) (S : List mV) (M : Mm) (Q : mQ) : vc (n + 1) d 118 86 L S M Q = (vc n d 118 87 L (.inl (-1) :: S) M Q) := nr rfl
set_option maxRecDepth 100000 in
theorem v118_87 (n d : Nat) (L : List (Option mL)) (S : List mV) (M : Mm) (Q : mQ) : vc (n + 1) d 118 87 L S M Q = (pI S fun y S => pI S fun x S => (¬ x = y → vc n d 118 97 L S M Q) ∧ (¬ (¬ x = y) → vc n d 118 90 L S M Q)) := nr rfl
set_option maxRecDepth 100000 in
theorem v118_90 (n d : Nat) (L : List (Option mL)) (S : List mV) (M : Mm) (Q : mQ) : vc (n + 1) d 118 90 L S M Q = (gR L 0 fun x => vc n d 118 91 L (.inr (.inr x) :: S) M Q) := nr rfl
set_option maxRecDepth 100000 in
theorem v118_91 (n d : Nat) (L : List (Option mL)) (S : List mV) (M : Mm) (Q : mQ) : vc (n + 1) d 118 91 L S M Q = (vc n d 118 93 L (.inl (-2) :: S) M Q) := nr rfl
set_option maxRecDepth 100000 in
theorem v118_93 (n d : Nat) (L : List (Option mL)) (S : List mV) (M : Mm) (Q : mQ) : vc (n + 1) d 118 93 L S M Q = (pAs 1 S fun as S => pA S fun a S => shO M a 10 (stk S ≤ 8 ∧ XC d 127 (.inr (some a) :: as) M (fun r M => ∃ x : Int32, r = some (.inl x) ∧ X d 118 96 L (.inl x :: S) M Q))) := nr rfl
set_option maxRecDepth 100000 in
theorem v118_96 (n d : Nat) (L : List (Option mL)) (S : List mV) (M : Mm) (Q : mQ) : vc (n + 1) d 118 96 L S M Q = (pI S fun x S => S = [] ∧ (0 = 0 ∨ x = 0 ∨ x = 1) ∧ Q (some (.inl x)) M) := nr rfl
set_option maxRecDepth 100000 in
theorem v118_97 (n d : Nat) (L : List (Option mL)) (S : List mV) (M : Mm) (Q : mQ) : vc (n + 1) d 118 97 L S M Q = (gR L 0 fun x => vc n d 118 98 L (.inr (.inr x) :: S) M Q) := nr rfl
set_option maxRecDepth 100000 in
theorem v118_98 (n d : Nat) (L : List (Option mL)) (S : List mV) (M : Mm) (Q : mQ) : vc (n + 1) d 118 98 L S M Q = (pA S fun a S => shO M a 10 (vc n d 118 101 L (.inl (M.it a 14) :: S) M Q)) := nr rfl
set_option maxRecDepth 100000 in
theorem v118_101 (n d : Nat) (L : List (Option mL)) (S : List mV) (M : Mm) (Q : mQ) : vc (n + 1) d 118 101 L S M Q = (vc n d 118 103 L (.inl 120 :: S) M Q) := nr rfl
set_option maxRecDepth 100000 in
theorem v118_103 (n d : Nat) (L : List (Option mL)) (S : List mV) (M : Mm) (Q : mQ) : vc (n + 1) d 118 103 L S M Q = (pI S fun y S => pI S fun x S => (x ≤ y → vc n d 118 113 L S M Q) ∧ (¬ (x ≤ y) → vc n d 118 106 L S M Q)) := nr rfl
set_option maxRecDepth 100000 in
theorem v118_106 (n d : Nat) (L : List (Option mL)) (S : List mV) (M : Mm) (Q : mQ) : vc (n + 1) d 118 106 L S M Q = (gR L 0 fun x => vc n d 118 107 L (.inr (.inr x) :: S) M Q) := nr rfl
set_option maxRecDepth 100000 in
theorem v118_107 (n d : Nat) (L : List (Option mL)) (S : List mV) (M : Mm) (Q : mQ) : vc (n + 1) d 118 107 L S M Q = (vc n d 118 109 L (.inl (-3) :: S) M Q) := nr rfl
set_option maxRecDepth 100000 in
theorem v118_109 (n d : Nat) (L : List (Option mL)) (S : List mV) (M : Mm) (Q : mQ) : vc (n + 1) d 118 109 L S M Q = (pAs 1 S fun as S => pA S fun a S => shO M a 10 (stk S ≤ 8 ∧ XC d 127 (.inr (some a) :: as) M (fun r M => ∃ x : Int32, r = some (.inl x) ∧ X d 118 112 L (.inl x :: S) M Q))) := nr rfl
set_option maxRecDepth 100000 in
theorem v118_112 (n d : Nat) (L : List (Option mL)) (S : List mV) (M : Mm) (Q : mQ) : vc (n + 1) d 118 112 L S M Q = (pI S fun x S => S = [] ∧ (0 = 0 ∨ x = 0 ∨ x = 1) ∧ Q (some (.inl x)) M) := nr rfl
set_option maxRecDepth 100000 in
theorem v118_113 (n d : Nat) (L : List (Option mL)) (S : List mV) (M : Mm) (Q : mQ) : vc (n + 1) d 118 113 L S M Q = (gR L 0 fun x => vc n d 118 114 L (.inr (.inr x) :: S) M Q) := nr rfl
set_option maxRecDepth 100000 in
theorem v118_114 (n d : Nat) (L : List (Option mL)) (S : List mV) (M : Mm) (Q : mQ) : vc (n + 1) d 118 114 L S M Q = (pA S fun a S => shO M a 10 (rrf M a 17 fun r => vc n d 118 117 L (.inr (.inr r) :: S) M Q)) := nr rfl
set_option maxRecDepth 100000 in
theorem v118_117 (n d : Nat) (L : List (Option mL)) (S : List mV) (M : Mm) (Q : mQ) : vc (n + 1) d 118 117 L S M Q = (gI L 1 fun x => vc n d 118 118 L (.inl x :: S) M Q) := nr rfl
set_option maxRecDepth 100000 in
theorem v118_118 (n d : Nat) (L : List (Option mL)) (S : List mV) (M : Mm) (Q : mQ) : vc (n + 1) d 118 118 L S M Q = (gI L 3 fun x => vc n d 118 119 L (.inl x :: S) M Q) := nr rfl
set_option maxRecDepth 100000 in
theorem v118_119 (n d : Nat) (L : List (Option mL)) (S : List mV) (M : Mm) (Q : mQ) : vc (n + 1) d 118 119 L S M Q = (pI S fun x S => pI S fun i S => pA S fun a S => shA M a fun t k => t = 41 ∧ inB i k ∧ vc n d 118 120 L S (M.si a i.toNatClampNeg x) Q) := nr rfl
set_option maxRecDepth 100000 in
theorem v118_120 (n d : Nat) (L : List (Option mL)) (S : List mV) (M : Mm) (Q : mQ) : vc (n + 1) d 118 120 L S M Q = (gR L 0 fun x => vc n d 118 121 L (.inr (.inr x) :: S) M Q) := nr rfl
set_option maxRecDepth 100000 in
theorem v118_121 (n d : Nat) (L : List (Option mL)) (S : List mV) (M : Mm) (Q : mQ) : vc (n + 1) d 118 121 L S M Q = (pC S fun v S => vc n d 118 122 L (v :: v :: S) M Q) := nr rfl
set_option maxRecDepth 100000 in
theorem v118_122 (n d : Nat) (L : List (Option mL)) (S : List mV) (M : Mm) (Q : mQ) : vc (n + 1) d 118 122 L S M Q = (pA S fun a S => shO M a 10 (vc n d 118 125 L (.inl (M.it a 13) :: S) M Q)) := nr rfl
set_option maxRecDepth 100000 in
theorem v118_125 (n d : Nat) (L : List (Option mL)) (S : List mV) (M : Mm) (Q : mQ) : vc (n + 1) d 118 125 L S M Q = (vc n d 118 126 L (.inl 1 :: S) M Q) := nr rfl
set_option maxRecDepth 100000 in
theorem v118_126 (n d : Nat) (L : List (Option mL)) (S : List mV) (M : Mm) (Q : mQ) : vc (n + 1) d 118 126 L S M Q = (pI S fun y S => pI S fun x S => vc n d 118 127 L (.inl (x + y) :: S) M Q) := nr rfl
set_option maxRecDepth 100000 in
theorem v118_127 (n d : Nat) (L : List (Option mL)) (S : List mV) (M : Mm) (Q : mQ) : vc (n + 1) d 118 127 L S M Q = (pI S fun x S => pA S fun a S => shO M a 10 (vc n d 118 130 L S (M.si a 13 x) Q)) := nr rfl
set_option maxRecDepth 100000 in
theorem v118_130 (n d : Nat) (L : List (Option mL)) (S : List mV) (M : Mm) (Q : mQ) : vc (n + 1) d 118 130 L S M Q = (gR L 0 fun x => vc n d 118 131 L (.inr (.inr x) :: S) M Q) := nr rfl
set_option maxRecDepth 100000 in
theorem v118_131 (n d : Nat) (L : List (Option mL)) (S : List mV) (M : Mm) (Q : mQ) : vc (n + 1) d 118 131 L S M Q = (pA S fun a S => shO M a 10 (vc n d 118 134 L (.inl (M.it a 13) :: S) M Q)) := nr rfl
set_option maxRecDepth 100000 in
theorem v118_134 (n d : Nat) (L : List (Option mL)) (S : List mV) (M : Mm) (Q : mQ) : vc (n + 1) d 118 134 L S M Q = (pI S fun x S => S = [] ∧ (0 = 0 ∨ x = 0 ∨ x = 1) ∧ Q (some (.inl x)) M) := nr rfl
set_option maxRecDepth 100000 in
theorem v119_0 (n d : Nat) (L : List (Option mL)) (S : List mV) (M : Mm) (Q : mQ) : vc (n + 1) d 119 0 L S M Q = (gI L 0 fun x => vc n d 119 1 L (.inl x :: S) M Q) := nr rfl
set_option maxRecDepth 100000 in
theorem v119_1 (n d : Nat) (L : List (Option mL)) (S : List mV) (M : Mm) (Q : mQ) : vc (n + 1) d 119 1 L S M Q = (pI S fun x S => (x < 0 → vc n d 119 14 L S M Q) ∧ (¬ (x < 0) → vc n d 119 4 L S M Q)) := nr rfl
set_option maxRecDepth 100000 in
theorem v119_4 (n d : Nat) (L : List (Option mL)) (S : List mV) (M : Mm) (Q : mQ) : vc (n + 1) d 119 4 L S M Q = (gI L 0 fun x => vc n d 119 5 L (.inl x :: S) M Q) := nr rfl
set_option maxRecDepth 100000 in
theorem v119_5 (n d : Nat) (L : List (Option mL)) (S : List mV) (M : Mm) (Q : mQ) : vc (n + 1) d 119 5 L S M Q = (vc n d 119 7 L (.inl 48 :: S) M Q) := nr rfl
set_option maxRecDepth 100000 in
theorem v119_7 (n d : Nat) (L : List (Option mL)) (S : List mV) (M : Mm) (Q : mQ) : vc (n + 1) d 119 7 L S M Q = (pI S fun y S => pI S fun x S => (y ≤ x → vc n d 119 14 L S M Q) ∧ (¬ (y ≤ x) → vc n d 119 10 L S M Q)) := nr rfl
set_option maxRecDepth 100000 in
theorem v119_10 (n d : Nat) (L : List (Option mL)) (S : List mV) (M : Mm) (Q : mQ) : vc (n + 1) d 119 10 L S M Q = (vc n d 119 11 L (.inl 1 :: S) M Q) := nr rfl
set_option maxRecDepth 100000 in
theorem v119_11 (n d : Nat) (L : List (Option mL)) (S : List mV) (M : Mm) (Q : mQ) : vc (n + 1) d 119 11 L S M Q = (vc n d 119 15 L S M Q) := nr rfl
set_option maxRecDepth 100000 in
theorem v119_14 (n d : Nat) (L : List (Option mL)) (S : List mV) (M : Mm) (Q : mQ) : vc (n + 1) d 119 14 L S M Q = (vc n d 119 15 L (.inl 0 :: S) M Q) := nr rfl
set_option maxRecDepth 100000 in
theorem v119_15 (n d : Nat) (L : List (Option mL)) (S : List mV) (M : Mm) (Q : mQ) : vc (n + 1) d 119 15 L S M Q = (pI S fun x S => S = [] ∧ (1 = 0 ∨ x = 0 ∨ x = 1) ∧ Q (some (.inl x)) M) := nr rfl
set_option maxRecDepth 100000 in
theorem v120_0 (n d : Nat) (L : List (Option mL)) (S : List mV) (M : Mm) (Q : mQ) : vc (n + 1) d 120 0 L S M Q = (vc n d 120 1 L (.inl 0 :: S) M Q) := nr rfl
set_option maxRecDepth 100000 in
theorem v120_1 (n d : Nat) (L : List (Option mL)) (S : List mV) (M : Mm) (Q : mQ) : vc (n + 1) d 120 1 L S M Q = (pI S fun x S => sL L 1 (some (.inl x)) fun L => vc n d 120 2 L S M Q) := nr rfl
set_option maxRecDepth 100000 in
theorem v120_2 (n d : Nat) (L : List (Option mL)) (S : List mV) (M : Mm) (Q : mQ) : vc (n + 1) d 120 2 L S M Q = (vc n d 120 3 L (.inl 0 :: S) M Q) := nr rfl
set_option maxRecDepth 100000 in
theorem v120_3 (n d : Nat) (L : List (Option mL)) (S : List mV) (M : Mm) (Q : mQ) : vc (n + 1) d 120 3 L S M Q = (pI S fun x S => sL L 2 (some (.inl x)) fun L => X d 120 4 L S M Q) := nr rfl
set_option maxRecDepth 100000 in
theorem v120_4 (n d : Nat) (L : List (Option mL)) (S : List mV) (M : Mm) (Q : mQ) : vc (n + 1) d 120 4 L S M Q = (gI L 2 fun x => vc n d 120 5 L (.inl x :: S) M Q) := nr rfl
set_option maxRecDepth 100000 in
theorem v120_5 (n d : Nat) (L : List (Option mL)) (S : List mV) (M : Mm) (Q : mQ) : vc (n + 1) d 120 5 L S M Q = (vc n d 120 7 L (.inl 8 :: S) M Q) := nr rfl
set_option maxRecDepth 100000 in
theorem v120_7 (n d : Nat) (L : List (Option mL)) (S : List mV) (M : Mm) (Q : mQ) : vc (n + 1) d 120 7 L S M Q = (pI S fun y S => pI S fun x S => (y ≤ x → vc n d 120 46 L S M Q) ∧ (¬ (y ≤ x) → vc n d 120 10 L S M Q)) := nr rfl
set_option maxRecDepth 100000 in
theorem v120_10 (n d : Nat) (L : List (Option mL)) (S : List mV) (M : Mm) (Q : mQ) : vc (n + 1) d 120 10 L S M Q = (gR L 0 fun x => vc n d 120 11 L (.inr (.inr x) :: S) M Q) := nr rfl
set_option maxRecDepth 100000 in
theorem v120_11 (n d : Nat) (L : List (Option mL)) (S : List mV) (M : Mm) (Q : mQ) : vc (n + 1) d 120 11 L S M Q = (pA S fun a S => shO M a 10 (rrf M a 8 fun r => vc n d 120 14 L (.inr (.inr r) :: S) M Q)) := nr rfl
set_option maxRecDepth 100000 in
theorem v120_14 (n d : Nat) (L : List (Option mL)) (S : List mV) (M : Mm) (Q : mQ) : vc (n + 1) d 120 14 L S M Q = (gI L 1 fun x => vc n d 120 15 L (.inl x :: S) M Q) := nr rfl
set_option maxRecDepth 100000 in
theorem v120_15 (n d : Nat) (L : List (Option mL)) (S : List mV) (M : Mm) (Q : mQ) : vc (n + 1) d 120 15 L S M Q = (gI L 1 fun x => sL L 1 (some (.inl (x + 1))) fun L => vc n d 120 18 L S M Q) := nr rfl
set_option maxRecDepth 100000 in
theorem v120_18 (n d : Nat) (L : List (Option mL)) (S : List mV) (M : Mm) (Q : mQ) : vc (n + 1) d 120 18 L S M Q = (gR L 0 fun x => vc n d 120 19 L (.inr (.inr x) :: S) M Q) := nr rfl
set_option maxRecDepth 100000 in
theorem v120_19 (n d : Nat) (L : List (Option mL)) (S : List mV) (M : Mm) (Q : mQ) : vc (n + 1) d 120 19 L S M Q = (pA S fun a S => shO M a 10 (rrf M a 6 fun r => vc n d 120 22 L (.inr (.inr r) :: S) M Q)) := nr rfl
set_option maxRecDepth 100000 in
theorem v120_22 (n d : Nat) (L : List (Option mL)) (S : List mV) (M : Mm) (Q : mQ) : vc (n + 1) d 120 22 L S M Q = (gI L 2 fun x => vc n d 120 23 L (.inl x :: S) M Q) := nr rfl
set_option maxRecDepth 100000 in
theorem v120_23 (n d : Nat) (L : List (Option mL)) (S : List mV) (M : Mm) (Q : mQ) : vc (n + 1) d 120 23 L S M Q = (pI S fun i S => pA S fun a S => shA M a fun t k => (t = 40 ∨ t = 41) ∧ inB i k ∧ vc n d 120 24 L (.inl (M.it a i.toNatClampNeg) :: S) M Q) := nr rfl
set_option maxRecDepth 100000 in
theorem v120_24 (n d : Nat) (L : List (Option mL)) (S : List mV) (M : Mm) (Q : mQ) : vc (n + 1) d 120 24 L S M Q = (pI S fun x S => pI S fun i S => pA S fun a S => shA M a fun t k => t = 41 ∧ inB i k ∧ vc n d 120 25 L S (M.si a i.toNatClampNeg x) Q) := nr rfl
set_option maxRecDepth 100000 in
theorem v120_25 (n d : Nat) (L : List (Option mL)) (S : List mV) (M : Mm) (Q : mQ) : vc (n + 1) d 120 25 L S M Q = (gR L 0 fun x => vc n d 120 26 L (.inr (.inr x) :: S) M Q) := nr rfl
set_option maxRecDepth 100000 in
theorem v120_26 (n d : Nat) (L : List (Option mL)) (S : List mV) (M : Mm) (Q : mQ) : vc (n + 1) d 120 26 L S M Q = (pA S fun a S => shO M a 10 (rrf M a 8 fun r => vc n d 120 29 L (.inr (.inr r) :: S) M Q)) := nr rfl
set_option maxRecDepth 100000 in
theorem v120_29 (n d : Nat) (L : List (Option mL)) (S : List mV) (M : Mm) (Q : mQ) : vc (n + 1) d 120 29 L S M Q = (gI L 1 fun x => vc n d 120 30 L (.inl x :: S) M Q) := nr rfl
set_option maxRecDepth 100000 in
theorem v120_30 (n d : Nat) (L : List (Option mL)) (S : List mV) (M : Mm) (Q : mQ) : vc (n + 1) d 120 30 L S M Q = (gI L 1 fun x => sL L 1 (some (.inl (x + 1))) fun L => vc n d 120 33 L S M Q) := nr rfl
set_option maxRecDepth 100000 in
theorem v120_33 (n d : Nat) (L : List (Option mL)) (S : List mV) (M : Mm) (Q : mQ) : vc (n + 1) d 120 33 L S M Q = (gR L 0 fun x => vc n d 120 34 L (.inr (.inr x) :: S) M Q) := nr rfl
set_option maxRecDepth 100000 in
theorem v120_34 (n d : Nat) (L : List (Option mL)) (S : List mV) (M : Mm) (Q : mQ) : vc (n + 1) d 120 34 L S M Q = (pA S fun a S => shO M a 10 (rrf M a 7 fun r => vc n d 120 37 L (.inr (.inr r) :: S) M Q)) := nr rfl
set_option maxRecDepth 100000 in
theorem v120_37 (n d : Nat) (L : List (Option mL)) (S : List mV) (M : Mm) (Q : mQ) : vc (n + 1) d 120 37 L S M Q = (gI L 2 fun x => vc n d 120 38 L (.inl x :: S) M Q) := nr rfl
set_option maxRecDepth 100000 in
theorem v120_38 (n d : Nat) (L : List (Option mL)) (S : List mV) (M : Mm) (Q : mQ) : vc (n + 1) d 120 38 L S M Q = (pI S fun i S => pA S fun a S => shA M a fun t k => (t = 40 ∨ t = 41) ∧ inB i k ∧ vc n d 120 39 L (.inl (M.it a i.toNatClampNeg) :: S) M Q) := nr rfl
set_option maxRecDepth 100000 in
theorem v120_39 (n d : Nat) (L : List (Option mL)) (S : List mV) (M : Mm) (Q : mQ) : vc (n + 1) d 120 39 L S M Q = (pI S fun x S => pI S fun i S => pA S fun a S => shA M a fun t k => t = 41 ∧ inB i k ∧ vc n d 120 40 L S (M.si a i.toNatClampNeg x) Q) := nr rfl
set_option maxRecDepth 100000 in
theorem v120_40 (n d : Nat) (L : List (Option mL)) (S : List mV) (M : Mm) (Q : mQ) : vc (n + 1) d 120 40 L S M Q = (gI L 2 fun x => sL L 2 (some (.inl (x + 1))) fun L => vc n d 120 43 L S M Q) := nr rfl
set_option maxRecDepth 100000 in
theorem v120_43 (n d : Nat) (L : List (Option mL)) (S : List mV) (M : Mm) (Q : mQ) : vc (n + 1) d 120 43 L S M Q = (X d 120 4 L S M Q) := nr rfl
set_option maxRecDepth 100000 in
theorem v120_46 (n d : Nat) (L : List (Option mL)) (S : List mV) (M : Mm) (Q : mQ) : vc (n + 1) d 120 46 L S M Q = (vc n d 120 47 L (.inl 0 :: S) M Q) := nr rfl
set_option maxRecDepth 100000 in
theorem v120_47 (n d : Nat) (L : List (Option mL)) (S : List mV) (M : Mm) (Q : mQ) : vc (n + 1) d 120 47 L S M Q = (pI S fun x S => sL L 2 (some (.inl x)) fun L => X d 120 48 L S M Q) := nr rfl
set_option maxRecDepth 100000 in
theorem v120_48 (n d : Nat) (L : List (Option mL)) (S : List mV) (M : Mm) (Q : mQ) : vc (n + 1) d 120 48 L S M Q = (gI L 2 fun x => vc n d 120 49 L (.inl x :: S) M Q) := nr rfl
set_option maxRecDepth 100000 in
theorem v120_49 (n d : Nat) (L : List (Option mL)) (S : List mV) (M : Mm) (Q : mQ) : vc (n + 1) d 120 49 L S M Q = (vc n d 120 51 L (.inl 48 :: S) M Q) := nr rfl
set_option maxRecDepth 100000 in
theorem v120_51 (n d : Nat) (L : List (Option mL)) (S : List mV) (M : Mm) (Q : mQ) : vc (n + 1) d 120 51 L S M Q = (pI S fun y S => pI S fun x S => (y ≤ x → vc n d 120 75 L S M Q) ∧ (¬ (y ≤ x) → vc n d 120 54 L S M Q)) := nr rfl
set_option maxRecDepth 100000 in
theorem v120_54 (n d : Nat) (L : List (Option mL)) (S : List mV) (M : Mm) (Q : mQ) : vc (n + 1) d 120 54 L S M Q = (gR L 0 fun x => vc n d 120 55 L (.inr (.inr x) :: S) M Q) := nr rfl
set_option maxRecDepth 100000 in
theorem v120_55 (n d : Nat) (L : List (Option mL)) (S : List mV) (M : Mm) (Q : mQ) : vc (n + 1) d 120 55 L S M Q = (pA S fun a S => shO M a 10 (rrf M a 8 fun r => vc n d 120 58 L (.inr (.inr r) :: S) M Q)) := nr rfl
set_option maxRecDepth 100000 in
theorem v120_58 (n d : Nat) (L : List (Option mL)) (S : List mV) (M : Mm) (Q : mQ) : vc (n + 1) d 120 58 L S M Q = (gI L 1 fun x => vc n d 120 59 L (.inl x :: S) M Q) := nr rfl
set_option maxRecDepth 100000 in
theorem v120_59 (n d : Nat) (L : List (Option mL)) (S : List mV) (M : Mm) (Q : mQ) : vc (n + 1) d 120 59 L S M Q = (gI L 1 fun x => sL L 1 (some (.inl (x + 1))) fun L => vc n d 120 62 L S M Q) := nr rfl
set_option maxRecDepth 100000 in
theorem v120_62 (n d : Nat) (L : List (Option mL)) (S : List mV) (M : Mm) (Q : mQ) : vc (n + 1) d 120 62 L S M Q = (gR L 0 fun x => vc n d 120 63 L (.inr (.inr x) :: S) M Q) := nr rfl
set_option maxRecDepth 100000 in
theorem v120_63 (n d : Nat) (L : List (Option mL)) (S : List mV) (M : Mm) (Q : mQ) : vc (n + 1) d 120 63 L S M Q = (pA S fun a S => shO M a 10 (rrf M a 17 fun r => vc n d 120 66 L (.inr (.inr r) :: S) M Q)) := nr rfl
set_option maxRecDepth 100000 in
theorem v120_66 (n d : Nat) (L : List (Option mL)) (S : List mV) (M : Mm) (Q : mQ) : vc (n + 1) d 120 66 L S M Q = (gI L 2 fun x => vc n d 120 67 L (.inl x :: S) M Q) := nr rfl
set_option maxRecDepth 100000 in
theorem v120_67 (n d : Nat) (L : List (Option mL)) (S : List mV) (M : Mm) (Q : mQ) : vc (n + 1) d 120 67 L S M Q = (pI S fun i S => pA S fun a S => shA M a fun t k => (t = 40 ∨ t = 41) ∧ inB i k ∧ vc n d 120 68 L (.inl (M.it a i.toNatClampNeg) :: S) M Q) := nr rfl
set_option maxRecDepth 100000 in
theorem v120_68 (n d : Nat) (L : List (Option mL)) (S : List mV) (M : Mm) (Q : mQ) : vc (n + 1) d 120 68 L S M Q = (pI S fun x S => pI S fun i S => pA S fun a S => shA M a fun t k => t = 41 ∧ inB i k ∧ vc n d 120 69 L S (M.si a i.toNatClampNeg x) Q) := nr rfl
set_option maxRecDepth 100000 in
theorem v120_69 (n d : Nat) (L : List (Option mL)) (S : List mV) (M : Mm) (Q : mQ) : vc (n + 1) d 120 69 L S M Q = (gI L 2 fun x => sL L 2 (some (.inl (x + 1))) fun L => vc n d 120 72 L S M Q) := nr rfl
set_option maxRecDepth 100000 in
theorem v120_72 (n d : Nat) (L : List (Option mL)) (S : List mV) (M : Mm) (Q : mQ) : vc (n + 1) d 120 72 L S M Q = (X d 120 48 L S M Q) := nr rfl
set_option maxRecDepth 100000 in
theorem v120_75 (n d : Nat) (L : List (Option mL)) (S : List mV) (M : Mm) (Q : mQ) : vc (n + 1) d 120 75 L S M Q = (gR L 0 fun x => vc n d 120 76 L (.inr (.inr x) :: S) M Q) := nr rfl
set_option maxRecDepth 100000 in
theorem v120_76 (n d : Nat) (L : List (Option mL)) (S : List mV) (M : Mm) (Q : mQ) : vc (n + 1) d 120 76 L S M Q = (pA S fun a S => shO M a 10 (rrf M a 8 fun r => vc n d 120 79 L (.inr (.inr r) :: S) M Q)) := nr rfl
set_option maxRecDepth 100000 in
theorem v120_79 (n d : Nat) (L : List (Option mL)) (S : List mV) (M : Mm) (Q : mQ) : vc (n + 1) d 120 79 L S M Q = (gI L 1 fun x => vc n d 120 80 L (.inl x :: S) M Q) := nr rfl
set_option maxRecDepth 100000 in
theorem v120_80 (n d : Nat) (L : List (Option mL)) (S : List mV) (M : Mm) (Q : mQ) : vc (n + 1) d 120 80 L S M Q = (gI L 1 fun x => sL L 1 (some (.inl (x + 1))) fun L => vc n d 120 83 L S M Q) := nr rfl
set_option maxRecDepth 100000 in
theorem v120_83 (n d : Nat) (L : List (Option mL)) (S : List mV) (M : Mm) (Q : mQ) : vc (n + 1) d 120 83 L S M Q = (gR L 0 fun x => vc n d 120 84 L (.inr (.inr x) :: S) M Q) := nr rfl
set_option maxRecDepth 100000 in
theorem v120_84 (n d : Nat) (L : List (Option mL)) (S : List mV) (M : Mm) (Q : mQ) : vc (n + 1) d 120 84 L S M Q = (pA S fun a S => shO M a 10 (vc n d 120 87 L (.inl (M.it a 9) :: S) M Q)) := nr rfl
set_option maxRecDepth 100000 in
theorem v120_87 (n d : Nat) (L : List (Option mL)) (S : List mV) (M : Mm) (Q : mQ) : vc (n + 1) d 120 87 L S M Q = (pI S fun x S => pI S fun i S => pA S fun a S => shA M a fun t k => t = 41 ∧ inB i k ∧ vc n d 120 88 L S (M.si a i.toNatClampNeg x) Q) := nr rfl
set_option maxRecDepth 100000 in
theorem v120_88 (n d : Nat) (L : List (Option mL)) (S : List mV) (M : Mm) (Q : mQ) : vc (n + 1) d 120 88 L S M Q = (gR L 0 fun x => vc n d 120 89 L (.inr (.inr x) :: S) M Q) := nr rfl
set_option maxRecDepth 100000 in
theorem v120_89 (n d : Nat) (L : List (Option mL)) (S : List mV) (M : Mm) (Q : mQ) : vc (n + 1) d 120 89 L S M Q = (pA S fun a S => shO M a 10 (rrf M a 8 fun r => vc n d 120 92 L (.inr (.inr r) :: S) M Q)) := nr rfl
set_option maxRecDepth 100000 in
theorem v120_92 (n d : Nat) (L : List (Option mL)) (S : List mV) (M : Mm) (Q : mQ) : vc (n + 1) d 120 92 L S M Q = (gI L 1 fun x => vc n d 120 93 L (.inl x :: S) M Q) := nr rfl
set_option maxRecDepth 100000 in
theorem v120_93 (n d : Nat) (L : List (Option mL)) (S : List mV) (M : Mm) (Q : mQ) : vc (n + 1) d 120 93 L S M Q = (gI L 1 fun x => sL L 1 (some (.inl (x + 1))) fun L => vc n d 120 96 L S M Q) := nr rfl
set_option maxRecDepth 100000 in
theorem v120_96 (n d : Nat) (L : List (Option mL)) (S : List mV) (M : Mm) (Q : mQ) : vc (n + 1) d 120 96 L S M Q = (gR L 0 fun x => vc n d 120 97 L (.inr (.inr x) :: S) M Q) := nr rfl
set_option maxRecDepth 100000 in
theorem v120_97 (n d : Nat) (L : List (Option mL)) (S : List mV) (M : Mm) (Q : mQ) : vc (n + 1) d 120 97 L S M Q = (pA S fun a S => shO M a 10 (vc n d 120 100 L (.inl (M.it a 12) :: S) M Q)) := nr rfl
set_option maxRecDepth 100000 in
theorem v120_100 (n d : Nat) (L : List (Option mL)) (S : List mV) (M : Mm) (Q : mQ) : vc (n + 1) d 120 100 L S M Q = (pI S fun x S => pI S fun i S => pA S fun a S => shA M a fun t k => t = 41 ∧ inB i k ∧ vc n d 120 101 L S (M.si a i.toNatClampNeg x) Q) := nr rfl
set_option maxRecDepth 100000 in
theorem v120_101 (n d : Nat) (L : List (Option mL)) (S : List mV) (M : Mm) (Q : mQ) : vc (n + 1) d 120 101 L S M Q = (gR L 0 fun x => vc n d 120 102 L (.inr (.inr x) :: S) M Q) := nr rfl
set_option maxRecDepth 100000 in
theorem v120_102 (n d : Nat) (L : List (Option mL)) (S : List mV) (M : Mm) (Q : mQ) : vc (n + 1) d 120 102 L S M Q = (pA S fun a S => shO M a 10 (rrf M a 8 fun r => vc n d 120 105 L (.inr (.inr r) :: S) M Q)) := nr rfl
set_option maxRecDepth 100000 in
theorem v120_105 (n d : Nat) (L : List (Option mL)) (S : List mV) (M : Mm) (Q : mQ) : vc (n + 1) d 120 105 L S M Q = (gI L 1 fun x => vc n d 120 106 L (.inl x :: S) M Q) := nr rfl
set_option maxRecDepth 100000 in
theorem v120_106 (n d : Nat) (L : List (Option mL)) (S : List mV) (M : Mm) (Q : mQ) : vc (n + 1) d 120 106 L S M Q = (gI L 1 fun x => sL L 1 (some (.inl (x + 1))) fun L => vc n d 120 109 L S M Q) := nr rfl
set_option maxRecDepth 100000 in
theorem v120_109 (n d : Nat) (L : List (Option mL)) (S : List mV) (M : Mm) (Q : mQ) : vc (n + 1) d 120 109 L S M Q = (gR L 0 fun x => vc n d 120 110 L (.inr (.inr x) :: S) M Q) := nr rfl
set_option maxRecDepth 100000 in
theorem v120_110 (n d : Nat) (L : List (Option mL)) (S : List mV) (M : Mm) (Q : mQ) : vc (n + 1) d 120 110 L S M Q = (pA S fun a S => shO M a 10 (vc n d 120 113 L (.inl (M.it a 14) :: S) M Q)) := nr rfl
set_option maxRecDepth 100000 in
theorem v120_113 (n d : Nat) (L : List (Option mL)) (S : List mV) (M : Mm) (Q : mQ) : vc (n + 1) d 120 113 L S M Q = (pI S fun x S => pI S fun i S => pA S fun a S => shA M a fun t k => t = 41 ∧ inB i k ∧ vc n d 120 114 L S (M.si a i.toNatClampNeg x) Q) := nr rfl
set_option maxRecDepth 100000 in
theorem v120_114 (n d : Nat) (L : List (Option mL)) (S : List mV) (M : Mm) (Q : mQ) : vc (n + 1) d 120 114 L S M Q = (gR L 0 fun x => vc n d 120 115 L (.inr (.inr x) :: S) M Q) := nr rfl
set_option maxRecDepth 100000 in
theorem v120_115 (n d : Nat) (L : List (Option mL)) (S : List mV) (M : Mm) (Q : mQ) : vc (n + 1) d 120 115 L S M Q = (pA S fun a S => shO M a 10 (rrf M a 8 fun r => vc n d 120 118 L (.inr (.inr r) :: S) M Q)) := nr rfl
set_option maxRecDepth 100000 in
theorem v120_118 (n d : Nat) (L : List (Option mL)) (S : List mV) (M : Mm) (Q : mQ) : vc (n + 1) d 120 118 L S M Q = (gI L 1 fun x => vc n d 120 119 L (.inl x :: S) M Q) := nr rfl
set_option maxRecDepth 100000 in
theorem v120_119 (n d : Nat) (L : List (Option mL)) (S : List mV) (M : Mm) (Q : mQ) : vc (n + 1) d 120 119 L S M Q = (gR L 0 fun x => vc n d 120 120 L (.inr (.inr x) :: S) M Q) := nr rfl
set_option maxRecDepth 100000 in
theorem v120_120 (n d : Nat) (L : List (Option mL)) (S : List mV) (M : Mm) (Q : mQ) : vc (n + 1) d 120 120 L S M Q = (pA S fun a S => shO M a 10 (vc n d 120 123 L (.inl (M.it a 15) :: S) M Q)) := nr rfl
set_option maxRecDepth 100000 in
theorem v120_123 (n d : Nat) (L : List (Option mL)) (S : List mV) (M : Mm) (Q : mQ) : vc (n + 1) d 120 123 L S M Q = (pI S fun x S => pI S fun i S => pA S fun a S => shA M a fun t k => t = 41 ∧ inB i k ∧ vc n d 120 124 L S (M.si a i.toNatClampNeg x) Q) := nr rfl
set_option maxRecDepth 100000 in
theorem v120_124 (n d : Nat) (L : List (Option mL)) (S : List mV) (M : Mm) (Q : mQ) : vc (n + 1) d 120 124 L S M Q = (S = [] ∧ Q none M) := nr rfl
set_option maxRecDepth 100000 in
theorem v121_0 (n d : Nat) (L : List (Option mL)) (S : List mV) (M : Mm) (Q : mQ) : vc (n + 1) d 121 0 L S M Q = (gI L 3 fun x => vc n d 121 1 L (.inl x :: S) M Q) := nr rfl
set_option maxRecDepth 100000 in
theorem v121_1 (n d : Nat) (L : List (Option mL)) (S : List mV) (M : Mm) (Q : mQ) : vc (n + 1) d 121 1 L S M Q = (pAs 1 S fun as S => stk S ≤ 8 ∧ XC d 122 as M (fun r M => ∃ x : Int32, r = some (.inl x) ∧ X d 121 4 L (.inl x :: S) M Q)) := nr rfl
set_option maxRecDepth 100000 in
theorem v121_4 (n d : Nat) (L : List (Option mL)) (S : List mV) (M : Mm) (Q : mQ) : vc (n + 1) d 121 4 L S M Q = (pI S fun x S => sL L 5 (some (.inl x)) fun L => vc n d 121 6 L S M Q) := nr rfl
set_option maxRecDepth 100000 in
theorem v121_6 (n d : Nat) (L : List (Option mL)) (S : List mV) (M : Mm) (Q : mQ) : vc (n + 1) d 121 6 L S M Q = (gR L 0 fun x => vc n d 121 7 L (.inr (.inr x) :: S) M Q) := nr rfl
set_option maxRecDepth 100000 in
theorem v121_7 (n d : Nat) (L : List (Option mL)) (S : List mV) (M : Mm) (Q : mQ) : vc (n + 1) d 121 7 L S M Q = (pA S fun a S => shO M a 10 (vc n d 121 10 L (.inl (M.it a 9) :: S) M Q)) := nr rfl
set_option maxRecDepth 100000 in
theorem v121_10 (n d : Nat) (L : List (Option mL)) (S : List mV) (M : Mm) (Q : mQ) : vc (n + 1) d 121 10 L S M Q = (vc n d 121 11 L (.inl (-1) :: S) M Q) := nr rfl
set_option maxRecDepth 100000 in
theorem v121_11 (n d : Nat) (L : List (Option mL)) (S : List mV) (M : Mm) (Q : mQ) : vc (n + 1) d 121 11 L S M Q = (pI S fun y S => pI S fun x S => (x = y → X d 121 31 L S M Q) ∧ (¬ (x = y) → vc n d 121 14 L S M Q)) := nr rfl
set_option maxRecDepth 100000 in
theorem v121_14 (n d : Nat) (L : List (Option mL)) (S : List mV) (M : Mm) (Q : mQ) : vc (n + 1) d 121 14 L S M Q = (gR L 0 fun x => vc n d 121 15 L (.inr (.inr x) :: S) M Q) := nr rfl
set_option maxRecDepth 100000 in
theorem v121_15 (n d : Nat) (L : List (Option mL)) (S : List mV) (M : Mm) (Q : mQ) : vc (n + 1) d 121 15 L S M Q = (pA S fun a S => shO M a 10 (rrf M a 6 fun r => vc n d 121 18 L (.inr (.inr r) :: S) M Q)) := nr rfl
set_option maxRecDepth 100000 in
theorem v121_18 (n d : Nat) (L : List (Option mL)) (S : List mV) (M : Mm) (Q : mQ) : vc (n + 1) d 121 18 L S M Q = (gR L 0 fun x => vc n d 121 19 L (.inr (.inr x) :: S) M Q) := nr rfl
set_option maxRecDepth 100000 in
theorem v121_19 (n d : Nat) (L : List (Option mL)) (S : List mV) (M : Mm) (Q : mQ) : vc (n + 1) d 121 19 L S M Q = (pA S fun a S => shO M a 10 (vc n d 121 22 L (.inl (M.it a 9) :: S) M Q)) := nr rfl
set_option maxRecDepth 100000 in
theorem v121_22 (n d : Nat) (L : List (Option mL)) (S : List mV) (M : Mm) (Q : mQ) : vc (n + 1) d 121 22 L S M Q = (pI S fun i S => pA S fun a S => shA M a fun t k => (t = 40 ∨ t = 41) ∧ inB i k ∧ vc n d 121 23 L (.inl (M.it a i.toNatClampNeg) :: S) M Q) := nr rfl
set_option maxRecDepth 100000 in
theorem v121_23 (n d : Nat) (L : List (Option mL)) (S : List mV) (M : Mm) (Q : mQ) : vc (n + 1) d 121 23 L S M Q = (gI L 5 fun x => vc n d 121 25 L (.inl x :: S) M Q) := nr rfl
set_option maxRecDepth 100000 in
theorem v121_25 (n d : Nat) (L : List (Option mL)) (S : List mV) (M : Mm) (Q : mQ) : vc (n + 1) d 121 25 L S M Q = (pI S fun y S => pI S fun x S => vc n d 121 26 L (.inl (x + y) :: S) M Q) := nr rfl
set_option maxRecDepth 100000 in
theorem v121_26 (n d : Nat) (L : List (Option mL)) (S : List mV) (M : Mm) (Q : mQ) : vc (n + 1) d 121 26 L S M Q = (vc n d 121 28 L (.inl 16 :: S) M Q) := nr rfl
set_option maxRecDepth 100000 in
theorem v121_28 (n d : Nat) (L : List (Option mL)) (S : List mV) (M : Mm) (Q : mQ) : vc (n + 1) d 121 28 L S M Q = (pI S fun y S => pI S fun x S => (x ≤ y → X d 121 76 L S M Q) ∧ (¬ (x ≤ y) → X d 121 31 L S M Q)) := nr rfl
set_option maxRecDepth 100000 in
theorem v121_31 (n d : Nat) (L : List (Option mL)) (S : List mV) (M : Mm) (Q : mQ) : vc (n + 1) d 121 31 L S M Q = (gR L 0 fun x => vc n d 121 32 L (.inr (.inr x) :: S) M Q) := nr rfl
set_option maxRecDepth 100000 in
theorem v121_32 (n d : Nat) (L : List (Option mL)) (S : List mV) (M : Mm) (Q : mQ) : vc (n + 1) d 121 32 L S M Q = (pAs 0 S fun as S => pA S fun a S => shO M a 10 (stk S ≤ 8 ∧ XC d 123 (.inr (some a) :: as) M (fun r M => ∃ x : Int32, r = some (.inl x) ∧ X d 121 35 L (.inl x :: S) M Q))) := nr rfl
set_option maxRecDepth 100000 in
theorem v121_35 (n d : Nat) (L : List (Option mL)) (S : List mV) (M : Mm) (Q : mQ) : vc (n + 1) d 121 35 L S M Q = (gI L 4 fun x => vc n d 121 37 L (.inl x :: S) M Q) := nr rfl
set_option maxRecDepth 100000 in
theorem v121_37 (n d : Nat) (L : List (Option mL)) (S : List mV) (M : Mm) (Q : mQ) : vc (n + 1) d 121 37 L S M Q = (pI S fun y S => pI S fun x S => (y ≤ x → vc n d 121 42 L S M Q) ∧ (¬ (y ≤ x) → vc n d 121 40 L S M Q)) := nr rfl
set_option maxRecDepth 100000 in
theorem v121_40 (n d : Nat) (L : List (Option mL)) (S : List mV) (M : Mm) (Q : mQ) : vc (n + 1) d 121 40 L S M Q = (vc n d 121 41 L (.inl (-1) :: S) M Q) := nr rfl
set_option maxRecDepth 100000 in
theorem v121_41 (n d : Nat) (L : List (Option mL)) (S : List mV) (M : Mm) (Q : mQ) : vc (n + 1) d 121 41 L S M Q = (pI S fun x S => S = [] ∧ (0 = 0 ∨ x = 0 ∨ x = 1) ∧ Q (some (.inl x)) M) := nr rfl
set_option maxRecDepth 100000 in
theorem v121_42 (n d : Nat) (L : List (Option mL)) (S : List mV) (M : Mm) (Q : mQ) : vc (n + 1) d 121 42 L S M Q = (vc n d 121 43 L (.inl 0 :: S) M Q) := nr rfl
set_option maxRecDepth 100000 in
theorem v121_43 (n d : Nat) (L : List (Option mL)) (S : List mV) (M : Mm) (Q : mQ) : vc (n + 1) d 121 43 L S M Q = (pI S fun x S => sL L 6 (some (.inl x)) fun L => X d 121 45 L S M Q) := nr rfl
set_option maxRecDepth 100000 in
theorem v121_45 (n d : Nat) (L : List (Option mL)) (S : List mV) (M : Mm) (Q : mQ) : vc (n + 1) d 121 45 L S M Q = (gR L 0 fun x => vc n d 121 46 L (.inr (.inr x) :: S) M Q) := nr rfl
set_option maxRecDepth 100000 in
theorem v121_46 (n d : Nat) (L : List (Option mL)) (S : List mV) (M : Mm) (Q : mQ) : vc (n + 1) d 121 46 L S M Q = (pA S fun a S => shO M a 10 (rrf M a 6 fun r => vc n d 121 49 L (.inr (.inr r) :: S) M Q)) := nr rfl
set_option maxRecDepth 100000 in
theorem v121_49 (n d : Nat) (L : List (Option mL)) (S : List mV) (M : Mm) (Q : mQ) : vc (n + 1) d 121 49 L S M Q = (gI L 6 fun x => vc n d 121 51 L (.inl x :: S) M Q) := nr rfl
set_option maxRecDepth 100000 in
theorem v121_51 (n d : Nat) (L : List (Option mL)) (S : List mV) (M : Mm) (Q : mQ) : vc (n + 1) d 121 51 L S M Q = (pI S fun i S => pA S fun a S => shA M a fun t k => (t = 40 ∨ t = 41) ∧ inB i k ∧ vc n d 121 52 L (.inl (M.it a i.toNatClampNeg) :: S) M Q) := nr rfl
set_option maxRecDepth 100000 in
theorem v121_52 (n d : Nat) (L : List (Option mL)) (S : List mV) (M : Mm) (Q : mQ) : vc (n + 1) d 121 52 L S M Q = (pI S fun x S => (¬ x = 0 → vc n d 121 64 L S M Q) ∧ (¬ (¬ x = 0) → vc n d 121 55 L S M Q)) := nr rfl
set_option maxRecDepth 100000 in
theorem v121_55 (n d : Nat) (L : List (Option mL)) (S : List mV) (M : Mm) (Q : mQ) : vc (n + 1) d 121 55 L S M Q = (gI L 6 fun x => vc n d 121 57 L (.inl x :: S) M Q) := nr rfl
set_option maxRecDepth 100000 in
theorem v121_57 (n d : Nat) (L : List (Option mL)) (S : List mV) (M : Mm) (Q : mQ) : vc (n + 1) d 121 57 L S M Q = (gR L 0 fun x => vc n d 121 58 L (.inr (.inr x) :: S) M Q) := nr rfl
set_option maxRecDepth 100000 in
theorem v121_58 (n d : Nat) (L : List (Option mL)) (S : List mV) (M : Mm) (Q : mQ) : vc (n + 1) d 121 58 L S M Q = (pA S fun a S => shO M a 10 (vc n d 121 61 L (.inl (M.it a 9) :: S) M Q)) := nr rfl
set_option maxRecDepth 100000 in
theorem v121_61 (n d : Nat) (L : List (Option mL)) (S : List mV) (M : Mm) (Q : mQ) : vc (n + 1) d 121 61 L S M Q = (pI S fun y S => pI S fun x S => (¬ x = y → vc n d 121 70 L S M Q) ∧ (¬ (¬ x = y) → vc n d 121 64 L S M Q)) := nr rfl
set_option maxRecDepth 100000 in
theorem v121_64 (n d : Nat) (L : List (Option mL)) (S : List mV) (M : Mm) (Q : mQ) : vc (n + 1) d 121 64 L S M Q = (gI L 6 fun x => sL L 6 (some (.inl (x + 1))) fun L => vc n d 121 67 L S M Q) := nr rfl
set_option maxRecDepth 100000 in
theorem v121_67 (n d : Nat) (L : List (Option mL)) (S : List mV) (M : Mm) (Q : mQ) : vc (n + 1) d 121 67 L S M Q = (X d 121 45 L S M Q) := nr rfl
set_option maxRecDepth 100000 in
theorem v121_70 (n d : Nat) (L : List (Option mL)) (S : List mV) (M : Mm) (Q : mQ) : vc (n + 1) d 121 70 L S M Q = (gR L 0 fun x => vc n d 121 71 L (.inr (.inr x) :: S) M Q) := nr rfl
set_option maxRecDepth 100000 in
theorem v121_71 (n d : Nat) (L : List (Option mL)) (S : List mV) (M : Mm) (Q : mQ) : vc (n + 1) d 121 71 L S M Q = (gI L 6 fun x => vc n d 121 73 L (.inl x :: S) M Q) := nr rfl
set_option maxRecDepth 100000 in
theorem v121_73 (n d : Nat) (L : List (Option mL)) (S : List mV) (M : Mm) (Q : mQ) : vc (n + 1) d 121 73 L S M Q = (pI S fun x S => pA S fun a S => shO M a 10 (X d 121 76 L S (M.si a 9 x) Q)) := nr rfl
set_option maxRecDepth 100000 in
theorem v121_76 (n d : Nat) (L : List (Option mL)) (S : List mV) (M : Mm) (Q : mQ) : vc (n + 1) d 121 76 L S M Q = (gR L 0 fun x => vc n d 121 77 L (.inr (.inr x) :: S) M Q) := nr rfl
set_option maxRecDepth 100000 in
theorem v121_77 (n d : Nat) (L : List (Option mL)) (S : List mV) (M : Mm) (Q : mQ) : vc (n + 1) d 121 77 L S M Q = (pA S fun a S => shO M a 10 (rrf M a 30 fun r => vc n d 121 80 L (.inr (.inr r) :: S) M Q)) := nr rfl
set_option maxRecDepth 100000 in
theorem v121_80 (n d : Nat) (L : List (Option mL)) (S : List mV) (M : Mm) (Q : mQ) : vc (n + 1) d 121 80 L S M Q = (vc n d 121 81 L (.inl 0 :: S) M Q) := nr rfl
set_option maxRecDepth 100000 in
theorem v121_81 (n d : Nat) (L : List (Option mL)) (S : List mV) (M : Mm) (Q : mQ) : vc (n + 1) d 121 81 L S M Q = (vc n d 121 83 L (.inl (-91) :: S) M Q) := nr rfl
set_option maxRecDepth 100000 in
theorem v121_83 (n d : Nat) (L : List (Option mL)) (S : List mV) (M : Mm) (Q : mQ) : vc (n + 1) d 121 83 L S M Q = (pI S fun x S => pI S fun i S => pA S fun a S => shA M a fun t k => (t = 42 ∨ t = 44) ∧ inB i k ∧ vc n d 121 84 L S (M.si a i.toNatClampNeg (bnar t x)) Q) := nr rfl
set_option maxRecDepth 100000 in
theorem v121_84 (n d : Nat) (L : List (Option mL)) (S : List mV) (M : Mm) (Q : mQ) : vc (n + 1) d 121 84 L S M Q = (gR L 0 fun x => vc n d 121 85 L (.inr (.inr x) :: S) M Q) := nr rfl
set_option maxRecDepth 100000 in
theorem v121_85 (n d : Nat) (L : List (Option mL)) (S : List mV) (M : Mm) (Q : mQ) : vc (n + 1) d 121 85 L S M Q = (pA S fun a S => shO M a 10 (rrf M a 30 fun r => vc n d 121 88 L (.inr (.inr r) :: S) M Q)) := nr rfl
set_option maxRecDepth 100000 in
theorem v121_88 (n d : Nat) (L : List (Option mL)) (S : List mV) (M : Mm) (Q : mQ) : vc (n + 1) d 121 88 L S M Q = (vc n d 121 89 L (.inl 1 :: S) M Q) := nr rfl
set_option maxRecDepth 100000 in
theorem v121_89 (n d : Nat) (L : List (Option mL)) (S : List mV) (M : Mm) (Q : mQ) : vc (n + 1) d 121 89 L S M Q = (gI L 1 fun x => vc n d 121 90 L (.inl x :: S) M Q) := nr rfl
set_option maxRecDepth 100000 in
theorem v121_90 (n d : Nat) (L : List (Option mL)) (S : List mV) (M : Mm) (Q : mQ) : vc (n + 1) d 121 90 L S M Q = (pI S fun x S => vc n d 121 91 L (.inl x.toInt8.toInt32 :: S) M Q) := nr rfl
set_option maxRecDepth 100000 in
theorem v121_91 (n d : Nat) (L : List (Option mL)) (S : List mV) (M : Mm) (Q : mQ) : vc (n + 1) d 121 91 L S M Q = (pI S fun x S => pI S fun i S => pA S fun a S => shA M a fun t k => (t = 42 ∨ t = 44) ∧ inB i k ∧ vc n d 121 92 L S (M.si a i.toNatClampNeg (bnar t x)) Q) := nr rfl
set_option maxRecDepth 100000 in
theorem v121_92 (n d : Nat) (L : List (Option mL)) (S : List mV) (M : Mm) (Q : mQ) : vc (n + 1) d 121 92 L S M Q = (gR L 0 fun x => vc n d 121 93 L (.inr (.inr x) :: S) M Q) := nr rfl
set_option maxRecDepth 100000 in
theorem v121_93 (n d : Nat) (L : List (Option mL)) (S : List mV) (M : Mm) (Q : mQ) : vc (n + 1) d 121 93 L S M Q = (pA S fun a S => shO M a 10 (rrf M a 30 fun r => vc n d 121 96 L (.inr (.inr r) :: S) M Q)) := nr rfl
set_option maxRecDepth 100000 in
theorem v121_96 (n d : Nat) (L : List (Option mL)) (S : List mV) (M : Mm) (Q : mQ) : vc (n + 1) d 121 96 L S M Q = (vc n d 121 97 L (.inl 2 :: S) M Q) := nr rfl
set_option maxRecDepth 100000 in
theorem v121_97 (n d : Nat) (L : List (Option mL)) (S : List mV) (M : Mm) (Q : mQ) : vc (n + 1) d 121 97 L S M Q = (gI L 2 fun x => vc n d 121 98 L (.inl x :: S) M Q) := nr rfl
set_option maxRecDepth 100000 in
theorem v121_98 (n d : Nat) (L : List (Option mL)) (S : List mV) (M : Mm) (Q : mQ) : vc (n + 1) d 121 98 L S M Q = (pI S fun x S => vc n d 121 99 L (.inl x.toInt8.toInt32 :: S) M Q) := nr rfl
set_option maxRecDepth 100000 in
theorem v121_99 (n d : Nat) (L : List (Option mL)) (S : List mV) (M : Mm) (Q : mQ) : vc (n + 1) d 121 99 L S M Q = (pI S fun x S => pI S fun i S => pA S fun a S => shA M a fun t k => (t = 42 ∨ t = 44) ∧ inB i k ∧ vc n d 121 100 L S (M.si a i.toNatClampNeg (bnar t x)) Q) := nr rfl
set_option maxRecDepth 100000 in
theorem v121_100 (n d : Nat) (L : List (Option mL)) (S : List mV) (M : Mm) (Q : mQ) : vc (n + 1) d 121 100 L S M Q = (gR L 0 fun x => vc n d 121 101 L (.inr (.inr x) :: S) M Q) := nr rfl
set_option maxRecDepth 100000 in
theorem v121_101 (n d : Nat) (L : List (Option mL)) (S : List mV) (M : Mm) (Q : mQ) : vc (n + 1) d 121 101 L S M Q = (pA S fun a S => shO M a 10 (rrf M a 30 fun r => vc n d 121 104 L (.inr (.inr r) :: S) M Q)) := nr rfl
set_option maxRecDepth 100000 in
theorem v121_104 (n d : Nat) (L : List (Option mL)) (S : List mV) (M : Mm) (Q : mQ) : vc (n + 1) d 121 104 L S M Q = (vc n d 121 105 L (.inl 3 :: S) M Q) := nr rfl
set_option maxRecDepth 100000 in
theorem v121_105 (n d : Nat) (L : List (Option mL)) (S : List mV) (M : Mm) (Q : mQ) : vc (n + 1) d 121 105 L S M Q = (gI L 3 fun x => vc n d 121 106 L (.inl x :: S) M Q) := nr rfl
set_option maxRecDepth 100000 in
theorem v121_106 (n d : Nat) (L : List (Option mL)) (S : List mV) (M : Mm) (Q : mQ) : vc (n + 1) d 121 106 L S M Q = (pI S fun x S => vc n d 121 107 L (.inl x.toInt8.toInt32 :: S) M Q) := nr rfl
set_option maxRecDepth 100000 in
theorem v121_107 (n d : Nat) (L : List (Option mL)) (S : List mV) (M : Mm) (Q : mQ) : vc (n + 1) d 121 107 L S M Q = (pI S fun x S => pI S fun i S => pA S fun a S => shA M a fun t k => (t = 42 ∨ t = 44) ∧ inB i k ∧ vc n d 121 108 L S (M.si a i.toNatClampNeg (bnar t x)) Q) := nr rfl
set_option maxRecDepth 100000 in
theorem v121_108 (n d : Nat) (L : List (Option mL)) (S : List mV) (M : Mm) (Q : mQ) : vc (n + 1) d 121 108 L S M Q = (gR L 0 fun x => vc n d 121 109 L (.inr (.inr x) :: S) M Q) := nr rfl
set_option maxRecDepth 100000 in
theorem v121_109 (n d : Nat) (L : List (Option mL)) (S : List mV) (M : Mm) (Q : mQ) : vc (n + 1) d 121 109 L S M Q = (pA S fun a S => shO M a 10 (rrf M a 30 fun r => vc n d 121 112 L (.inr (.inr r) :: S) M Q)) := nr rfl
set_option maxRecDepth 100000 in
theorem v121_112 (n d : Nat) (L : List (Option mL)) (S : List mV) (M : Mm) (Q : mQ) : vc (n + 1) d 121 112 L S M Q = (vc n d 121 113 L (.inl 4 :: S) M Q) := nr rfl
set_option maxRecDepth 100000 in
theorem v121_113 (n d : Nat) (L : List (Option mL)) (S : List mV) (M : Mm) (Q : mQ) : vc (n + 1) d 121 113 L S M Q = (gR L 0 fun x => vc n d 121 114 L (.inr (.inr x) :: S) M Q) := nr rfl
set_option maxRecDepth 100000 in
theorem v121_114 (n d : Nat) (L : List (Option mL)) (S : List mV) (M : Mm) (Q : mQ) : vc (n + 1) d 121 114 L S M Q = (pA S fun a S => shO M a 10 (vc n d 121 117 L (.inl (M.it a 12) :: S) M Q)) := nr rfl
set_option maxRecDepth 100000 in
theorem v121_117 (n d : Nat) (L : List (Option mL)) (S : List mV) (M : Mm) (Q : mQ) : vc (n + 1) d 121 117 L S M Q = (vc n d 121 119 L (.inl 8 :: S) M Q) := nr rfl
set_option maxRecDepth 100000 in
theorem v121_119 (n d : Nat) (L : List (Option mL)) (S : List mV) (M : Mm) (Q : mQ) : vc (n + 1) d 121 119 L S M Q = (pI S fun y S => pI S fun x S => vc n d 121 120 L (.inl (x >>> (y &&& 31)) :: S) M Q) := nr rfl
set_option maxRecDepth 100000 in
theorem v121_120 (n d : Nat) (L : List (Option mL)) (S : List mV) (M : Mm) (Q : mQ) : vc (n + 1) d 121 120 L S M Q = (pI S fun x S => vc n d 121 121 L (.inl x.toInt8.toInt32 :: S) M Q) := nr rfl
set_option maxRecDepth 100000 in
theorem v121_121 (n d : Nat) (L : List (Option mL)) (S : List mV) (M : Mm) (Q : mQ) : vc (n + 1) d 121 121 L S M Q = (pI S fun x S => pI S fun i S => pA S fun a S => shA M a fun t k => (t = 42 ∨ t = 44) ∧ inB i k ∧ vc n d 121 122 L S (M.si a i.toNatClampNeg (bnar t x)) Q) := nr rfl
set_option maxRecDepth 100000 in
theorem v121_122 (n d : Nat) (L : List (Option mL)) (S : List mV) (M : Mm) (Q : mQ) : vc (n + 1) d 121 122 L S M Q = (gR L 0 fun x => vc n d 121 123 L (.inr (.inr x) :: S) M Q) := nr rfl
set_option maxRecDepth 100000 in
theorem v121_123 (n d : Nat) (L : List (Option mL)) (S : List mV) (M : Mm) (Q : mQ) : vc (n + 1) d 121 123 L S M Q = (pA S fun a S => shO M a 10 (rrf M a 30 fun r => vc n d 121 126 L (.inr (.inr r) :: S) M Q)) := nr rfl
set_option maxRecDepth 100000 in
theorem v121_126 (n d : Nat) (L : List (Option mL)) (S : List mV) (M : Mm) (Q : mQ) : vc (n + 1) d 121 126 L S M Q = (vc n d 121 127 L (.inl 5 :: S) M Q) := nr rfl
set_option maxRecDepth 100000 in
theorem v121_127 (n d : Nat) (L : List (Option mL)) (S : List mV) (M : Mm) (Q : mQ) : vc (n + 1) d 121 127 L S M Q = (gR L 0 fun x => vc n d 121 128 L (.inr (.inr x) :: S) M Q) := nr rfl
set_option maxRecDepth 100000 in
theorem v121_128 (n d : Nat) (L : List (Option mL)) (S : List mV) (M : Mm) (Q : mQ) : vc (n + 1) d 121 128 L S M Q = (pA S fun a S => shO M a 10 (vc n d 121 131 L (.inl (M.it a 12) :: S) M Q)) := nr rfl
set_option maxRecDepth 100000 in
theorem v121_131 (n d : Nat) (L : List (Option mL)) (S : List mV) (M : Mm) (Q : mQ) : vc (n + 1) d 121 131 L S M Q = (pI S fun x S => vc n d 121 132 L (.inl x.toInt8.toInt32 :: S) M Q) := nr rfl
set_option maxRecDepth 100000 in
theorem v121_132 (n d : Nat) (L : List (Option mL)) (S : List mV) (M : Mm) (Q : mQ) : vc (n + 1) d 121 132 L S M Q = (pI S fun x S => pI S fun i S => pA S fun a S => shA M a fun t k => (t = 42 ∨ t = 44) ∧ inB i k ∧ vc n d 121 133 L S (M.si a i.toNatClampNeg (bnar t x)) Q) := nr rfl
set_option maxRecDepth 100000 in
theorem v121_133 (n d : Nat) (L : List (Option mL)) (S : List mV) (M : Mm) (Q : mQ) : vc (n + 1) d 121 133 L S M Q = (gR L 0 fun x => vc n d 121 134 L (.inr (.inr x) :: S) M Q) := nr rfl
set_option maxRecDepth 100000 in
theorem v121_134 (n d : Nat) (L : List (Option mL)) (S : List mV) (M : Mm) (Q : mQ) : vc (n + 1) d 121 134 L S M Q = (pA S fun a S => shO M a 10 (rrf M a 30 fun r => vc n d 121 137 L (.inr (.inr r) :: S) M Q)) := nr rfl
set_option maxRecDepth 100000 in
theorem v121_137 (n d : Nat) (L : List (Option mL)) (S : List mV) (M : Mm) (Q : mQ) : vc (n + 1) d 121 137 L S M Q = (gI L 3 fun x => vc n d 121 138 L (.inl x :: S) M Q) := nr rfl
set_option maxRecDepth 100000 in
theorem v121_138 (n d : Nat) (L : List (Option mL)) (S : List mV) (M : Mm) (Q : mQ) : vc (n + 1) d 121 138 L S M Q = (vc n d 121 140 L (.inl 6 :: S) M Q) := nr rfl
set_option maxRecDepth 100000 in
theorem v121_140 (n d : Nat) (L : List (Option mL)) (S : List mV) (M : Mm) (Q : mQ) : vc (n + 1) d 121 140 L S M Q = (pI S fun y S => pI S fun x S => vc n d 121 141 L (.inl (x + y) :: S) M Q) := nr rfl
set_option maxRecDepth 100000 in
theorem v121_141 (n d : Nat) (L : List (Option mL)) (S : List mV) (M : Mm) (Q : mQ) : vc (n + 1) d 121 141 L S M Q = (gR L 0 fun x => vc n d 121 142 L (.inr (.inr x) :: S) M Q) := nr rfl
set_option maxRecDepth 100000 in
theorem v121_142 (n d : Nat) (L : List (Option mL)) (S : List mV) (M : Mm) (Q : mQ) : vc (n + 1) d 121 142 L S M Q = (pA S fun a S => shO M a 10 (rrf M a 30 fun r => vc n d 121 145 L (.inr (.inr r) :: S) M Q)) := nr rfl
set_option maxRecDepth 100000 in
theorem v121_145 (n d : Nat) (L : List (Option mL)) (S : List mV) (M : Mm) (Q : mQ) : vc (n + 1) d 121 145 L S M Q = (vc n d 121 146 L (.inl 4 :: S) M Q) := nr rfl
set_option maxRecDepth 100000 in
theorem v121_146 (n d : Nat) (L : List (Option mL)) (S : List mV) (M : Mm) (Q : mQ) : vc (n + 1) d 121 146 L S M Q = (pI S fun i S => pA S fun a S => shA M a fun t k => (t = 42 ∨ t = 44) ∧ inB i k ∧ vc n d 121 147 L (.inl (M.it a i.toNatClampNeg) :: S) M Q) := nr rfl
set_option maxRecDepth 100000 in
theorem v121_147 (n d : Nat) (L : List (Option mL)) (S : List mV) (M : Mm) (Q : mQ) : vc (n + 1) d 121 147 L S M Q = (pI S fun x S => pI S fun i S => pA S fun a S => shA M a fun t k => (t = 42 ∨ t = 44) ∧ inB i k ∧ vc n d 121 148 L S (M.si a i.toNatClampNeg (bnar t x)) Q) := nr rfl
set_option maxRecDepth 100000 in
theorem v121_148 (n d : Nat) (L : List (Option mL)) (S : List mV) (M : Mm) (Q : mQ) : vc (n + 1) d 121 148 L S M Q = (gR L 0 fun x => vc n d 121 149 L (.inr (.inr x) :: S) M Q) := nr rfl
set_option maxRecDepth 100000 in
theorem v121_149 (n d : Nat) (L : List (Option mL)) (S : List mV) (M : Mm) (Q : mQ) : vc (n + 1) d 121 149 L S M Q = (pA S fun a S => shO M a 10 (rrf M a 30 fun r => vc n d 121 152 L (.inr (.inr r) :: S) M Q)) := nr rfl
set_option maxRecDepth 100000 in
theorem v121_152 (n d : Nat) (L : List (Option mL)) (S : List mV) (M : Mm) (Q : mQ) : vc (n + 1) d 121 152 L S M Q = (gI L 3 fun x => vc n d 121 153 L (.inl x :: S) M Q) := nr rfl
set_option maxRecDepth 100000 in
theorem v121_153 (n d : Nat) (L : List (Option mL)) (S : List mV) (M : Mm) (Q : mQ) : vc (n + 1) d 121 153 L S M Q = (vc n d 121 155 L (.inl 7 :: S) M Q) := nr rfl
set_option maxRecDepth 100000 in
theorem v121_155 (n d : Nat) (L : List (Option mL)) (S : List mV) (M : Mm) (Q : mQ) : vc (n + 1) d 121 155 L S M Q = (pI S fun y S => pI S fun x S => vc n d 121 156 L (.inl (x + y) :: S) M Q) := nr rfl
set_option maxRecDepth 100000 in
theorem v121_156 (n d : Nat) (L : List (Option mL)) (S : List mV) (M : Mm) (Q : mQ) : vc (n + 1) d 121 156 L S M Q = (gR L 0 fun x => vc n d 121 157 L (.inr (.inr x) :: S) M Q) := nr rfl
set_option maxRecDepth 100000 in
theorem v121_157 (n d : Nat) (L : List (Option mL)) (S : List mV) (M : Mm) (Q : mQ) : vc (n + 1) d 121 157 L S M Q = (pA S fun a S => shO M a 10 (rrf M a 30 fun r => vc n d 121 160 L (.inr (.inr r) :: S) M Q)) := nr rfl
set_option maxRecDepth 100000 in
theorem v121_160 (n d : Nat) (L : List (Option mL)) (S : List mV) (M : Mm) (Q : mQ) : vc (n + 1) d 121 160 L S M Q = (vc n d 121 161 L (.inl 5 :: S) M Q) := nr rfl
set_option maxRecDepth 100000 in
theorem v121_161 (n d : Nat) (L : List (Option mL)) (S : List mV) (M : Mm) (Q : mQ) : vc (n + 1) d 121 161 L S M Q = (pI S fun i S => pA S fun a S => shA M a fun t k => (t = 42 ∨ t = 44) ∧ inB i k ∧ vc n d 121 162 L (.inl (M.it a i.toNatClampNeg) :: S) M Q) := nr rfl
set_option maxRecDepth 100000 in
theorem v121_162 (n d : Nat) (L : List (Option mL)) (S : List mV) (M : Mm) (Q : mQ) : vc (n + 1) d 121 162 L S M Q = (pI S fun x S => pI S fun i S => pA S fun a S => shA M a fun t k => (t = 42 ∨ t = 44) ∧ inB i k ∧ vc n d 121 163 L S (M.si a i.toNatClampNeg (bnar t x)) Q) := nr rfl
set_option maxRecDepth 100000 in
theorem v121_163 (n d : Nat) (L : List (Option mL)) (S : List mV) (M : Mm) (Q : mQ) : vc (n + 1) d 121 163 L S M Q = (gI L 3 fun x => vc n d 121 164 L (.inl x :: S) M Q) := nr rfl
set_option maxRecDepth 100000 in
theorem v121_164 (n d : Nat) (L : List (Option mL)) (S : List mV) (M : Mm) (Q : mQ) : vc (n + 1) d 121 164 L S M Q = (vc n d 121 166 L (.inl 8 :: S) M Q) := nr rfl
set_option maxRecDepth 100000 in
theorem v121_166 (n d : Nat) (L : List (Option mL)) (S : List mV) (M : Mm) (Q : mQ) : vc (n + 1) d 121 166 L S M Q = (pI S fun y S => pI S fun x S => vc n d 121 167 L (.inl (x + y) :: S) M Q) := nr rfl
set_option maxRecDepth 100000 in
theorem v121_167 (n d : Nat) (L : List (Option mL)) (S : List mV) (M : Mm) (Q : mQ) : vc (n + 1) d 121 167 L S M Q = (pI S fun x S => sL L 6 (some (.inl x)) fun L => X d 121 169 L S M Q) := nr rfl
set_option maxRecDepth 100000 in
theorem v121_169 (n d : Nat) (L : List (Option mL)) (S : List mV) (M : Mm) (Q : mQ) : vc (n + 1) d 121 169 L S M Q = (gI L 6 fun x => vc n d 121 171 L (.inl x :: S) M Q) := nr rfl
set_option maxRecDepth 100000 in
theorem v121_171 (n d : Nat) (L : List (Option mL)) (S : List mV) (M : Mm) (Q : mQ) : vc (n + 1) d 121 171 L S M Q = (vc n d 121 173 L (.inl 16 :: S) M Q) := nr rfl
set_option maxRecDepth 100000 in
theorem v121_173 (n d : Nat) (L : List (Option mL)) (S : List mV) (M : Mm) (Q : mQ) : vc (n + 1) d 121 173 L S M Q = (gI L 5 fun x => vc n d 121 175 L (.inl x :: S) M Q) := nr rfl
set_option maxRecDepth 100000 in
theorem v121_175 (n d : Nat) (L : List (Option mL)) (S : List mV) (M : Mm) (Q : mQ) : vc (n + 1) d 121 175 L S M Q = (pI S fun y S => pI S fun x S => vc n d 121 176 L (.inl (x * y) :: S) M Q) := nr rfl
set_option maxRecDepth 100000 in
theorem v121_176 (n d : Nat) (L : List (Option mL)) (S : List mV) (M : Mm) (Q : mQ) : vc (n + 1) d 121 176 L S M Q = (pI S fun y S => pI S fun x S => (y ≤ x → vc n d 121 193 L S M Q) ∧ (¬ (y ≤ x) → vc n d 121 179 L S M Q)) := nr rfl
set_option maxRecDepth 100000 in
theorem v121_179 (n d : Nat) (L : List (Option mL)) (S : List mV) (M : Mm) (Q : mQ) : vc (n + 1) d 121 179 L S M Q = (gR L 0 fun x => vc n d 121 180 L (.inr (.inr x) :: S) M Q) := nr rfl
set_option maxRecDepth 100000 in
theorem v121_180 (n d : Nat) (L : List (Option mL)) (S : List mV) (M : Mm) (Q : mQ) : vc (n + 1) d 121 180 L S M Q = (pA S fun a S => shO M a 10 (rrf M a 30 fun r => vc n d 121 183 L (.inr (.inr r) :: S) M Q)) := nr rfl
set_option maxRecDepth 100000 in
theorem v121_183 (n d : Nat) (L : List (Option mL)) (S : List mV) (M : Mm) (Q : mQ) : vc (n + 1) d 121 183 L S M Q = (gI L 6 fun x => vc n d 121 185 L (.inl x :: S) M Q) := nr rfl
set_option maxRecDepth 100000 in
theorem v121_185 (n d : Nat) (L : List (Option mL)) (S : List mV) (M : Mm) (Q : mQ) : vc (n + 1) d 121 185 L S M Q = (vc n d 121 186 L (.inl 0 :: S) M Q) := nr rfl
set_option maxRecDepth 100000 in
theorem v121_186 (n d : Nat) (L : List (Option mL)) (S : List mV) (M : Mm) (Q : mQ) : vc (n + 1) d 121 186 L S M Q = (pI S fun x S => pI S fun i S => pA S fun a S => shA M a fun t k => (t = 42 ∨ t = 44) ∧ inB i k ∧ vc n d 121 187 L S (M.si a i.toNatClampNeg (bnar t x)) Q) := nr rfl
set_option maxRecDepth 100000 in
theorem v121_187 (n d : Nat) (L : List (Option mL)) (S : List mV) (M : Mm) (Q : mQ) : vc (n + 1) d 121 187 L S M Q = (gI L 6 fun x => sL L 6 (some (.inl (x + 1))) fun L => vc n d 121 190 L S M Q) := nr rfl
set_option maxRecDepth 100000 in
theorem v121_190 (n d : Nat) (L : List (Option mL)) (S : List mV) (M : Mm) (Q : mQ) : vc (n + 1) d 121 190 L S M Q = (X d 121 169 L S M Q) := nr rfl
set_option maxRecDepth 100000 in
theorem v121_193 (n d : Nat) (L : List (Option mL)) (S : List mV) (M : Mm) (Q : mQ) : vc (n + 1) d 121 193 L S M Q = (gR L 0 fun x => vc n d 121 194 L (.inr (.inr x) :: S) M Q) := nr rfl
set_option maxRecDepth 100000 in
theorem v121_194 (n d : Nat) (L : List (Option mL)) (S : List mV) (M : Mm) (Q : mQ) : vc (n + 1) d 121 194 L S M Q = (pC S fun v S => vc n d 121 195 L (v :: v :: S) M Q) := nr rfl
set_option maxRecDepth 100000 in
theorem v121_195 (n d : Nat) (L : List (Option mL)) (S : List mV) (M : Mm) (Q : mQ) : vc (n + 1) d 121 195 L S M Q = (pA S fun a S => shO M a 10 (vc n d 121 198 L (.inl (M.it a 12) :: S) M Q)) := nr rfl
set_option maxRecDepth 100000 in
theorem v121_198 (n d : Nat) (L : List (Option mL)) (S : List mV) (M : Mm) (Q : mQ) : vc (n + 1) d 121 198 L S M Q = (vc n d 121 199 L (.inl 1 :: S) M Q) := nr rfl
set_option maxRecDepth 100000 in
theorem v121_199 (n d : Nat) (L : List (Option mL)) (S : List mV) (M : Mm) (Q : mQ) : vc (n + 1) d 121 199 L S M Q = (pI S fun y S => pI S fun x S => vc n d 121 200 L (.inl (x + y) :: S) M Q) := nr rfl
set_option maxRecDepth 100000 in
theorem v121_200 (n d : Nat) (L : List (Option mL)) (S : List mV) (M : Mm) (Q : mQ) : vc (n + 1) d 121 200 L S M Q = (pI S fun x S => pA S fun a S => shO M a 10 (vc n d 121 203 L S (M.si a 12 x) Q)) := nr rfl
set_option maxRecDepth 100000 in
theorem v121_203 (n d : Nat) (L : List (Option mL)) (S : List mV) (M : Mm) (Q : mQ) : vc (n + 1) d 121 203 L S M Q = (vc n d 121 205 L (.inl 16 :: S) M Q) := nr rfl
set_option maxRecDepth 100000 in
theorem v121_205 (n d : Nat) (L : List (Option mL)) (S : List mV) (M : Mm) (Q : mQ) : vc (n + 1) d 121 205 L S M Q = (gR L 0 fun x => vc n d 121 206 L (.inr (.inr x) :: S) M Q) := nr rfl
set_option maxRecDepth 100000 in
theorem v121_206 (n d : Nat) (L : List (Option mL)) (S : List mV) (M : Mm) (Q : mQ) : vc (n + 1) d 121 206 L S M Q = (pA S fun a S => shO M a 10 (vc n d 121 209 L (.inl (M.it a 9) :: S) M Q)) := nr rfl
set_option maxRecDepth 100000 in
theorem v121_209 (n d : Nat) (L : List (Option mL)) (S : List mV) (M : Mm) (Q : mQ) : vc (n + 1) d 121 209 L S M Q = (pI S fun y S => pI S fun x S => vc n d 121 210 L (.inl (x * y) :: S) M Q) := nr rfl
set_option maxRecDepth 100000 in
theorem v121_210 (n d : Nat) (L : List (Option mL)) (S : List mV) (M : Mm) (Q : mQ) : vc (n + 1) d 121 210 L S M Q = (gR L 0 fun x => vc n d 121 211 L (.inr (.inr x) :: S) M Q) := nr rfl
set_option maxRecDepth 100000 in
theorem v121_211 (n d : Nat) (L : List (Option mL)) (S : List mV) (M : Mm) (Q : mQ) : vc (n + 1) d 121 211 L S M Q = (pA S fun a S => shO M a 10 (rrf M a 6 fun r => vc n d 121 214 L (.inr (.inr r) :: S) M Q)) := nr rfl
set_option maxRecDepth 100000 in
theorem v121_214 (n d : Nat) (L : List (Option mL)) (S : List mV) (M : Mm) (Q : mQ) : vc (n + 1) d 121 214 L S M Q = (gR L 0 fun x => vc n d 121 215 L (.inr (.inr x) :: S) M Q) := nr rfl
set_option maxRecDepth 100000 in
theorem v121_215 (n d : Nat) (L : List (Option mL)) (S : List mV) (M : Mm) (Q : mQ) : vc (n + 1) d 121 215 L S M Q = (pA S fun a S => shO M a 10 (vc n d 121 218 L (.inl (M.it a 9) :: S) M Q)) := nr rfl
set_option maxRecDepth 100000 in
theorem v121_218 (n d : Nat) (L : List (Option mL)) (S : List mV) (M : Mm) (Q : mQ) : vc (n + 1) d 121 218 L S M Q = (pI S fun i S => pA S fun a S => shA M a fun t k => (t = 40 ∨ t = 41) ∧ inB i k ∧ vc n d 121 219 L (.inl (M.it a i.toNatClampNeg) :: S) M Q) := nr rfl
set_option maxRecDepth 100000 in
theorem v121_219 (n d : Nat) (L : List (Option mL)) (S : List mV) (M : Mm) (Q : mQ) : vc (n + 1) d 121 219 L S M Q = (pI S fun y S => pI S fun x S => vc n d 121 220 L (.inl (x + y) :: S) M Q) := nr rfl
set_option maxRecDepth 100000 in
theorem v121_220 (n d : Nat) (L : List (Option mL)) (S : List mV) (M : Mm) (Q : mQ) : vc (n + 1) d 121 220 L S M Q = (pI S fun x S => sL L 6 (some (.inl x)) fun L => vc n d 121 222 L S M Q) := nr rfl
set_option maxRecDepth 100000 in
theorem v121_222 (n d : Nat) (L : List (Option mL)) (S : List mV) (M : Mm) (Q : mQ) : vc (n + 1) d 121 222 L S M Q = (gR L 0 fun x => vc n d 121 223 L (.inr (.inr x) :: S) M Q) := nr rfl
set_option maxRecDepth 100000 in
theorem v121_223 (n d : Nat) (L : List (Option mL)) (S : List mV) (M : Mm) (Q : mQ) : vc (n + 1) d 121 223 L S M Q = (pA S fun a S => shO M a 10 (rrf M a 6 fun r => vc n d 121 226 L (.inr (.inr r) :: S) M Q)) := nr rfl
set_option maxRecDepth 100000 in
theorem v121_226 (n d : Nat) (L : List (Option mL)) (S : List mV) (M : Mm) (Q : mQ) : vc (n + 1) d 121 226 L S M Q = (gR L 0 fun x => vc n d 121 227 L (.inr (.inr x) :: S) M Q) := nr rfl
set_option maxRecDepth 100000 in
theorem v121_227 (n d : Nat) (L : List (Option mL)) (S : List mV) (M : Mm) (Q : mQ) : vc (n + 1) d 121 227 L S M Q = (pA S fun a S => shO M a 10 (vc n d 121 230 L (.inl (M.it a 9) :: S) M Q)) := nr rfl
set_option maxRecDepth 100000 in
theorem v121_230 (n d : Nat) (L : List (Option mL)) (S : List mV) (M : Mm) (Q : mQ) : vc (n + 1) d 121 230 L S M Q = (pC S fun v S => pC S fun w S => vc n d 121 231 L (v :: w :: v :: w :: S) M Q) := nr rfl
set_option maxRecDepth 100000 in
theorem v121_231 (n d : Nat) (L : List (Option mL)) (S : List mV) (M : Mm) (Q : mQ) : vc (n + 1) d 121 231 L S M Q = (pI S fun i S => pA S fun a S => shA M a fun t k => (t = 40 ∨ t = 41) ∧ inB i k ∧ vc n d 121 232 L (.inl (M.it a i.toNatClampNeg) :: S) M Q) := nr rfl
set_option maxRecDepth 100000 in
theorem v121_232 (n d : Nat) (L : List (Option mL)) (S : List mV) (M : Mm) (Q : mQ) : vc (n + 1) d 121 232 L S M Q = (gI L 5 fun x => vc n d 121 234 L (.inl x :: S) M Q) := nr rfl
set_option maxRecDepth 100000 in
theorem v121_234 (n d : Nat) (L : List (Option mL)) (S : List mV) (M : Mm) (Q : mQ) : vc (n + 1) d 121 234 L S M Q = (pI S fun y S => pI S fun x S => vc n d 121 235 L (.inl (x + y) :: S) M Q) := nr rfl
set_option maxRecDepth 100000 in
theorem v121_235 (n d : Nat) (L : List (Option mL)) (S : List mV) (M : Mm) (Q : mQ) : vc (n + 1) d 121 235 L S M Q = (pI S fun x S => pI S fun i S => pA S fun a S => shA M a fun t k => t = 41 ∧ inB i k ∧ vc n d 121 236 L S (M.si a i.toNatClampNeg x) Q) := nr rfl
set_option maxRecDepth 100000 in
theorem v121_236 (n d : Nat) (L : List (Option mL)) (S : List mV) (M : Mm) (Q : mQ) : vc (n + 1) d 121 236 L S M Q = (gR L 0 fun x => vc n d 121 237 L (.inr (.inr x) :: S) M Q) := nr rfl
set_option maxRecDepth 100000 in
theorem v121_237 (n d : Nat) (L : List (Option mL)) (S : List mV) (M : Mm) (Q : mQ) : vc (n + 1) d 121 237 L S M Q = (pA S fun a S => shO M a 10 (rrf M a 7 fun r => vc n d 121 240 L (.inr (.inr r) :: S) M Q)) := nr rfl
set_option maxRecDepth 100000 in
theorem v121_240 (n d : Nat) (L : List (Option mL)) (S : List mV) (M : Mm) (Q : mQ) : vc (n + 1) d 121 240 L S M Q = (gR L 0 fun x => vc n d 121 241 L (.inr (.inr x) :: S) M Q) := nr rfl
set_option maxRecDepth 100000 in
theorem v121_241 (n d : Nat) (L : List (Option mL)) (S : List mV) (M : Mm) (Q : mQ) : vc (n + 1) d 121 241 L S M Q = (pA S fun a S => shO M a 10 (vc n d 121 244 L (.inl (M.it a 9) :: S) M Q)) := nr rfl
set_option maxRecDepth 100000 in
theorem v121_244 (n d : Nat) (L : List (Option mL)) (S : List mV) (M : Mm) (Q : mQ) : vc (n + 1) d 121 244 L S M Q = (pI S fun i S => pA S fun a S => shA M a fun t k => (t = 40 ∨ t = 41) ∧ inB i k ∧ vc n d 121 245 L (.inl (M.it a i.toNatClampNeg) :: S) M Q) := nr rfl
set_option maxRecDepth 100000 in
theorem v121_245 (n d : Nat) (L : List (Option mL)) (S : List mV) (M : Mm) (Q : mQ) : vc (n + 1) d 121 245 L S M Q = (vc n d 121 246 L (.inl (-1) :: S) M Q) := nr rfl
set_option maxRecDepth 100000 in
theorem v121_246 (n d : Nat) (L : List (Option mL)) (S : List mV) (M : Mm) (Q : mQ) : vc (n + 1) d 121 246 L S M Q = (pI S fun y S => pI S fun x S => (¬ x = y → vc n d 121 253 L S M Q) ∧ (¬ (¬ x = y) → vc n d 121 249 L S M Q)) := nr rfl
set_option maxRecDepth 100000 in
theorem v121_249 (n d : Nat) (L : List (Option mL)) (S : List mV) (M : Mm) (Q : mQ) : vc (n + 1) d 121 249 L S M Q = (vc n d 121 250 L (.inl (-1) :: S) M Q) := nr rfl
set_option maxRecDepth 100000 in
theorem v121_250 (n d : Nat) (L : List (Option mL)) (S : List mV) (M : Mm) (Q : mQ) : vc (n + 1) d 121 250 L S M Q = (X d 121 266 L S M Q) := nr rfl
set_option maxRecDepth 100000 in
theorem v121_253 (n d : Nat) (L : List (Option mL)) (S : List mV) (M : Mm) (Q : mQ) : vc (n + 1) d 121 253 L S M Q = (gR L 0 fun x => vc n d 121 254 L (.inr (.inr x) :: S) M Q) := nr rfl
set_option maxRecDepth 100000 in
theorem v121_254 (n d : Nat) (L : List (Option mL)) (S : List mV) (M : Mm) (Q : mQ) : vc (n + 1) d 121 254 L S M Q = (gR L 0 fun x => vc n d 121 255 L (.inr (.inr x) :: S) M Q) := nr rfl
set_option maxRecDepth 100000 in
theorem v121_255 (n d : Nat) (L : List (Option mL)) (S : List mV) (M : Mm) (Q : mQ) : vc (n + 1) d 121 255 L S M Q = (pA S fun a S => shO M a 10 (rrf M a 7 fun r => vc n d 121 258 L (.inr (.inr r) :: S) M Q)) := nr rfl
set_option maxRecDepth 100000 in
theorem v121_258 (n d : Nat) (L : List (Option mL)) (S : List mV) (M : Mm) (Q : mQ) : vc (n + 1) d 121 258 L S M Q = (gR L 0 fun x => vc n d 121 259 L (.inr (.inr x) :: S) M Q) := nr rfl
set_option maxRecDepth 100000 in
theorem v121_259 (n d : Nat) (L : List (Option mL)) (S : List mV) (M : Mm) (Q : mQ) : vc (n + 1) d 121 259 L S M Q = (pA S fun a S => shO M a 10 (vc n d 121 262 L (.inl (M.it a 9) :: S) M Q)) := nr rfl
set_option maxRecDepth 100000 in
theorem v121_262 (n d : Nat) (L : List (Option mL)) (S : List mV) (M : Mm) (Q : mQ) : vc (n + 1) d 121 262 L S M Q = (pI S fun i S => pA S fun a S => shA M a fun t k => (t = 40 ∨ t = 41) ∧ inB i k ∧ vc n d 121 263 L (.inl (M.it a i.toNatClampNeg) :: S) M Q) := nr rfl
set_option maxRecDepth 100000 in
theorem v121_263 (n d : Nat) (L : List (Option mL)) (S : List mV) (M : Mm) (Q : mQ) : vc (n + 1) d 121 263 L S M Q = (pAs 1 S fun as S => pA S fun a S => shO M a 10 (stk S ≤ 8 ∧ XC d 124 (.inr (some a) :: as) M (fun r M => ∃ x : Int32, r = some (.inl x) ∧ X d 121 266 L (.inl x :: S) M Q))) := nr rfl
set_option maxRecDepth 100000 in
theorem v121_266 (n d : Nat) (L : List (Option mL)) (S : List mV) (M : Mm) (Q : mQ) : vc (n + 1) d 121 266 L S M Q = (pI S fun x S => sL L 7 (some (.inl x)) fun L => vc n d 121 268 L S M Q) := nr rfl
set_option maxRecDepth 100000 in
theorem v121_268 (n d : Nat) (L : List (Option mL)) (S : List mV) (M : Mm) (Q : mQ) : vc (n + 1) d 121 268 L S M Q = (vc n d 121 269 L (.inl 0 :: S) M Q) := nr rfl
set_option maxRecDepth 100000 in
theorem v121_269 (n d : Nat) (L : List (Option mL)) (S : List mV) (M : Mm) (Q : mQ) : vc (n + 1) d 121 269 L S M Q = (pI S fun x S => sL L 8 (some (.inl x)) fun L => X d 121 271 L S M Q) := nr rfl
set_option maxRecDepth 100000 in
theorem v121_271 (n d : Nat) (L : List (Option mL)) (S : List mV) (M : Mm) (Q : mQ) : vc (n + 1) d 121 271 L S M Q = (gI L 8 fun x => vc n d 121 273 L (.inl x :: S) M Q) := nr rfl
set_option maxRecDepth 100000 in
theorem v121_273 (n d : Nat) (L : List (Option mL)) (S : List mV) (M : Mm) (Q : mQ) : vc (n + 1) d 121 273 L S M Q = (gI L 5 fun x => vc n d 121 275 L (.inl x :: S) M Q) := nr rfl
set_option maxRecDepth 100000 in
theorem v121_275 (n d : Nat) (L : List (Option mL)) (S : List mV) (M : Mm) (Q : mQ) : vc (n + 1) d 121 275 L S M Q = (pI S fun y S => pI S fun x S => (y ≤ x → vc n d 121 358 L S M Q) ∧ (¬ (y ≤ x) → vc n d 121 278 L S M Q)) := nr rfl
set_option maxRecDepth 100000 in
theorem v121_278 (n d : Nat) (L : List (Option mL)) (S : List mV) (M : Mm) (Q : mQ) : vc (n + 1) d 121 278 L S M Q = (gR L 0 fun x => vc n d 121 279 L (.inr (.inr x) :: S) M Q) := nr rfl
set_option maxRecDepth 100000 in
theorem v121_279 (n d : Nat) (L : List (Option mL)) (S : List mV) (M : Mm) (Q : mQ) : vc (n + 1) d 121 279 L S M Q = (pAs 0 S fun as S => pA S fun a S => shO M a 10 (stk S ≤ 8 ∧ XC d 125 (.inr (some a) :: as) M (fun r M => ∃ x : Int32, r = some (.inl x) ∧ X d 121 282 L (.inl x :: S) M Q))) := nr rfl
set_option maxRecDepth 100000 in
theorem v121_282 (n d : Nat) (L : List (Option mL)) (S : List mV) (M : Mm) (Q : mQ) : vc (n + 1) d 121 282 L S M Q = (pI S fun x S => sL L 9 (some (.inl x)) fun L => vc n d 121 284 L S M Q) := nr rfl
set_option maxRecDepth 100000 in
theorem v121_284 (n d : Nat) (L : List (Option mL)) (S : List mV) (M : Mm) (Q : mQ) : vc (n + 1) d 121 284 L S M Q = (gR L 0 fun x => vc n d 121 285 L (.inr (.inr x) :: S) M Q) := nr rfl
set_option maxRecDepth 100000 in
theorem v121_285 (n d : Nat) (L : List (Option mL)) (S : List mV) (M : Mm) (Q : mQ) : vc (n + 1) d 121 285 L S M Q = (pA S fun a S => shO M a 10 (rrf M a 20 fun r => vc n d 121 288 L (.inr (.inr r) :: S) M Q)) := nr rfl
set_option maxRecDepth 100000 in
theorem v121_288 (n d : Nat) (L : List (Option mL)) (S : List mV) (M : Mm) (Q : mQ) : vc (n + 1) d 121 288 L S M Q = (gI L 9 fun x => vc n d 121 290 L (.inl x :: S) M Q) := nr rfl
set_option maxRecDepth 100000 in
theorem v121_290 (n d : Nat) (L : List (Option mL)) (S : List mV) (M : Mm) (Q : mQ) : vc (n + 1) d 121 290 L S M Q = (gI L 6 fun x => vc n d 121 292 L (.inl x :: S) M Q) := nr rfl
set_option maxRecDepth 100000 in
theorem v121_292 (n d : Nat) (L : List (Option mL)) (S : List mV) (M : Mm) (Q : mQ) : vc (n + 1) d 121 292 L S M Q = (gI L 8 fun x => vc n d 121 294 L (.inl x :: S) M Q) := nr rfl
set_option maxRecDepth 100000 in
theorem v121_294 (n d : Nat) (L : List (Option mL)) (S : List mV) (M : Mm) (Q : mQ) : vc (n + 1) d 121 294 L S M Q = (pI S fun y S => pI S fun x S => vc n d 121 295 L (.inl (x + y) :: S) M Q) := nr rfl
set_option maxRecDepth 100000 in
theorem v121_295 (n d : Nat) (L : List (Option mL)) (S : List mV) (M : Mm) (Q : mQ) : vc (n + 1) d 121 295 L S M Q = (pI S fun x S => pI S fun i S => pA S fun a S => shA M a fun t k => t = 41 ∧ inB i k ∧ vc n d 121 296 L S (M.si a i.toNatClampNeg x) Q) := nr rfl
set_option maxRecDepth 100000 in
theorem v121_296 (n d : Nat) (L : List (Option mL)) (S : List mV) (M : Mm) (Q : mQ) : vc (n + 1) d 121 296 L S M Q = (vc n d 121 297 L (.inl 0 :: S) M Q) := nr rfl
set_option maxRecDepth 100000 in
theorem v121_297 (n d : Nat) (L : List (Option mL)) (S : List mV) (M : Mm) (Q : mQ) : vc (n + 1) d 121 297 L S M Q = (pI S fun x S => sL L 10 (some (.inl x)) fun L => X d 121 299 L S M Q) := nr rfl
set_option maxRecDepth 100000 in
theorem v121_299 (n d : Nat) (L : List (Option mL)) (S : List mV) (M : Mm) (Q : mQ) : vc (n + 1) d 121 299 L S M Q = (gI L 10 fun x => vc n d 121 301 L (.inl x :: S) M Q) := nr rfl
set_option maxRecDepth 100000 in
theorem v121_301 (n d : Nat) (L : List (Option mL)) (S : List mV) (M : Mm) (Q : mQ) : vc (n + 1) d 121 301 L S M Q = (vc n d 121 303 L (.inl 16 :: S) M Q) := nr rfl
set_option maxRecDepth 100000 in
theorem v121_303 (n d : Nat) (L : List (Option mL)) (S : List mV) (M : Mm) (Q : mQ) : vc (n + 1) d 121 303 L S M Q = (pI S fun y S => pI S fun x S => (y ≤ x → vc n d 121 338 L S M Q) ∧ (¬ (y ≤ x) → vc n d 121 306 L S M Q)) := nr rfl
set_option maxRecDepth 100000 in
theorem v121_306 (n d : Nat) (L : List (Option mL)) (S : List mV) (M : Mm) (Q : mQ) : vc (n + 1) d 121 306 L S M Q = (gR L 0 fun x => vc n d 121 307 L (.inr (.inr x) :: S) M Q) := nr rfl
set_option maxRecDepth 100000 in
theorem v121_307 (n d : Nat) (L : List (Option mL)) (S : List mV) (M : Mm) (Q : mQ) : vc (n + 1) d 121 307 L S M Q = (pA S fun a S => shO M a 10 (rrf M a 23 fun r => vc n d 121 310 L (.inr (.inr r) :: S) M Q)) := nr rfl
set_option maxRecDepth 100000 in
theorem v121_310 (n d : Nat) (L : List (Option mL)) (S : List mV) (M : Mm) (Q : mQ) : vc (n + 1) d 121 310 L S M Q = (vc n d 121 312 L (.inl 16 :: S) M Q) := nr rfl
set_option maxRecDepth 100000 in
theorem v121_312 (n d : Nat) (L : List (Option mL)) (S : List mV) (M : Mm) (Q : mQ) : vc (n + 1) d 121 312 L S M Q = (gI L 9 fun x => vc n d 121 314 L (.inl x :: S) M Q) := nr rfl
set_option maxRecDepth 100000 in
theorem v121_314 (n d : Nat) (L : List (Option mL)) (S : List mV) (M : Mm) (Q : mQ) : vc (n + 1) d 121 314 L S M Q = (pI S fun y S => pI S fun x S => vc n d 121 315 L (.inl (x * y) :: S) M Q) := nr rfl
set_option maxRecDepth 100000 in
theorem v121_315 (n d : Nat) (L : List (Option mL)) (S : List mV) (M : Mm) (Q : mQ) : vc (n + 1) d 121 315 L S M Q = (gI L 10 fun x => vc n d 121 317 L (.inl x :: S) M Q) := nr rfl
set_option maxRecDepth 100000 in
theorem v121_317 (n d : Nat) (L : List (Option mL)) (S : List mV) (M : Mm) (Q : mQ) : vc (n + 1) d 121 317 L S M Q = (pI S fun y S => pI S fun x S => vc n d 121 318 L (.inl (x + y) :: S) M Q) := nr rfl
set_option maxRecDepth 100000 in
theorem v121_318 (n d : Nat) (L : List (Option mL)) (S : List mV) (M : Mm) (Q : mQ) : vc (n + 1) d 121 318 L S M Q = (gR L 0 fun x => vc n d 121 319 L (.inr (.inr x) :: S) M Q) := nr rfl
set_option maxRecDepth 100000 in
theorem v121_319 (n d : Nat) (L : List (Option mL)) (S : List mV) (M : Mm) (Q : mQ) : vc (n + 1) d 121 319 L S M Q = (pA S fun a S => shO M a 10 (rrf M a 30 fun r => vc n d 121 322 L (.inr (.inr r) :: S) M Q)) := nr rfl
set_option maxRecDepth 100000 in
theorem v121_322 (n d : Nat) (L : List (Option mL)) (S : List mV) (M : Mm) (Q : mQ) : vc (n + 1) d 121 322 L S M Q = (vc n d 121 324 L (.inl 16 :: S) M Q) := nr rfl
set_option maxRecDepth 100000 in
theorem v121_324 (n d : Nat) (L : List (Option mL)) (S : List mV) (M : Mm) (Q : mQ) : vc (n + 1) d 121 324 L S M Q = (gI L 8 fun x => vc n d 121 326 L (.inl x :: S) M Q) := nr rfl
set_option maxRecDepth 100000 in
theorem v121_326 (n d : Nat) (L : List (Option mL)) (S : List mV) (M : Mm) (Q : mQ) : vc (n + 1) d 121 326 L S M Q = (pI S fun y S => pI S fun x S => vc n d 121 327 L (.inl (x * y) :: S) M Q) := nr rfl
set_option maxRecDepth 100000 in
theorem v121_327 (n d : Nat) (L : List (Option mL)) (S : List mV) (M : Mm) (Q : mQ) : vc (n + 1) d 121 327 L S M Q = (gI L 10 fun x => vc n d 121 329 L (.inl x :: S) M Q) := nr rfl
set_option maxRecDepth 100000 in
theorem v121_329 (n d : Nat) (L : List (Option mL)) (S : List mV) (M : Mm) (Q : mQ) : vc (n + 1) d 121 329 L S M Q = (pI S fun y S => pI S fun x S => vc n d 121 330 L (.inl (x + y) :: S) M Q) := nr rfl
set_option maxRecDepth 100000 in
theorem v121_330 (n d : Nat) (L : List (Option mL)) (S : List mV) (M : Mm) (Q : mQ) : vc (n + 1) d 121 330 L S M Q = (pI S fun i S => pA S fun a S => shA M a fun t k => (t = 42 ∨ t = 44) ∧ inB i k ∧ vc n d 121 331 L (.inl (M.it a i.toNatClampNeg) :: S) M Q) := nr rfl
set_option maxRecDepth 100000 in
theorem v121_331 (n d : Nat) (L : List (Option mL)) (S : List mV) (M : Mm) (Q : mQ) : vc (n + 1) d 121 331 L S M Q = (pI S fun x S => pI S fun i S => pA S fun a S => shA M a fun t k => (t = 42 ∨ t = 44) ∧ inB i k ∧ vc n d 121 332 L S (M.si a i.toNatClampNeg (bnar t x)) Q) := nr rfl
set_option maxRecDepth 100000 in
theorem v121_332 (n d : Nat) (L : List (Option mL)) (S : List mV) (M : Mm) (Q : mQ) : vc (n + 1) d 121 332 L S M Q = (gI L 10 fun x => sL L 10 (some (.inl (x + 1))) fun L => vc n d 121 335 L S M Q) := nr rfl
set_option maxRecDepth 100000 in
theorem v121_335 (n d : Nat) (L : List (Option mL)) (S : List mV) (M : Mm) (Q : mQ) : vc (n + 1) d 121 335 L S M Q = (X d 121 299 L S M Q) := nr rfl
set_option maxRecDepth 100000 in
theorem v121_338 (n d : Nat) (L : List (Option mL)) (S : List mV) (M : Mm) (Q : mQ) : vc (n + 1) d 121 338 L S M Q = (gI L 7 fun x => vc n d 121 340 L (.inl x :: S) M Q) := nr rfl
set_option maxRecDepth 100000 in
theorem v121_340 (n d : Nat) (L : List (Option mL)) (S : List mV) (M : Mm) (Q : mQ) : vc (n + 1) d 121 340 L S M Q = (vc n d 121 341 L (.inl (-1) :: S) M Q) := nr rfl
set_option maxRecDepth 100000 in
theorem v121_341 (n d : Nat) (L : List (Option mL)) (S : List mV) (M : Mm) (Q : mQ) : vc (n + 1) d 121 341 L S M Q = (pI S fun y S => pI S fun x S => (x = y → X d 121 352 L S M Q) ∧ (¬ (x = y) → vc n d 121 344 L S M Q)) := nr rfl
set_option maxRecDepth 100000 in
theorem v121_344 (n d : Nat) (L : List (Option mL)) (S : List mV) (M : Mm) (Q : mQ) : vc (n + 1) d 121 344 L S M Q = (gR L 0 fun x => vc n d 121 345 L (.inr (.inr x) :: S) M Q) := nr rfl
set_option maxRecDepth 100000 in
theorem v121_345 (n d : Nat) (L : List (Option mL)) (S : List mV) (M : Mm) (Q : mQ) : vc (n + 1) d 121 345 L S M Q = (gI L 9 fun x => vc n d 121 347 L (.inl x :: S) M Q) := nr rfl
set_option maxRecDepth 100000 in
theorem v121_347 (n d : Nat) (L : List (Option mL)) (S : List mV) (M : Mm) (Q : mQ) : vc (n + 1) d 121 347 L S M Q = (gI L 7 fun x => vc n d 121 349 L (.inl x :: S) M Q) := nr rfl
set_option maxRecDepth 100000 in
theorem v121_349 (n d : Nat) (L : List (Option mL)) (S : List mV) (M : Mm) (Q : mQ) : vc (n + 1) d 121 349 L S M Q = (pAs 2 S fun as S => pA S fun a S => shO M a 10 (stk S ≤ 8 ∧ XC d 126 (.inr (some a) :: as) M (fun r M => r = none ∧ X d 121 352 L S M Q))) := nr rfl
set_option maxRecDepth 100000 in
theorem v121_352 (n d : Nat) (L : List (Option mL)) (S : List mV) (M : Mm) (Q : mQ) : vc (n + 1) d 121 352 L S M Q = (gI L 8 fun x => sL L 8 (some (.inl (x + 1))) fun L => vc n d 121 355 L S M Q) := nr rfl
set_option maxRecDepth 100000 in
theorem v121_355 (n d : Nat) (L : List (Option mL)) (S : List mV) (M : Mm) (Q : mQ) : vc (n + 1) d 121 355 L S M Q = (X d 121 271 L S M Q) := nr rfl
set_option maxRecDepth 100000 in
theorem v121_358 (n d : Nat) (L : List (Option mL)) (S : List mV) (M : Mm) (Q : mQ) : vc (n + 1) d 121 358 L S M Q = (gI L 6 fun x => vc n d 121 360 L (.inl x :: S) M Q) := nr rfl
set_option maxRecDepth 100000 in
theorem v121_360 (n d : Nat) (L : List (Option mL)) (S : List mV) (M : Mm) (Q : mQ) : vc (n + 1) d 121 360 L S M Q = (pI S fun x S => S = [] ∧ (0 = 0 ∨ x = 0 ∨ x = 1) ∧ Q (some (.inl x)) M) := nr rfl
set_option maxRecDepth 100000 in
theorem v122_0 (n d : Nat) (L : List (Option mL)) (S : List mV) (M : Mm) (Q : mQ) : vc (n + 1) d 122 0 L S M Q = (gI L 0 fun x => vc n d 122 1 L (.inl x :: S) M Q) := nr rfl
set_option maxRecDepth 100000 in
theorem v122_1 (n d : Nat) (L : List (Option mL)) (S : List mV) (M : Mm) (Q : mQ) : vc (n + 1) d 122 1 L S M Q = (vc n d 122 3 L (.inl 8 :: S) M Q) := nr rfl
set_option maxRecDepth 100000 in
theorem v122_3 (n d : Nat) (L : List (Option mL)) (S : List mV) (M : Mm) (Q : mQ) : vc (n + 1) d 122 3 L S M Q = (pI S fun y S => pI S fun x S => vc n d 122 4 L (.inl (x + y) :: S) M Q) := nr rfl
set_option maxRecDepth 100000 in
theorem v122_4 (n d : Nat) (L : List (Option mL)) (S : List mV) (M : Mm) (Q : mQ) : vc (n + 1) d 122 4 L S M Q = (vc n d 122 6 L (.inl 15 :: S) M Q) := nr rfl
set_option maxRecDepth 100000 in
theorem v122_6 (n d : Nat) (L : List (Option mL)) (S : List mV) (M : Mm) (Q : mQ) : vc (n + 1) d 122 6 L S M Q = (pI S fun y S => pI S fun x S => vc n d 122 7 L (.inl (x + y) :: S) M Q) := nr rfl
set_option maxRecDepth 100000 in
theorem v122_7 (n d : Nat) (L : List (Option mL)) (S : List mV) (M : Mm) (Q : mQ) : vc (n + 1) d 122 7 L S M Q = (vc n d 122 9 L (.inl 16 :: S) M Q) := nr rfl
set_option maxRecDepth 100000 in
theorem v122_9 (n d : Nat) (L : List (Option mL)) (S : List mV) (M : Mm) (Q : mQ) : vc (n + 1) d 122 9 L S M Q = (pI S fun y S => pI S fun x S => ¬ y = 0 ∧ vc n d 122 10 L (.inl (x / y) :: S) M Q) := nr rfl
set_option maxRecDepth 100000 in
theorem v122_10 (n d : Nat) (L : List (Option mL)) (S : List mV) (M : Mm) (Q : mQ) : vc (n + 1) d 122 10 L S M Q = (pI S fun x S => S = [] ∧ (0 = 0 ∨ x = 0 ∨ x = 1) ∧ Q (some (.inl x)) M) := nr rfl
set_option maxRecDepth 100000 in
theorem v123_0 (n d : Nat) (L : List (Option mL)) (S : List mV) (M : Mm) (Q : mQ) : vc (n + 1) d 123 0 L S M Q = (vc n d 123 1 L (.inl 0 :: S) M Q) := nr rfl
set_option maxRecDepth 100000 in
theorem v123_1 (n d : Nat) (L : List (Option mL)) (S : List mV) (M : Mm) (Q : mQ) : vc (n + 1) d 123 1 L S M Q = (pI S fun x S => sL L 1 (some (.inl x)) fun L => vc n d 123 2 L S M Q) := nr rfl
set_option maxRecDepth 100000 in
theorem v123_2 (n d : Nat) (L : List (Option mL)) (S : List mV) (M : Mm) (Q : mQ) : vc (n + 1) d 123 2 L S M Q = (vc n d 123 3 L (.inl 0 :: S) M Q) := nr rfl
set_option maxRecDepth 100000 in
theorem v123_3 (n d : Nat) (L : List (Option mL)) (S : List mV) (M : Mm) (Q : mQ) : vc (n + 1) d 123 3 L S M Q = (pI S fun x S => sL L 2 (some (.inl x)) fun L => X d 123 4 L S M Q) := nr rfl
set_option maxRecDepth 100000 in
theorem v123_4 (n d : Nat) (L : List (Option mL)) (S : List mV) (M : Mm) (Q : mQ) : vc (n + 1) d 123 4 L S M Q = (gI L 2 fun x => vc n d 123 5 L (.inl x :: S) M Q) := nr rfl
set_option maxRecDepth 100000 in
theorem v123_5 (n d : Nat) (L : List (Option mL)) (S : List mV) (M : Mm) (Q : mQ) : vc (n + 1) d 123 5 L S M Q = (vc n d 123 7 L (.inl 8 :: S) M Q) := nr rfl
set_option maxRecDepth 100000 in
theorem v123_7 (n d : Nat) (L : List (Option mL)) (S : List mV) (M : Mm) (Q : mQ) : vc (n + 1) d 123 7 L S M Q = (pI S fun y S => pI S fun x S => (y ≤ x → vc n d 123 41 L S M Q) ∧ (¬ (y ≤ x) → vc n d 123 10 L S M Q)) := nr rfl
set_option maxRecDepth 100000 in
theorem v123_10 (n d : Nat) (L : List (Option mL)) (S : List mV) (M : Mm) (Q : mQ) : vc (n + 1) d 123 10 L S M Q = (gI L 1 fun x => vc n d 123 11 L (.inl x :: S) M Q) := nr rfl
set_option maxRecDepth 100000 in
theorem v123_11 (n d : Nat) (L : List (Option mL)) (S : List mV) (M : Mm) (Q : mQ) : vc (n + 1) d 123 11 L S M Q = (gR L 0 fun x => vc n d 123 12 L (.inr (.inr x) :: S) M Q) := nr rfl
set_option maxRecDepth 100000 in
theorem v123_12 (n d : Nat) (L : List (Option mL)) (S : List mV) (M : Mm) (Q : mQ) : vc (n + 1) d 123 12 L S M Q = (pA S fun a S => shO M a 10 (rrf M a 6 fun r => vc n d 123 15 L (.inr (.inr r) :: S) M Q)) := nr rfl
set_option maxRecDepth 100000 in
theorem v123_15 (n d : Nat) (L : List (Option mL)) (S : List mV) (M : Mm) (Q : mQ) : vc (n + 1) d 123 15 L S M Q = (gI L 2 fun x => vc n d 123 16 L (.inl x :: S) M Q) := nr rfl
set_option maxRecDepth 100000 in
theorem v123_16 (n d : Nat) (L : List (Option mL)) (S : List mV) (M : Mm) (Q : mQ) : vc (n + 1) d 123 16 L S M Q = (pI S fun i S => pA S fun a S => shA M a fun t k => (t = 40 ∨ t = 41) ∧ inB i k ∧ vc n d 123 17 L (.inl (M.it a i.toNatClampNeg) :: S) M Q) := nr rfl
set_option maxRecDepth 100000 in
theorem v123_17 (n d : Nat) (L : List (Option mL)) (S : List mV) (M : Mm) (Q : mQ) : vc (n + 1) d 123 17 L S M Q = (pI S fun x S => (¬ x = 0 → vc n d 123 32 L S M Q) ∧ (¬ (¬ x = 0) → vc n d 123 20 L S M Q)) := nr rfl
set_option maxRecDepth 100000 in
theorem v123_20 (n d : Nat) (L : List (Option mL)) (S : List mV) (M : Mm) (Q : mQ) : vc (n + 1) d 123 20 L S M Q = (gI L 2 fun x => vc n d 123 21 L (.inl x :: S) M Q) := nr rfl
set_option maxRecDepth 100000 in
theorem v123_21 (n d : Nat) (L : List (Option mL)) (S : List mV) (M : Mm) (Q : mQ) : vc (n + 1) d 123 21 L S M Q = (gR L 0 fun x => vc n d 123 22 L (.inr (.inr x) :: S) M Q) := nr rfl
set_option maxRecDepth 100000 in
theorem v123_22 (n d : Nat) (L : List (Option mL)) (S : List mV) (M : Mm) (Q : mQ) : vc (n + 1) d 123 22 L S M Q = (pA S fun a S => shO M a 10 (vc n d 123 25 L (.inl (M.it a 9) :: S) M Q)) := nr rfl
set_option maxRecDepth 100000 in
theorem v123_25 (n d : Nat) (L : List (Option mL)) (S : List mV) (M : Mm) (Q : mQ) : vc (n + 1) d 123 25 L S M Q = (pI S fun y S => pI S fun x S => (x = y → vc n d 123 32 L S M Q) ∧ (¬ (x = y) → vc n d 123 28 L S M Q)) := nr rfl
set_option maxRecDepth 100000 in
theorem v123_28 (n d : Nat) (L : List (Option mL)) (S : List mV) (M : Mm) (Q : mQ) : vc (n + 1) d 123 28 L S M Q = (vc n d 123 29 L (.inl 1 :: S) M Q) := nr rfl
set_option maxRecDepth 100000 in
theorem v123_29 (n d : Nat) (L : List (Option mL)) (S : List mV) (M : Mm) (Q : mQ) : vc (n + 1) d 123 29 L S M Q = (vc n d 123 33 L S M Q) := nr rfl
set_option maxRecDepth 100000 in
theorem v123_32 (n d : Nat) (L : List (Option mL)) (S : List mV) (M : Mm) (Q : mQ) : vc (n + 1) d 123 32 L S M Q = (vc n d 123 33 L (.inl 0 :: S) M Q) := nr rfl
set_option maxRecDepth 100000 in
theorem v123_33 (n d : Nat) (L : List (Option mL)) (S : List mV) (M : Mm) (Q : mQ) : vc (n + 1) d 123 33 L S M Q = (pI S fun y S => pI S fun x S => vc n d 123 34 L (.inl (x + y) :: S) M Q) := nr rfl
set_option maxRecDepth 100000 in
theorem v123_34 (n d : Nat) (L : List (Option mL)) (S : List mV) (M : Mm) (Q : mQ) : vc (n + 1) d 123 34 L S M Q = (pI S fun x S => sL L 1 (some (.inl x)) fun L => vc n d 123 35 L S M Q) := nr rfl
set_option maxRecDepth 100000 in
theorem v123_35 (n d : Nat) (L : List (Option mL)) (S : List mV) (M : Mm) (Q : mQ) : vc (n + 1) d 123 35 L S M Q = (gI L 2 fun x => sL L 2 (some (.inl (x + 1))) fun L => vc n d 123 38 L S M Q) := nr rfl
set_option maxRecDepth 100000 in
theorem v123_38 (n d : Nat) (L : List (Option mL)) (S : List mV) (M : Mm) (Q : mQ) : vc (n + 1) d 123 38 L S M Q = (X d 123 4 L S M Q) := nr rfl
set_option maxRecDepth 100000 in
theorem v123_41 (n d : Nat) (L : List (Option mL)) (S : List mV) (M : Mm) (Q : mQ) : vc (n + 1) d 123 41 L S M Q = (gI L 1 fun x => vc n d 123 42 L (.inl x :: S) M Q) := nr rfl
set_option maxRecDepth 100000 in
theorem v123_42 (n d : Nat) (L : List (Option mL)) (S : List mV) (M : Mm) (Q : mQ) : vc (n + 1) d 123 42 L S M Q = (pI S fun x S => S = [] ∧ (0 = 0 ∨ x = 0 ∨ x = 1) ∧ Q (some (.inl x)) M) := nr rfl
set_option maxRecDepth 100000 in
theorem v124_0 (n d : Nat) (L : List (Option mL)) (S : List mV) (M : Mm) (Q : mQ) : vc (n + 1) d 124 0 L S M Q = (vc n d 124 1 L (.inl 0 :: S) M Q) := nr rfl
set_option maxRecDepth 100000 in
theorem v124_1 (n d : Nat) (L : List (Option mL)) (S : List mV) (M : Mm) (Q : mQ) : vc (n + 1) d 124 1 L S M Q = (pI S fun x S => sL L 2 (some (.inl x)) fun L => X d 124 2 L S M Q) := nr rfl
set_option maxRecDepth 100000 in
theorem v124_2 (n d : Nat) (L : List (Option mL)) (S : List mV) (M : Mm) (Q : mQ) : vc (n + 1) d 124 2 L S M Q = (gI L 2 fun x => vc n d 124 3 L (.inl x :: S) M Q) := nr rfl
set_option maxRecDepth 100000 in
theorem v124_3 (n d : Nat) (L : List (Option mL)) (S : List mV) (M : Mm) (Q : mQ) : vc (n + 1) d 124 3 L S M Q = (gR L 0 fun x => vc n d 124 4 L (.inr (.inr x) :: S) M Q) := nr rfl
set_option maxRecDepth 100000 in
theorem v124_4 (n d : Nat) (L : List (Option mL)) (S : List mV) (M : Mm) (Q : mQ) : vc (n + 1) d 124 4 L S M Q = (pA S fun a S => shO M a 10 (vc n d 124 7 L (.inl (M.it a 14) :: S) M Q)) := nr rfl
set_option maxRecDepth 100000 in
theorem v124_7 (n d : Nat) (L : List (Option mL)) (S : List mV) (M : Mm) (Q : mQ) : vc (n + 1) d 124 7 L S M Q = (pI S fun y S => pI S fun x S => (y ≤ x → vc n d 124 48 L S M Q) ∧ (¬ (y ≤ x) → vc n d 124 10 L S M Q)) := nr rfl
set_option maxRecDepth 100000 in
theorem v124_10 (n d : Nat) (L : List (Option mL)) (S : List mV) (M : Mm) (Q : mQ) : vc (n + 1) d 124 10 L S M Q = (gR L 0 fun x => vc n d 124 11 L (.inr (.inr x) :: S) M Q) := nr rfl
set_option maxRecDepth 100000 in
theorem v124_11 (n d : Nat) (L : List (Option mL)) (S : List mV) (M : Mm) (Q : mQ) : vc (n + 1) d 124 11 L S M Q = (pA S fun a S => shO M a 10 (rrf M a 20 fun r => vc n d 124 14 L (.inr (.inr r) :: S) M Q)) := nr rfl
set_option maxRecDepth 100000 in
theorem v124_14 (n d : Nat) (L : List (Option mL)) (S : List mV) (M : Mm) (Q : mQ) : vc (n + 1) d 124 14 L S M Q = (gI L 2 fun x => vc n d 124 15 L (.inl x :: S) M Q) := nr rfl
set_option maxRecDepth 100000 in
theorem v124_15 (n d : Nat) (L : List (Option mL)) (S : List mV) (M : Mm) (Q : mQ) : vc (n + 1) d 124 15 L S M Q = (pI S fun i S => pA S fun a S => shA M a fun t k => (t = 40 ∨ t = 41) ∧ inB i k ∧ vc n d 124 16 L (.inl (M.it a i.toNatClampNeg) :: S) M Q) := nr rfl
set_option maxRecDepth 100000 in
theorem v124_16 (n d : Nat) (L : List (Option mL)) (S : List mV) (M : Mm) (Q : mQ) : vc (n + 1) d 124 16 L S M Q = (vc n d 124 19 L (.inl 128 :: S) M Q) := nr rfl
set_option maxRecDepth 100000 in
theorem v124_19 (n d : Nat) (L : List (Option mL)) (S : List mV) (M : Mm) (Q : mQ) : vc (n + 1) d 124 19 L S M Q = (pI S fun y S => pI S fun x S => (x < y → vc n d 124 42 L S M Q) ∧ (¬ (x < y) → vc n d 124 22 L S M Q)) := nr rfl
set_option maxRecDepth 100000 in
theorem v124_22 (n d : Nat) (L : List (Option mL)) (S : List mV) (M : Mm) (Q : mQ) : vc (n + 1) d 124 22 L S M Q = (gR L 0 fun x => vc n d 124 23 L (.inr (.inr x) :: S) M Q) := nr rfl
set_option maxRecDepth 100000 in
theorem v124_23 (n d : Nat) (L : List (Option mL)) (S : List mV) (M : Mm) (Q : mQ) : vc (n + 1) d 124 23 L S M Q = (pA S fun a S => shO M a 10 (rrf M a 24 fun r => vc n d 124 26 L (.inr (.inr r) :: S) M Q)) := nr rfl
set_option maxRecDepth 100000 in
theorem v124_26 (n d : Nat) (L : List (Option mL)) (S : List mV) (M : Mm) (Q : mQ) : vc (n + 1) d 124 26 L S M Q = (vc n d 124 28 L (.inl 18 :: S) M Q) := nr rfl
set_option maxRecDepth 100000 in
theorem v124_28 (n d : Nat) (L : List (Option mL)) (S : List mV) (M : Mm) (Q : mQ) : vc (n + 1) d 124 28 L S M Q = (gI L 2 fun x => vc n d 124 29 L (.inl x :: S) M Q) := nr rfl
set_option maxRecDepth 100000 in
theorem v124_29 (n d : Nat) (L : List (Option mL)) (S : List mV) (M : Mm) (Q : mQ) : vc (n + 1) d 124 29 L S M Q = (pI S fun y S => pI S fun x S => vc n d 124 30 L (.inl (x * y) :: S) M Q) := nr rfl
set_option maxRecDepth 100000 in
theorem v124_30 (n d : Nat) (L : List (Option mL)) (S : List mV) (M : Mm) (Q : mQ) : vc (n + 1) d 124 30 L S M Q = (pI S fun i S => pA S fun a S => shA M a fun t k => (t = 40 ∨ t = 41) ∧ inB i k ∧ vc n d 124 31 L (.inl (M.it a i.toNatClampNeg) :: S) M Q) := nr rfl
set_option maxRecDepth 100000 in
theorem v124_31 (n d : Nat) (L : List (Option mL)) (S : List mV) (M : Mm) (Q : mQ) : vc (n + 1) d 124 31 L S M Q = (gI L 1 fun x => vc n d 124 32 L (.inl x :: S) M Q) := nr rfl
set_option maxRecDepth 100000 in
theorem v124_32 (n d : Nat) (L : List (Option mL)) (S : List mV) (M : Mm) (Q : mQ) : vc (n + 1) d 124 32 L S M Q = (pI S fun y S => pI S fun x S => (¬ x = y → vc n d 124 42 L S M Q) ∧ (¬ (¬ x = y) → vc n d 124 35 L S M Q)) := nr rfl
set_option maxRecDepth 100000 in
theorem v124_35 (n d : Nat) (L : List (Option mL)) (S : List mV) (M : Mm) (Q : mQ) : vc (n + 1) d 124 35 L S M Q = (gR L 0 fun x => vc n d 124 36 L (.inr (.inr x) :: S) M Q) := nr rfl
set_option maxRecDepth 100000 in
theorem v124_36 (n d : Nat) (L : List (Option mL)) (S : List mV) (M : Mm) (Q : mQ) : vc (n + 1) d 124 36 L S M Q = (pA S fun a S => shO M a 10 (rrf M a 19 fun r => vc n d 124 39 L (.inr (.inr r) :: S) M Q)) := nr rfl
set_option maxRecDepth 100000 in
theorem v124_39 (n d : Nat) (L : List (Option mL)) (S : List mV) (M : Mm) (Q : mQ) : vc (n + 1) d 124 39 L S M Q = (gI L 2 fun x => vc n d 124 40 L (.inl x :: S) M Q) := nr rfl
set_option maxRecDepth 100000 in
theorem v124_40 (n d : Nat) (L : List (Option mL)) (S : List mV) (M : Mm) (Q : mQ) : vc (n + 1) d 124 40 L S M Q = (pI S fun i S => pA S fun a S => shA M a fun t k => (t = 40 ∨ t = 41) ∧ inB i k ∧ vc n d 124 41 L (.inl (M.it a i.toNatClampNeg) :: S) M Q) := nr rfl
set_option maxRecDepth 100000 in
theorem v124_41 (n d : Nat) (L : List (Option mL)) (S : List mV) (M : Mm) (Q : mQ) : vc (n + 1) d 124 41 L S M Q = (pI S fun x S => S = [] ∧ (0 = 0 ∨ x = 0 ∨ x = 1) ∧ Q (some (.inl x)) M) := nr rfl
set_option maxRecDepth 100000 in
theorem v124_42 (n d : Nat) (L : List (Option mL)) (S : List mV) (M : Mm) (Q : mQ) : vc (n + 1) d 124 42 L S M Q = (gI L 2 fun x => sL L 2 (some (.inl (x + 1))) fun L => vc n d 124 45 L S M Q) := nr rfl
set_option maxRecDepth 100000 in
theorem v124_45 (n d : Nat) (L : List (Option mL)) (S : List mV) (M : Mm) (Q : mQ) : vc (n + 1) d 124 45 L S M Q = (X d 124 2 L S M Q) := nr rfl
set_option maxRecDepth 100000 in
theorem v124_48 (n d : Nat) (L : List (Option mL)) (S : List mV) (M : Mm) (Q : mQ) : vc (n + 1) d 124 48 L S M Q = (vc n d 124 49 L (.inl (-1) :: S) M Q) := nr rfl
set_option maxRecDepth 100000 in
theorem v124_49 (n d : Nat) (L : List (Option mL)) (S : List mV) (M : Mm) (Q : mQ) : vc (n + 1) d 124 49 L S M Q = (pI S fun x S => S = [] ∧ (0 = 0 ∨ x = 0 ∨ x = 1) ∧ Q (some (.inl x)) M) := nr rfl
set_option maxRecDepth 100000 in
theorem v125_0 (n d : Nat) (L : List (Option mL)) (S : List mV) (M : Mm) (Q : mQ) : vc (n + 1) d 125 0 L S M Q = (gR L 0 fun x => vc n d 125 1 L (.inr (.inr x) :: S) M Q) := nr rfl
set_option maxRecDepth 100000 in
theorem v125_1 (n d : Nat) (L : List (Option mL)) (S : List mV) (M : Mm) (Q : mQ) : vc (n + 1) d 125 1 L S M Q = (pA S fun a S => shO M a 10 (rrf M a 19 fun r => vc n d 125 4 L (.inr (.inr r) :: S) M Q)) := nr rfl
set_option maxRecDepth 100000 in
theorem v125_4 (n d : Nat) (L : List (Option mL)) (S : List mV) (M : Mm) (Q : mQ) : vc (n + 1) d 125 4 L S M Q = (gR L 0 fun x => vc n d 125 5 L (.inr (.inr x) :: S) M Q) := nr rfl
set_option maxRecDepth 100000 in
theorem v125_5 (n d : Nat) (L : List (Option mL)) (S : List mV) (M : Mm) (Q : mQ) : vc (n + 1) d 125 5 L S M Q = (pA S fun a S => shO M a 10 (vc n d 125 8 L (.inl (M.it a 14) :: S) M Q)) := nr rfl
set_option maxRecDepth 100000 in
theorem v125_8 (n d : Nat) (L : List (Option mL)) (S : List mV) (M : Mm) (Q : mQ) : vc (n + 1) d 125 8 L S M Q = (gR L 0 fun x => vc n d 125 9 L (.inr (.inr x) :: S) M Q) := nr rfl
set_option maxRecDepth 100000 in
theorem v125_9 (n d : Nat) (L : List (Option mL)) (S : List mV) (M : Mm) (Q : mQ) : vc (n + 1) d 125 9 L S M Q = (pA S fun a S => shO M a 10 (vc n d 125 12 L (.inl (M.it a 15) :: S) M Q)) := nr rfl
set_option maxRecDepth 100000 in
theorem v125_12 (n d : Nat) (L : List (Option mL)) (S : List mV) (M : Mm) (Q : mQ) : vc (n + 1) d 125 12 L S M Q = (pI S fun x S => pI S fun i S => pA S fun a S => shA M a fun t k => t = 41 ∧ inB i k ∧ vc n d 125 13 L S (M.si a i.toNatClampNeg x) Q) := nr rfl
set_option maxRecDepth 100000 in
theorem v125_13 (n d : Nat) (L : List (Option mL)) (S : List mV) (M : Mm) (Q : mQ) : vc (n + 1) d 125 13 L S M Q = (gR L 0 fun x => vc n d 125 14 L (.inr (.inr x) :: S) M Q) := nr rfl
set_option maxRecDepth 100000 in
theorem v125_14 (n d : Nat) (L : List (Option mL)) (S : List mV) (M : Mm) (Q : mQ) : vc (n + 1) d 125 14 L S M Q = (pA S fun a S => shO M a 10 (rrf M a 21 fun r => vc n d 125 17 L (.inr (.inr r) :: S) M Q)) := nr rfl
set_option maxRecDepth 100000 in
theorem v125_17 (n d : Nat) (L : List (Option mL)) (S : List mV) (M : Mm) (Q : mQ) : vc (n + 1) d 125 17 L S M Q = (gR L 0 fun x => vc n d 125 18 L (.inr (.inr x) :: S) M Q) := nr rfl
set_option maxRecDepth 100000 in
theorem v125_18 (n d : Nat) (L : List (Option mL)) (S : List mV) (M : Mm) (Q : mQ) : vc (n + 1) d 125 18 L S M Q = (pA S fun a S => shO M a 10 (vc n d 125 21 L (.inl (M.it a 14) :: S) M Q)) := nr rfl
set_option maxRecDepth 100000 in
theorem v125_21 (n d : Nat) (L : List (Option mL)) (S : List mV) (M : Mm) (Q : mQ) : vc (n + 1) d 125 21 L S M Q = (vc n d 125 22 L (.inl 0 :: S) M Q) := nr rfl
set_option maxRecDepth 100000 in
theorem v125_22 (n d : Nat) (L : List (Option mL)) (S : List mV) (M : Mm) (Q : mQ) : vc (n + 1) d 125 22 L S M Q = (pI S fun x S => pI S fun i S => pA S fun a S => shA M a fun t k => t = 41 ∧ inB i k ∧ vc n d 125 23 L S (M.si a i.toNatClampNeg x) Q) := nr rfl
set_option maxRecDepth 100000 in
theorem v125_23 (n d : Nat) (L : List (Option mL)) (S : List mV) (M : Mm) (Q : mQ) : vc (n + 1) d 125 23 L S M Q = (gR L 0 fun x => vc n d 125 24 L (.inr (.inr x) :: S) M Q) := nr rfl
set_option maxRecDepth 100000 in
theorem v125_24 (n d : Nat) (L : List (Option mL)) (S : List mV) (M : Mm) (Q : mQ) : vc (n + 1) d 125 24 L S M Q = (pC S fun v S => vc n d 125 25 L (v :: v :: S) M Q) := nr rfl
set_option maxRecDepth 100000 in
theorem v125_25 (n d : Nat) (L : List (Option mL)) (S : List mV) (M : Mm) (Q : mQ) : vc (n + 1) d 125 25 L S M Q = (pA S fun a S => shO M a 10 (vc n d 125 28 L (.inl (M.it a 14) :: S) M Q)) := nr rfl
set_option maxRecDepth 100000 in
theorem v125_28 (n d : Nat) (L : List (Option mL)) (S : List mV) (M : Mm) (Q : mQ) : vc (n + 1) d 125 28 L S M Q = (vc n d 125 29 L (.inl 1 :: S) M Q) := nr rfl
set_option maxRecDepth 100000 in
theorem v125_29 (n d : Nat) (L : List (Option mL)) (S : List mV) (M : Mm) (Q : mQ) : vc (n + 1) d 125 29 L S M Q = (pI S fun y S => pI S fun x S => vc n d 125 30 L (.inl (x + y) :: S) M Q) := nr rfl
set_option maxRecDepth 100000 in
theorem v125_30 (n d : Nat) (L : List (Option mL)) (S : List mV) (M : Mm) (Q : mQ) : vc (n + 1) d 125 30 L S M Q = (pI S fun x S => pA S fun a S => shO M a 10 (vc n d 125 33 L S (M.si a 14 x) Q)) := nr rfl
set_option maxRecDepth 100000 in
theorem v125_33 (n d : Nat) (L : List (Option mL)) (S : List mV) (M : Mm) (Q : mQ) : vc (n + 1) d 125 33 L S M Q = (gR L 0 fun x => vc n d 125 34 L (.inr (.inr x) :: S) M Q) := nr rfl
set_option maxRecDepth 100000 in
theorem v125_34 (n d : Nat) (L : List (Option mL)) (S : List mV) (M : Mm) (Q : mQ) : vc (n + 1) d 125 34 L S M Q = (pC S fun v S => vc n d 125 35 L (v :: v :: S) M Q) := nr rfl
set_option maxRecDepth 100000 in
theorem v125_35 (n d : Nat) (L : List (Option mL)) (S : List mV) (M : Mm) (Q : mQ) : vc (n + 1) d 125 35 L S M Q = (pA S fun a S => shO M a 10 (vc n d 125 38 L (.inl (M.it a 15) :: S) M Q)) := nr rfl
set_option maxRecDepth 100000 in
theorem v125_38 (n d : Nat) (L : List (Option mL)) (S : List mV) (M : Mm) (Q : mQ) : vc (n + 1) d 125 38 L S M Q = (vc n d 125 39 L (.inl 1 :: S) M Q) := nr rfl
set_option maxRecDepth 100000 in
theorem v125_39 (n d : Nat) (L : List (Option mL)) (S : List mV) (M : Mm) (Q : mQ) : vc (n + 1) d 125 39 L S M Q = (pI S fun y S => pI S fun x S => vc n d 125 40 L (.inl (x + y) :: S) M Q) := nr rfl
set_option maxRecDepth 100000 in
theorem v125_40 (n d : Nat) (L : List (Option mL)) (S : List mV) (M : Mm) (Q : mQ) : vc (n + 1) d 125 40 L S M Q = (pI S fun x S => pA S fun a S => shO M a 10 (vc n d 125 43 L S (M.si a 15 x) Q)) := nr rfl
set_option maxRecDepth 100000 in
theorem v125_43 (n d : Nat) (L : List (Option mL)) (S : List mV) (M : Mm) (Q : mQ) : vc (n + 1) d 125 43 L S M Q = (gR L 0 fun x => vc n d 125 44 L (.inr (.inr x) :: S) M Q) := nr rfl
set_option maxRecDepth 100000 in
theorem v125_44 (n d : Nat) (L : List (Option mL)) (S : List mV) (M : Mm) (Q : mQ) : vc (n + 1) d 125 44 L S M Q = (pA S fun a S => shO M a 10 (vc n d 125 47 L (.inl (M.it a 14) :: S) M Q)) := nr rfl
set_option maxRecDepth 100000 in
theorem v125_47 (n d : Nat) (L : List (Option mL)) (S : List mV) (M : Mm) (Q : mQ) : vc (n + 1) d 125 47 L S M Q = (vc n d 125 48 L (.inl 1 :: S) M Q) := nr rfl
set_option maxRecDepth 100000 in
theorem v125_48 (n d : Nat) (L : List (Option mL)) (S : List mV) (M : Mm) (Q : mQ) : vc (n + 1) d 125 48 L S M Q = (pI S fun y S => pI S fun x S => vc n d 125 49 L (.inl (x - y) :: S) M Q) := nr rfl
set_option maxRecDepth 100000 in
theorem v125_49 (n d : Nat) (L : List (Option mL)) (S : List mV) (M : Mm) (Q : mQ) : vc (n + 1) d 125 49 L S M Q = (pI S fun x S => S = [] ∧ (0 = 0 ∨ x = 0 ∨ x = 1) ∧ Q (some (.inl x)) M) := nr rfl
set_option maxRecDepth 100000 in
theorem v126_0 (n d : Nat) (L : List (Option mL)) (S : List mV) (M : Mm) (Q : mQ) : vc (n + 1) d 126 0 L S M Q = (vc n d 126 1 L (.inl 0 :: S) M Q) := nr rfl
set_option maxRecDepth 100000 in
theorem v126_1 (n d : Nat) (L : List (Option mL)) (S : List mV) (M : Mm) (Q : mQ) : vc (n + 1) d 126 1 L S M Q = (pI S fun x S => sL L 3 (some (.inl x)) fun L => X d 126 2 L S M Q) := nr rfl
set_option maxRecDepth 100000 in
theorem v126_2 (n d : Nat) (L : List (Option mL)) (S : List mV) (M : Mm) (Q : mQ) : vc (n + 1) d 126 2 L S M Q = (gI L 3 fun x => vc n d 126 3 L (.inl x :: S) M Q) := nr rfl
set_option maxRecDepth 100000 in
theorem v126_3 (n d : Nat) (L : List (Option mL)) (S : List mV) (M : Mm) (Q : mQ) : vc (n + 1) d 126 3 L S M Q = (gR L 0 fun x => vc n d 126 4 L (.inr (.inr x) :: S) M Q) := nr rfl
set_option maxRecDepth 100000 in
theorem v126_4 (n d : Nat) (L : List (Option mL)) (S : List mV) (M : Mm) (Q : mQ) : vc (n + 1) d 126 4 L S M Q = (pA S fun a S => shO M a 10 (rrf M a 21 fun r => vc n d 126 7 L (.inr (.inr r) :: S) M Q)) := nr rfl
set_option maxRecDepth 100000 in
theorem v126_7 (n d : Nat) (L : List (Option mL)) (S : List mV) (M : Mm) (Q : mQ) : vc (n + 1) d 126 7 L S M Q = (gI L 1 fun x => vc n d 126 8 L (.inl x :: S) M Q) := nr rfl
set_option maxRecDepth 100000 in
theorem v126_8 (n d : Nat) (L : List (Option mL)) (S : List mV) (M : Mm) (Q : mQ) : vc (n + 1) d 126 8 L S M Q = (pI S fun i S => pA S fun a S => shA M a fun t k => (t = 40 ∨ t = 41) ∧ inB i k ∧ vc n d 126 9 L (.inl (M.it a i.toNatClampNeg) :: S) M Q) := nr rfl
set_option maxRecDepth 100000 in
theorem v126_9 (n d : Nat) (L : List (Option mL)) (S : List mV) (M : Mm) (Q : mQ) : vc (n + 1) d 126 9 L S M Q = (pI S fun y S => pI S fun x S => (y ≤ x → vc n d 126 35 L S M Q) ∧ (¬ (y ≤ x) → vc n d 126 12 L S M Q)) := nr rfl
set_option maxRecDepth 100000 in
theorem v126_12 (n d : Nat) (L : List (Option mL)) (S : List mV) (M : Mm) (Q : mQ) : vc (n + 1) d 126 12 L S M Q = (gR L 0 fun x => vc n d 126 13 L (.inr (.inr x) :: S) M Q) := nr rfl
set_option maxRecDepth 100000 in
theorem v126_13 (n d : Nat) (L : List (Option mL)) (S : List mV) (M : Mm) (Q : mQ) : vc (n + 1) d 126 13 L S M Q = (pA S fun a S => shO M a 10 (rrf M a 22 fun r => vc n d 126 16 L (.inr (.inr r) :: S) M Q)) := nr rfl
set_option maxRecDepth 100000 in
theorem v126_16 (n d : Nat) (L : List (Option mL)) (S : List mV) (M : Mm) (Q : mQ) : vc (n + 1) d 126 16 L S M Q = (vc n d 126 19 L (.inl 200 :: S) M Q) := nr rfl
set_option maxRecDepth 100000 in
theorem v126_19 (n d : Nat) (L : List (Option mL)) (S : List mV) (M : Mm) (Q : mQ) : vc (n + 1) d 126 19 L S M Q = (gI L 1 fun x => vc n d 126 20 L (.inl x :: S) M Q) := nr rfl
set_option maxRecDepth 100000 in
theorem v126_20 (n d : Nat) (L : List (Option mL)) (S : List mV) (M : Mm) (Q : mQ) : vc (n + 1) d 126 20 L S M Q = (pI S fun y S => pI S fun x S => vc n d 126 21 L (.inl (x * y) :: S) M Q) := nr rfl
set_option maxRecDepth 100000 in
theorem v126_21 (n d : Nat) (L : List (Option mL)) (S : List mV) (M : Mm) (Q : mQ) : vc (n + 1) d 126 21 L S M Q = (gI L 3 fun x => vc n d 126 22 L (.inl x :: S) M Q) := nr rfl
set_option maxRecDepth 100000 in
theorem v126_22 (n d : Nat) (L : List (Option mL)) (S : List mV) (M : Mm) (Q : mQ) : vc (n + 1) d 126 22 L S M Q = (pI S fun y S => pI S fun x S => vc n d 126 23 L (.inl (x + y) :: S) M Q) := nr rfl
set_option maxRecDepth 100000 in
theorem v126_23 (n d : Nat) (L : List (Option mL)) (S : List mV) (M : Mm) (Q : mQ) : vc (n + 1) d 126 23 L S M Q = (pI S fun i S => pA S fun a S => shA M a fun t k => (t = 40 ∨ t = 41) ∧ inB i k ∧ vc n d 126 24 L (.inl (M.it a i.toNatClampNeg) :: S) M Q) := nr rfl
set_option maxRecDepth 100000 in
theorem v126_24 (n d : Nat) (L : List (Option mL)) (S : List mV) (M : Mm) (Q : mQ) : vc (n + 1) d 126 24 L S M Q = (gI L 2 fun x => vc n d 126 25 L (.inl x :: S) M Q) := nr rfl
set_option maxRecDepth 100000 in
theorem v126_25 (n d : Nat) (L : List (Option mL)) (S : List mV) (M : Mm) (Q : mQ) : vc (n + 1) d 126 25 L S M Q = (pI S fun y S => pI S fun x S => (¬ x = y → vc n d 126 29 L S M Q) ∧ (¬ (¬ x = y) → vc n d 126 28 L S M Q)) := nr rfl
set_option maxRecDepth 100000 in
theorem v126_28 (n d : Nat) (L : List (Option mL)) (S : List mV) (M : Mm) (Q : mQ) : vc (n + 1) d 126 28 L S M Q = (S = [] ∧ Q none M) := nr rfl
set_option maxRecDepth 100000 in
theorem v126_29 (n d : Nat) (L : List (Option mL)) (S : List mV) (M : Mm) (Q : mQ) : vc (n + 1) d 126 29 L S M Q = (gI L 3 fun x => sL L 3 (some (.inl (x + 1))) fun L => vc n d 126 32 L S M Q) := nr rfl
set_option maxRecDepth 100000 in
theorem v126_32 (n d : Nat) (L : List (Option mL)) (S : List mV) (M : Mm) (Q : mQ) : vc (n + 1) d 126 32 L S M Q = (X d 126 2 L S M Q) := nr rfl
set_option maxRecDepth 100000 in
theorem v126_35 (n d : Nat) (L : List (Option mL)) (S : List mV) (M : Mm) (Q : mQ) : vc (n + 1) d 126 35 L S M Q = (gR L 0 fun x => vc n d 126 36 L (.inr (.inr x) :: S) M Q) := nr rfl
set_option maxRecDepth 100000 in
theorem v126_36 (n d : Nat) (L : List (Option mL)) (S : List mV) (M : Mm) (Q : mQ) : vc (n + 1) d 126 36 L S M Q = (pA S fun a S => shO M a 10 (rrf M a 22 fun r => vc n d 126 39 L (.inr (.inr r) :: S) M Q)) := nr rfl
set_option maxRecDepth 100000 in
theorem v126_39 (n d : Nat) (L : List (Option mL)) (S : List mV) (M : Mm) (Q : mQ) : vc (n + 1) d 126 39 L S M Q = (vc n d 126 42 L (.inl 200 :: S) M Q) := nr rfl
set_option maxRecDepth 100000 in
theorem v126_42 (n d : Nat) (L : List (Option mL)) (S : List mV) (M : Mm) (Q : mQ) : vc (n + 1) d 126 42 L S M Q = (gI L 1 fun x => vc n d 126 43 L (.inl x :: S) M Q) := nr rfl
set_option maxRecDepth 100000 in
theorem v126_43 (n d : Nat) (L : List (Option mL)) (S : List mV) (M : Mm) (Q : mQ) : vc (n + 1) d 126 43 L S M Q = (pI S fun y S => pI S fun x S => vc n d 126 44 L (.inl (x * y) :: S) M Q) := nr rfl
set_option maxRecDepth 100000 in
theorem v126_44 (n d : Nat) (L : List (Option mL)) (S : List mV) (M : Mm) (Q : mQ) : vc (n + 1) d 126 44 L S M Q = (gR L 0 fun x => vc n d 126 45 L (.inr (.inr x) :: S) M Q) := nr rfl
set_option maxRecDepth 100000 in
theorem v126_45 (n d : Nat) (L : List (Option mL)) (S : List mV) (M : Mm) (Q : mQ) : vc (n + 1) d 126 45 L S M Q = (pA S fun a S => shO M a 10 (rrf M a 21 fun r => vc n d 126 48 L (.inr (.inr r) :: S) M Q)) := nr rfl
set_option maxRecDepth 100000 in
theorem v126_48 (n d : Nat) (L : List (Option mL)) (S : List mV) (M : Mm) (Q : mQ) : vc (n + 1) d 126 48 L S M Q = (gI L 1 fun x => vc n d 126 49 L (.inl x :: S) M Q) := nr rfl
set_option maxRecDepth 100000 in
theorem v126_49 (n d : Nat) (L : List (Option mL)) (S : List mV) (M : Mm) (Q : mQ) : vc (n + 1) d 126 49 L S M Q = (pI S fun i S => pA S fun a S => shA M a fun t k => (t = 40 ∨ t = 41) ∧ inB i k ∧ vc n d 126 50 L (.inl (M.it a i.toNatClampNeg) :: S) M Q) := nr rfl
set_option maxRecDepth 100000 in
theorem v126_50 (n d : Nat) (L : List (Option mL)) (S : List mV) (M : Mm) (Q : mQ) : vc (n + 1) d 126 50 L S M Q = (pI S fun y S => pI S fun x S => vc n d 126 51 L (.inl (x + y) :: S) M Q) := nr rfl
set_option maxRecDepth 100000 in
theorem v126_51 (n d : Nat) (L : List (Option mL)) (S : List mV) (M : Mm) (Q : mQ) : vc (n + 1) d 126 51 L S M Q = (gI L 2 fun x => vc n d 126 52 L (.inl x :: S) M Q) := nr rfl
set_option maxRecDepth 100000 in
theorem v126_52 (n d : Nat) (L : List (Option mL)) (S : List mV) (M : Mm) (Q : mQ) : vc (n + 1) d 126 52 L S M Q = (pI S fun x S => pI S fun i S => pA S fun a S => shA M a fun t k => t = 41 ∧ inB i k ∧ vc n d 126 53 L S (M.si a i.toNatClampNeg x) Q) := nr rfl
set_option maxRecDepth 100000 in
theorem v126_53 (n d : Nat) (L : List (Option mL)) (S : List mV) (M : Mm) (Q : mQ) : vc (n + 1) d 126 53 L S M Q = (gR L 0 fun x => vc n d 126 54 L (.inr (.inr x) :: S) M Q) := nr rfl
set_option maxRecDepth 100000 in
theorem v126_54 (n d : Nat) (L : List (Option mL)) (S : List mV) (M : Mm) (Q : mQ) : vc (n + 1) d 126 54 L S M Q = (pA S fun a S => shO M a 10 (rrf M a 21 fun r => vc n d 126 57 L (.inr (.inr r) :: S) M Q)) := nr rfl
set_option maxRecDepth 100000 in
theorem v126_57 (n d : Nat) (L : List (Option mL)) (S : List mV) (M : Mm) (Q : mQ) : vc (n + 1) d 126 57 L S M Q = (gI L 1 fun x => vc n d 126 58 L (.inl x :: S) M Q) := nr rfl
set_option maxRecDepth 100000 in
theorem v126_58 (n d : Nat) (L : List (Option mL)) (S : List mV) (M : Mm) (Q : mQ) : vc (n + 1) d 126 58 L S M Q = (pC S fun v S => pC S fun w S => vc n d 126 59 L (v :: w :: v :: w :: S) M Q) := nr rfl
set_option maxRecDepth 100000 in
theorem v126_59 (n d : Nat) (L : List (Option mL)) (S : List mV) (M : Mm) (Q : mQ) : vc (n + 1) d 126 59 L S M Q = (pI S fun i S => pA S fun a S => shA M a fun t k => (t = 40 ∨ t = 41) ∧ inB i k ∧ vc n d 126 60 L (.inl (M.it a i.toNatClampNeg) :: S) M Q) := nr rfl
set_option maxRecDepth 100000 in
theorem v126_60 (n d : Nat) (L : List (Option mL)) (S : List mV) (M : Mm) (Q : mQ) : vc (n + 1) d 126 60 L S M Q = (vc n d 126 61 L (.inl 1 :: S) M Q) := nr rfl
set_option maxRecDepth 100000 in
theorem v126_61 (n d : Nat) (L : List (Option mL)) (S : List mV) (M : Mm) (Q : mQ) : vc (n + 1) d 126 61 L S M Q = (pI S fun y S => pI S fun x S => vc n d 126 62 L (.inl (x + y) :: S) M Q) := nr rfl
set_option maxRecDepth 100000 in
theorem v126_62 (n d : Nat) (L : List (Option mL)) (S : List mV) (M : Mm) (Q : mQ) : vc (n + 1) d 126 62 L S M Q = (pI S fun x S => pI S fun i S => pA S fun a S => shA M a fun t k => t = 41 ∧ inB i k ∧ vc n d 126 63 L S (M.si a i.toNatClampNeg x) Q) := nr rfl
set_option maxRecDepth 100000 in
theorem v126_63 (n d : Nat) (L : List (Option mL)) (S : List mV) (M : Mm) (Q : mQ) : vc (n + 1) d 126 63 L S M Q = (S = [] ∧ Q none M) := nr rfl
set_option maxRecDepth 100000 in
theorem v127_0 (n d : Nat) (L : List (Option mL)) (S : List mV) (M : Mm) (Q : mQ) : vc (n + 1) d 127 0 L S M Q = (vc n d 127 1 L (.inl 0 :: S) M Q) := nr rfl
set_option maxRecDepth 100000 in
theorem v127_1 (n d : Nat) (L : List (Option mL)) (S : List mV) (M : Mm) (Q : mQ) : vc (n + 1) d 127 1 L S M Q = (pI S fun x S => sL L 2 (some (.inl x)) fun L => vc n d 127 2 L S M Q) := nr rfl
set_option maxRecDepth 100000 in
theorem v127_2 (n d : Nat) (L : List (Option mL)) (S : List mV) (M : Mm) (Q : mQ) : vc (n + 1) d 127 2 L S M Q = (vc n d 127 3 L (.inl 0 :: S) M Q) := nr rfl
set_option maxRecDepth 100000 in
theorem v127_3 (n d : Nat) (L : List (Option mL)) (S : List mV) (M : Mm) (Q : mQ) : vc (n + 1) d 127 3 L S M Q = (pI S fun x S => sL L 3 (some (.inl x)) fun L => X d 127 4 L S M Q) := nr rfl
set_option maxRecDepth 100000 in
theorem v127_4 (n d : Nat) (L : List (Option mL)) (S : List mV) (M : Mm) (Q : mQ) : vc (n + 1) d 127 4 L S M Q = (gI L 3 fun x => vc n d 127 5 L (.inl x :: S) M Q) := nr rfl
set_option maxRecDepth 100000 in
theorem v127_5 (n d : Nat) (L : List (Option mL)) (S : List mV) (M : Mm) (Q : mQ) : vc (n + 1) d 127 5 L S M Q = (vc n d 127 7 L (.inl 8 :: S) M Q) := nr rfl
set_option maxRecDepth 100000 in
theorem v127_7 (n d : Nat) (L : List (Option mL)) (S : List mV) (M : Mm) (Q : mQ) : vc (n + 1) d 127 7 L S M Q = (pI S fun y S => pI S fun x S => (y ≤ x → vc n d 127 46 L S M Q) ∧ (¬ (y ≤ x) → vc n d 127 10 L S M Q)) := nr rfl
set_option maxRecDepth 100000 in
theorem v127_10 (n d : Nat) (L : List (Option mL)) (S : List mV) (M : Mm) (Q : mQ) : vc (n + 1) d 127 10 L S M Q = (gR L 0 fun x => vc n d 127 11 L (.inr (.inr x) :: S) M Q) := nr rfl
set_option maxRecDepth 100000 in
theorem v127_11 (n d : Nat) (L : List (Option mL)) (S : List mV) (M : Mm) (Q : mQ) : vc (n + 1) d 127 11 L S M Q = (pA S fun a S => shO M a 10 (rrf M a 6 fun r => vc n d 127 14 L (.inr (.inr r) :: S) M Q)) := nr rfl
set_option maxRecDepth 100000 in
theorem v127_14 (n d : Nat) (L : List (Option mL)) (S : List mV) (M : Mm) (Q : mQ) : vc (n + 1) d 127 14 L S M Q = (gI L 3 fun x => vc n d 127 15 L (.inl x :: S) M Q) := nr rfl
set_option maxRecDepth 100000 in
theorem v127_15 (n d : Nat) (L : List (Option mL)) (S : List mV) (M : Mm) (Q : mQ) : vc (n + 1) d 127 15 L S M Q = (gR L 0 fun x => vc n d 127 16 L (.inr (.inr x) :: S) M Q) := nr rfl
set_option maxRecDepth 100000 in
theorem v127_16 (n d : Nat) (L : List (Option mL)) (S : List mV) (M : Mm) (Q : mQ) : vc (n + 1) d 127 16 L S M Q = (pA S fun a S => shO M a 10 (rrf M a 8 fun r => vc n d 127 19 L (.inr (.inr r) :: S) M Q)) := nr rfl
set_option maxRecDepth 100000 in
theorem v127_19 (n d : Nat) (L : List (Option mL)) (S : List mV) (M : Mm) (Q : mQ) : vc (n + 1) d 127 19 L S M Q = (gI L 2 fun x => vc n d 127 20 L (.inl x :: S) M Q) := nr rfl
set_option maxRecDepth 100000 in
theorem v127_20 (n d : Nat) (L : List (Option mL)) (S : List mV) (M : Mm) (Q : mQ) : vc (n + 1) d 127 20 L S M Q = (gI L 2 fun x => sL L 2 (some (.inl (x + 1))) fun L => vc n d 127 23 L S M Q) := nr rfl
set_option maxRecDepth 100000 in
theorem v127_23 (n d : Nat) (L : List (Option mL)) (S : List mV) (M : Mm) (Q : mQ) : vc (n + 1) d 127 23 L S M Q = (pI S fun i S => pA S fun a S => shA M a fun t k => (t = 40 ∨ t = 41) ∧ inB i k ∧ vc n d 127 24 L (.inl (M.it a i.toNatClampNeg) :: S) M Q) := nr rfl
set_option maxRecDepth 100000 in
theorem v127_24 (n d : Nat) (L : List (Option mL)) (S : List mV) (M : Mm) (Q : mQ) : vc (n + 1) d 127 24 L S M Q = (pI S fun x S => pI S fun i S => pA S fun a S => shA M a fun t k => t = 41 ∧ inB i k ∧ vc n d 127 25 L S (M.si a i.toNatClampNeg x) Q) := nr rfl
set_option maxRecDepth 100000 in
theorem v127_25 (n d : Nat) (L : List (Option mL)) (S : List mV) (M : Mm) (Q : mQ) : vc (n + 1) d 127 25 L S M Q = (gR L 0 fun x => vc n d 127 26 L (.inr (.inr x) :: S) M Q) := nr rfl
set_option maxRecDepth 100000 in
theorem v127_26 (n d : Nat) (L : List (Option mL)) (S : List mV) (M : Mm) (Q : mQ) : vc (n + 1) d 127 26 L S M Q = (pA S fun a S => shO M a 10 (rrf M a 7 fun r => vc n d 127 29 L (.inr (.inr r) :: S) M Q)) := nr rfl
set_option maxRecDepth 100000 in
theorem v127_29 (n d : Nat) (L : List (Option mL)) (S : List mV) (M : Mm) (Q : mQ) : vc (n + 1) d 127 29 L S M Q = (gI L 3 fun x => vc n d 127 30 L (.inl x :: S) M Q) := nr rfl
set_option maxRecDepth 100000 in
theorem v127_30 (n d : Nat) (L : List (Option mL)) (S : List mV) (M : Mm) (Q : mQ) : vc (n + 1) d 127 30 L S M Q = (gR L 0 fun x => vc n d 127 31 L (.inr (.inr x) :: S) M Q) := nr rfl
set_option maxRecDepth 100000 in
theorem v127_31 (n d : Nat) (L : List (Option mL)) (S : List mV) (M : Mm) (Q : mQ) : vc (n + 1) d 127 31 L S M Q = (pA S fun a S => shO M a 10 (rrf M a 8 fun r => vc n d 127 34 L (.inr (.inr r) :: S) M Q)) := nr rfl
set_option maxRecDepth 100000 in
theorem v127_34 (n d : Nat) (L : List (Option mL)) (S : List mV) (M : Mm) (Q : mQ) : vc (n + 1) d 127 34 L S M Q = (gI L 2 fun x => vc n d 127 35 L (.inl x :: S) M Q) := nr rfl
set_option maxRecDepth 100000 in
theorem v127_35 (n d : Nat) (L : List (Option mL)) (S : List mV) (M : Mm) (Q : mQ) : vc (n + 1) d 127 35 L S M Q = (gI L 2 fun x => sL L 2 (some (.inl (x + 1))) fun L => vc n d 127 38 L S M Q) := nr rfl
set_option maxRecDepth 100000 in
theorem v127_38 (n d : Nat) (L : List (Option mL)) (S : List mV) (M : Mm) (Q : mQ) : vc (n + 1) d 127 38 L S M Q = (pI S fun i S => pA S fun a S => shA M a fun t k => (t = 40 ∨ t = 41) ∧ inB i k ∧ vc n d 127 39 L (.inl (M.it a i.toNatClampNeg) :: S) M Q) := nr rfl
set_option maxRecDepth 100000 in
theorem v127_39 (n d : Nat) (L : List (Option mL)) (S : List mV) (M : Mm) (Q : mQ) : vc (n + 1) d 127 39 L S M Q = (pI S fun x S => pI S fun i S => pA S fun a S => shA M a fun t k => t = 41 ∧ inB i k ∧ vc n d 127 40 L S (M.si a i.toNatClampNeg x) Q) := nr rfl
set_option maxRecDepth 100000 in
theorem v127_40 (n d : Nat) (L : List (Option mL)) (S : List mV) (M : Mm) (Q : mQ) : vc (n + 1) d 127 40 L S M Q = (gI L 3 fun x => sL L 3 (some (.inl (x + 1))) fun L => vc n d 127 43 L S M Q) := nr rfl
set_option maxRecDepth 100000 in
theorem v127_43 (n d : Nat) (L : List (Option mL)) (S : List mV) (M : Mm) (Q : mQ) : vc (n + 1) d 127 43 L S M Q = (X d 127 4 L S M Q) := nr rfl
set_option maxRecDepth 100000 in
theorem v127_46 (n d : Nat) (L : List (Option mL)) (S : List mV) (M : Mm) (Q : mQ) : vc (n + 1) d 127 46 L S M Q = (vc n d 127 47 L (.inl 0 :: S) M Q) := nr rfl
set_option maxRecDepth 100000 in
theorem v127_47 (n d : Nat) (L : List (Option mL)) (S : List mV) (M : Mm) (Q : mQ) : vc (n + 1) d 127 47 L S M Q = (pI S fun x S => sL L 3 (some (.inl x)) fun L => X d 127 48 L S M Q) := nr rfl
set_option maxRecDepth 100000 in
theorem v127_48 (n d : Nat) (L : List (Option mL)) (S : List mV) (M : Mm) (Q : mQ) : vc (n + 1) d 127 48 L S M Q = (gI L 3 fun x => vc n d 127 49 L (.inl x :: S) M Q) := nr rfl
set_option maxRecDepth 100000 in
theorem v127_49 (n d : Nat) (L : List (Option mL)) (S : List mV) (M : Mm) (Q : mQ) : vc (n + 1) d 127 49 L S M Q = (vc n d 127 51 L (.inl 48 :: S) M Q) := nr rfl
set_option maxRecDepth 100000 in
theorem v127_51 (n d : Nat) (L : List (Option mL)) (S : List mV) (M : Mm) (Q : mQ) : vc (n + 1) d 127 51 L S M Q = (pI S fun y S => pI S fun x S => (y ≤ x → vc n d 127 75 L S M Q) ∧ (¬ (y ≤ x) → vc n d 127 54 L S M Q)) := nr rfl
set_option maxRecDepth 100000 in
theorem v127_54 (n d : Nat) (L : List (Option mL)) (S : List mV) (M : Mm) (Q : mQ) : vc (n + 1) d 127 54 L S M Q = (gR L 0 fun x => vc n d 127 55 L (.inr (.inr x) :: S) M Q) := nr rfl
set_option maxRecDepth 100000 in
theorem v127_55 (n d : Nat) (L : List (Option mL)) (S : List mV) (M : Mm) (Q : mQ) : vc (n + 1) d 127 55 L S M Q = (pA S fun a S => shO M a 10 (rrf M a 17 fun r => vc n d 127 58 L (.inr (.inr r) :: S) M Q)) := nr rfl
set_option maxRecDepth 100000 in
theorem v127_58 (n d : Nat) (L : List (Option mL)) (S : List mV) (M : Mm) (Q : mQ) : vc (n + 1) d 127 58 L S M Q = (gI L 3 fun x => vc n d 127 59 L (.inl x :: S) M Q) := nr rfl
set_option maxRecDepth 100000 in
theorem v127_59 (n d : Nat) (L : List (Option mL)) (S : List mV) (M : Mm) (Q : mQ) : vc (n + 1) d 127 59 L S M Q = (gR L 0 fun x => vc n d 127 60 L (.inr (.inr x) :: S) M Q) := nr rfl
set_option maxRecDepth 100000 in
theorem v127_60 (n d : Nat) (L : List (Option mL)) (S : List mV) (M : Mm) (Q : mQ) : vc (n + 1) d 127 60 L S M Q = (pA S fun a S => shO M a 10 (rrf M a 8 fun r => vc n d 127 63 L (.inr (.inr r) :: S) M Q)) := nr rfl
set_option maxRecDepth 100000 in
theorem v127_63 (n d : Nat) (L : List (Option mL)) (S : List mV) (M : Mm) (Q : mQ) : vc (n + 1) d 127 63 L S M Q = (gI L 2 fun x => vc n d 127 64 L (.inl x :: S) M Q) := nr rfl
set_option maxRecDepth 100000 in
theorem v127_64 (n d : Nat) (L : List (Option mL)) (S : List mV) (M : Mm) (Q : mQ) : vc (n + 1) d 127 64 L S M Q = (gI L 2 fun x => sL L 2 (some (.inl (x + 1))) fun L => vc n d 127 67 L S M Q) := nr rfl
set_option maxRecDepth 100000 in
theorem v127_67 (n d : Nat) (L : List (Option mL)) (S : List mV) (M : Mm) (Q : mQ) : vc (n + 1) d 127 67 L S M Q = (pI S fun i S => pA S fun a S => shA M a fun t k => (t = 40 ∨ t = 41) ∧ inB i k ∧ vc n d 127 68 L (.inl (M.it a i.toNatClampNeg) :: S) M Q) := nr rfl
set_option maxRecDepth 100000 in
theorem v127_68 (n d : Nat) (L : List (Option mL)) (S : List mV) (M : Mm) (Q : mQ) : vc (n + 1) d 127 68 L S M Q = (pI S fun x S => pI S fun i S => pA S fun a S => shA M a fun t k => t = 41 ∧ inB i k ∧ vc n d 127 69 L S (M.si a i.toNatClampNeg x) Q) := nr rfl
set_option maxRecDepth 100000 in
theorem v127_69 (n d : Nat) (L : List (Option mL)) (S : List mV) (M : Mm) (Q : mQ) : vc (n + 1) d 127 69 L S M Q = (gI L 3 fun x => sL L 3 (some (.inl (x + 1))) fun L => vc n d 127 72 L S M Q) := nr rfl
set_option maxRecDepth 100000 in
theorem v127_72 (n d : Nat) (L : List (Option mL)) (S : List mV) (M : Mm) (Q : mQ) : vc (n + 1) d 127 72 L S M Q = (X d 127 48 L S M Q) := nr rfl
set_option maxRecDepth 100000 in
theorem v127_75 (n d : Nat) (L : List (Option mL)) (S : List mV) (M : Mm) (Q : mQ) : vc (n + 1) d 127 75 L S M Q = (gR L 0 fun x => vc n d 127 76 L (.inr (.inr x) :: S) M Q) := nr rfl
set_option maxRecDepth 100000 in
theorem v127_76 (n d : Nat) (L : List (Option mL)) (S : List mV) (M : Mm) (Q : mQ) : vc (n + 1) d 127 76 L S M Q = (gR L 0 fun x => vc n d 127 77 L (.inr (.inr x) :: S) M Q) := nr rfl
set_option maxRecDepth 100000 in
theorem v127_77 (n d : Nat) (L : List (Option mL)) (S : List mV) (M : Mm) (Q : mQ) : vc (n + 1) d 127 77 L S M Q = (pA S fun a S => shO M a 10 (rrf M a 8 fun r => vc n d 127 80 L (.inr (.inr r) :: S) M Q)) := nr rfl
set_option maxRecDepth 100000 in
theorem v127_80 (n d : Nat) (L : List (Option mL)) (S : List mV) (M : Mm) (Q : mQ) : vc (n + 1) d 127 80 L S M Q = (gI L 2 fun x => vc n d 127 81 L (.inl x :: S) M Q) := nr rfl
set_option maxRecDepth 100000 in
theorem v127_81 (n d : Nat) (L : List (Option mL)) (S : List mV) (M : Mm) (Q : mQ) : vc (n + 1) d 127 81 L S M Q = (gI L 2 fun x => sL L 2 (some (.inl (x + 1))) fun L => vc n d 127 84 L S M Q) := nr rfl
set_option maxRecDepth 100000 in
theorem v127_84 (n d : Nat) (L : List (Option mL)) (S : List mV) (M : Mm) (Q : mQ) : vc (n + 1) d 127 84 L S M Q = (pI S fun i S => pA S fun a S => shA M a fun t k => (t = 40 ∨ t = 41) ∧ inB i k ∧ vc n d 127 85 L (.inl (M.it a i.toNatClampNeg) :: S) M Q) := nr rfl
set_option maxRecDepth 100000 in
theorem v127_85 (n d : Nat) (L : List (Option mL)) (S : List mV) (M : Mm) (Q : mQ) : vc (n + 1) d 127 85 L S M Q = (pI S fun x S => pA S fun a S => shO M a 10 (vc n d 127 88 L S (M.si a 9 x) Q)) := nr rfl
set_option maxRecDepth 100000 in
theorem v127_88 (n d : Nat) (L : List (Option mL)) (S : List mV) (M : Mm) (Q : mQ) : vc (n + 1) d 127 88 L S M Q = (gR L 0 fun x => vc n d 127 89 L (.inr (.inr x) :: S) M Q) := nr rfl
set_option maxRecDepth 100000 in
theorem v127_89 (n d : Nat) (L : List (Option mL)) (S : List mV) (M : Mm) (Q : mQ) : vc (n + 1) d 127 89 L S M Q = (gR L 0 fun x => vc n d 127 90 L (.inr (.inr x) :: S) M Q) := nr rfl
set_option maxRecDepth 100000 in
theorem v127_90 (n d : Nat) (L : List (Option mL)) (S : List mV) (M : Mm) (Q : mQ) : vc (n + 1) d 127 90 L S M Q = (pA S fun a S => shO M a 10 (rrf M a 8 fun r => vc n d 127 93 L (.inr (.inr r) :: S) M Q)) := nr rfl
set_option maxRecDepth 100000 in
theorem v127_93 (n d : Nat) (L : List (Option mL)) (S : List mV) (M : Mm) (Q : mQ) : vc (n + 1) d 127 93 L S M Q = (gI L 2 fun x => vc n d 127 94 L (.inl x :: S) M Q) := nr rfl
set_option maxRecDepth 100000 in
theorem v127_94 (n d : Nat) (L : List (Option mL)) (S : List mV) (M : Mm) (Q : mQ) : vc (n + 1) d 127 94 L S M Q = (gI L 2 fun x => sL L 2 (some (.inl (x + 1))) fun L => vc n d 127 97 L S M Q) := nr rfl
set_option maxRecDepth 100000 in
theorem v127_97 (n d : Nat) (L : List (Option mL)) (S : List mV) (M : Mm) (Q : mQ) : vc (n + 1) d 127 97 L S M Q = (pI S fun i S => pA S fun a S => shA M a fun t k => (t = 40 ∨ t = 41) ∧ inB i k ∧ vc n d 127 98 L (.inl (M.it a i.toNatClampNeg) :: S) M Q) := nr rfl
set_option maxRecDepth 100000 in
theorem v127_98 (n d : Nat) (L : List (Option mL)) (S : List mV) (M : Mm) (Q : mQ) : vc (n + 1) d 127 98 L S M Q = (pI S fun x S => pA S fun a S => shO M a 10 (vc n d 127 101 L S (M.si a 12 x) Q)) := nr rfl
set_option maxRecDepth 100000 in
theorem v127_101 (n d : Nat) (L : List (Option mL)) (S : List mV) (M : Mm) (Q : mQ) : vc (n + 1) d 127 101 L S M Q = (gR L 0 fun x => vc n d 127 102 L (.inr (.inr x) :: S) M Q) := nr rfl
set_option maxRecDepth 100000 in
theorem v127_102 (n d : Nat) (L : List (Option mL)) (S : List mV) (M : Mm) (Q : mQ) : vc (n + 1) d 127 102 L S M Q = (gR L 0 fun x => vc n d 127 103 L (.inr (.inr x) :: S) M Q) := nr rfl
set_option maxRecDepth 100000 in
theorem v127_103 (n d : Nat) (L : List (Option mL)) (S : List mV) (M : Mm) (Q : mQ) : vc (n + 1) d 127 103 L S M Q = (pA S fun a S => shO M a 10 (rrf M a 8 fun r => vc n d 127 106 L (.inr (.inr r) :: S) M Q)) := nr rfl
set_option maxRecDepth 100000 in
theorem v127_106 (n d : Nat) (L : List (Option mL)) (S : List mV) (M : Mm) (Q : mQ) : vc (n + 1) d 127 106 L S M Q = (gI L 2 fun x => vc n d 127 107 L (.inl x :: S) M Q) := nr rfl
set_option maxRecDepth 100000 in
theorem v127_107 (n d : Nat) (L : List (Option mL)) (S : List mV) (M : Mm) (Q : mQ) : vc (n + 1) d 127 107 L S M Q = (gI L 2 fun x => sL L 2 (some (.inl (x + 1))) fun L => vc n d 127 110 L S M Q) := nr rfl
set_option maxRecDepth 100000 in
theorem v127_110 (n d : Nat) (L : List (Option mL)) (S : List mV) (M : Mm) (Q : mQ) : vc (n + 1) d 127 110 L S M Q = (pI S fun i S => pA S fun a S => shA M a fun t k => (t = 40 ∨ t = 41) ∧ inB i k ∧ vc n d 127 111 L (.inl (M.it a i.toNatClampNeg) :: S) M Q) := nr rfl
set_option maxRecDepth 100000 in
theorem v127_111 (n d : Nat) (L : List (Option mL)) (S : List mV) (M : Mm) (Q : mQ) : vc (n + 1) d 127 111 L S M Q = (pI S fun x S => pA S fun a S => shO M a 10 (vc n d 127 114 L S (M.si a 14 x) Q)) := nr rfl
set_option maxRecDepth 100000 in
theorem v127_114 (n d : Nat) (L : List (Option mL)) (S : List mV) (M : Mm) (Q : mQ) : vc (n + 1) d 127 114 L S M Q = (gR L 0 fun x => vc n d 127 115 L (.inr (.inr x) :: S) M Q) := nr rfl
set_option maxRecDepth 100000 in
theorem v127_115 (n d : Nat) (L : List (Option mL)) (S : List mV) (M : Mm) (Q : mQ) : vc (n + 1) d 127 115 L S M Q = (gR L 0 fun x => vc n d 127 116 L (.inr (.inr x) :: S) M Q) := nr rfl
set_option maxRecDepth 100000 in
theorem v127_116 (n d : Nat) (L : List (Option mL)) (S : List mV) (M : Mm) (Q : mQ) : vc (n + 1) d 127 116 L S M Q = (pA S fun a S => shO M a 10 (rrf M a 8 fun r => vc n d 127 119 L (.inr (.inr r) :: S) M Q)) := nr rfl
set_option maxRecDepth 100000 in
theorem v127_119 (n d : Nat) (L : List (Option mL)) (S : List mV) (M : Mm) (Q : mQ) : vc (n + 1) d 127 119 L S M Q = (gI L 2 fun x => vc n d 127 120 L (.inl x :: S) M Q) := nr rfl
set_option maxRecDepth 100000 in
theorem v127_120 (n d : Nat) (L : List (Option mL)) (S : List mV) (M : Mm) (Q : mQ) : vc (n + 1) d 127 120 L S M Q = (pI S fun i S => pA S fun a S => shA M a fun t k => (t = 40 ∨ t = 41) ∧ inB i k ∧ vc n d 127 121 L (.inl (M.it a i.toNatClampNeg) :: S) M Q) := nr rfl
set_option maxRecDepth 100000 in
theorem v127_121 (n d : Nat) (L : List (Option mL)) (S : List mV) (M : Mm) (Q : mQ) : vc (n + 1) d 127 121 L S M Q = (pI S fun x S => pA S fun a S => shO M a 10 (vc n d 127 124 L S (M.si a 15 x) Q)) := nr rfl
set_option maxRecDepth 100000 in
theorem v127_124 (n d : Nat) (L : List (Option mL)) (S : List mV) (M : Mm) (Q : mQ) : vc (n + 1) d 127 124 L S M Q = (gI L 1 fun x => vc n d 127 125 L (.inl x :: S) M Q) := nr rfl
set_option maxRecDepth 100000 in
theorem v127_125 (n d : Nat) (L : List (Option mL)) (S : List mV) (M : Mm) (Q : mQ) : vc (n + 1) d 127 125 L S M Q = (pI S fun x S => S = [] ∧ (0 = 0 ∨ x = 0 ∨ x = 1) ∧ Q (some (.inl x)) M) := nr rfl
set_option maxRecDepth 100000 in
theorem v128_0 (n d : Nat) (L : List (Option mL)) (S : List mV) (M : Mm) (Q : mQ) : vc (n + 1) d 128 0 L S M Q = (gR L 0 fun x => vc n d 128 1 L (.inr (.inr x) :: S) M Q) := nr rfl
set_option maxRecDepth 100000 in
theorem v128_1 (n d : Nat) (L : List (Option mL)) (S : List mV) (M : Mm) (Q : mQ) : vc (n + 1) d 128 1 L S M Q = (vc n d 128 2 L (.inl 0 :: S) M Q) := nr rfl
set_option maxRecDepth 100000 in
theorem v128_2 (n d : Nat) (L : List (Option mL)) (S : List mV) (M : Mm) (Q : mQ) : vc (n + 1) d 128 2 L S M Q = (pI S fun x S => pA S fun a S => shO M a 10 (vc n d 128 5 L S (M.si a 0 x) Q)) := nr rfl
set_option maxRecDepth 100000 in
theorem v128_5 (n d : Nat) (L : List (Option mL)) (S : List mV) (M : Mm) (Q : mQ) : vc (n + 1) d 128 5 L S M Q = (gR L 0 fun x => vc n d 128 6 L (.inr (.inr x) :: S) M Q) := nr rfl
set_option maxRecDepth 100000 in
theorem v128_6 (n d : Nat) (L : List (Option mL)) (S : List mV) (M : Mm) (Q : mQ) : vc (n + 1) d 128 6 L S M Q = (pA S fun a S => shO M a 10 (vc n d 128 9 L (.inl (M.it a 5) :: S) M Q)) := nr rfl
set_option maxRecDepth 100000 in
theorem v128_9 (n d : Nat) (L : List (Option mL)) (S : List mV) (M : Mm) (Q : mQ) : vc (n + 1) d 128 9 L S M Q = (pI S fun x S => (¬ x = 0 → vc n d 128 28 L S M Q) ∧ (¬ (¬ x = 0) → vc n d 128 12 L S M Q)) := nr rfl
set_option maxRecDepth 100000 in
theorem v128_12 (n d : Nat) (L : List (Option mL)) (S : List mV) (M : Mm) (Q : mQ) : vc (n + 1) d 128 12 L S M Q = (gI L 1 fun x => vc n d 128 13 L (.inl x :: S) M Q) := nr rfl
set_option maxRecDepth 100000 in
theorem v128_13 (n d : Nat) (L : List (Option mL)) (S : List mV) (M : Mm) (Q : mQ) : vc (n + 1) d 128 13 L S M Q = (pAs 1 S fun as S => stk S ≤ 8 ∧ XC d 119 as M (fun r M => ∃ x : Int32, r = some (.inl x) ∧ X d 128 16 L (.inl x :: S) M Q)) := nr rfl
set_option maxRecDepth 100000 in
theorem v128_16 (n d : Nat) (L : List (Option mL)) (S : List mV) (M : Mm) (Q : mQ) : vc (n + 1) d 128 16 L S M Q = (pI S fun x S => (x = 0 → vc n d 128 28 L S M Q) ∧ (¬ (x = 0) → vc n d 128 19 L S M Q)) := nr rfl
set_option maxRecDepth 100000 in
theorem v128_19 (n d : Nat) (L : List (Option mL)) (S : List mV) (M : Mm) (Q : mQ) : vc (n + 1) d 128 19 L S M Q = (gR L 0 fun x => vc n d 128 20 L (.inr (.inr x) :: S) M Q) := nr rfl
set_option maxRecDepth 100000 in
theorem v128_20 (n d : Nat) (L : List (Option mL)) (S : List mV) (M : Mm) (Q : mQ) : vc (n + 1) d 128 20 L S M Q = (gI L 1 fun x => vc n d 128 21 L (.inl x :: S) M Q) := nr rfl
set_option maxRecDepth 100000 in
theorem v128_21 (n d : Nat) (L : List (Option mL)) (S : List mV) (M : Mm) (Q : mQ) : vc (n + 1) d 128 21 L S M Q = (pAs 1 S fun as S => pA S fun a S => shO M a 10 (stk S ≤ 8 ∧ XC d 129 (.inr (some a) :: as) M (fun r M => ∃ x : Int32, r = some (.inl x) ∧ X d 128 24 L (.inl x :: S) M Q))) := nr rfl
set_option maxRecDepth 100000 in
theorem v128_24 (n d : Nat) (L : List (Option mL)) (S : List mV) (M : Mm) (Q : mQ) : vc (n + 1) d 128 24 L S M Q = (vc n d 128 25 L (.inl (-1) :: S) M Q) := nr rfl
set_option maxRecDepth 100000 in
theorem v128_25 (n d : Nat) (L : List (Option mL)) (S : List mV) (M : Mm) (Q : mQ) : vc (n + 1) d 128 25 L S M Q = (pI S fun y S => pI S fun x S => (¬ x = y → vc n d 128 30 L S M Q) ∧ (¬ (¬ x = y) → vc n d 128 28 L S M Q)) := nr rfl
set_option maxRecDepth 100000 in
theorem v128_28 (n d : Nat) (L : List (Option mL)) (S : List mV) (M : Mm) (Q : mQ) : vc (n + 1) d 128 28 L S M Q = (vc n d 128 29 L (.inl (-1) :: S) M Q) := nr rfl
set_option maxRecDepth 100000 in
theorem v128_29 (n d : Nat) (L : List (Option mL)) (S : List mV) (M : Mm) (Q : mQ) : vc (n + 1) d 128 29 L S M Q = (pI S fun x S => S = [] ∧ (0 = 0 ∨ x = 0 ∨ x = 1) ∧ Q (some (.inl x)) M) := nr rfl
set_option maxRecDepth 100000 in
theorem v128_30 (n d : Nat) (L : List (Option mL)) (S : List mV) (M : Mm) (Q : mQ) : vc (n + 1) d 128 30 L S M Q = (gR L 0 fun x => vc n d 128 31 L (.inr (.inr x) :: S) M Q) := nr rfl
set_option maxRecDepth 100000 in
theorem v128_31 (n d : Nat) (L : List (Option mL)) (S : List mV) (M : Mm) (Q : mQ) : vc (n + 1) d 128 31 L S M Q = (pA S fun a S => shO M a 10 (rrf M a 17 fun r => vc n d 128 34 L (.inr (.inr r) :: S) M Q)) := nr rfl
set_option maxRecDepth 100000 in
theorem v128_34 (n d : Nat) (L : List (Option mL)) (S : List mV) (M : Mm) (Q : mQ) : vc (n + 1) d 128 34 L S M Q = (gI L 1 fun x => vc n d 128 35 L (.inl x :: S) M Q) := nr rfl
set_option maxRecDepth 100000 in
theorem v128_35 (n d : Nat) (L : List (Option mL)) (S : List mV) (M : Mm) (Q : mQ) : vc (n + 1) d 128 35 L S M Q = (vc n d 128 38 L (.inl 255 :: S) M Q) := nr rfl
set_option maxRecDepth 100000 in
theorem v128_38 (n d : Nat) (L : List (Option mL)) (S : List mV) (M : Mm) (Q : mQ) : vc (n + 1) d 128 38 L S M Q = (pI S fun x S => pI S fun i S => pA S fun a S => shA M a fun t k => t = 41 ∧ inB i k ∧ vc n d 128 39 L S (M.si a i.toNatClampNeg x) Q) := nr rfl
set_option maxRecDepth 100000 in
theorem v128_39 (n d : Nat) (L : List (Option mL)) (S : List mV) (M : Mm) (Q : mQ) : vc (n + 1) d 128 39 L S M Q = (gR L 0 fun x => vc n d 128 40 L (.inr (.inr x) :: S) M Q) := nr rfl
set_option maxRecDepth 100000 in
theorem v128_40 (n d : Nat) (L : List (Option mL)) (S : List mV) (M : Mm) (Q : mQ) : vc (n + 1) d 128 40 L S M Q = (pC S fun v S => vc n d 128 41 L (v :: v :: S) M Q) := nr rfl
set_option maxRecDepth 100000 in
theorem v128_41 (n d : Nat) (L : List (Option mL)) (S : List mV) (M : Mm) (Q : mQ) : vc (n + 1) d 128 41 L S M Q = (pA S fun a S => shO M a 10 (vc n d 128 44 L (.inl (M.it a 13) :: S) M Q)) := nr rfl
set_option maxRecDepth 100000 in
theorem v128_44 (n d : Nat) (L : List (Option mL)) (S : List mV) (M : Mm) (Q : mQ) : vc (n + 1) d 128 44 L S M Q = (vc n d 128 45 L (.inl 1 :: S) M Q) := nr rfl
set_option maxRecDepth 100000 in
theorem v128_45 (n d : Nat) (L : List (Option mL)) (S : List mV) (M : Mm) (Q : mQ) : vc (n + 1) d 128 45 L S M Q = (pI S fun y S => pI S fun x S => vc n d 128 46 L (.inl (x + y) :: S) M Q) := nr rfl
set_option maxRecDepth 100000 in
theorem v128_46 (n d : Nat) (L : List (Option mL)) (S : List mV) (M : Mm) (Q : mQ) : vc (n + 1) d 128 46 L S M Q = (pI S fun x S => pA S fun a S => shO M a 10 (vc n d 128 49 L S (M.si a 13 x) Q)) := nr rfl
set_option maxRecDepth 100000 in
theorem v128_49 (n d : Nat) (L : List (Option mL)) (S : List mV) (M : Mm) (Q : mQ) : vc (n + 1) d 128 49 L S M Q = (gR L 0 fun x => vc n d 128 50 L (.inr (.inr x) :: S) M Q) := nr rfl
set_option maxRecDepth 100000 in
theorem v128_50 (n d : Nat) (L : List (Option mL)) (S : List mV) (M : Mm) (Q : mQ) : vc (n + 1) d 128 50 L S M Q = (pA S fun a S => shO M a 10 (vc n d 128 53 L (.inl (M.it a 13) :: S) M Q)) := nr rfl
set_option maxRecDepth 100000 in
theorem v128_53 (n d : Nat) (L : List (Option mL)) (S : List mV) (M : Mm) (Q : mQ) : vc (n + 1) d 128 53 L S M Q = (pI S fun x S => S = [] ∧ (0 = 0 ∨ x = 0 ∨ x = 1) ∧ Q (some (.inl x)) M) := nr rfl
