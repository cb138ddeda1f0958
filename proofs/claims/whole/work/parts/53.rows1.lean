/-! what each instruction leaves to show, printed by gen_rows.py -/
set_option maxRecDepth 100000 in
theorem v0_0 (n d : Nat) (L : List (Option mL)) (S : List mV) (M : Mm) (Q : mQ) : vc (n + 1) d 0 0 L S M Q = (vc n d 0 3 L (.inr (.inr (some M.sz)) :: S) (M.nw (0, 0) 19) Q) := nr rfl
set_option maxRecDepth 100000 in
theorem v0_3 (n d : Nat) (L : List (Option mL)) (S : List mV) (M : Mm) (Q : mQ) : vc (n + 1) d 0 3 L S M Q = (pC S fun v S => vc n d 0 4 L (v :: v :: S) M Q) := nr rfl
set_option maxRecDepth 100000 in
theorem v0_4 (n d : Nat) (L : List (Option mL)) (S : List mV) (M : Mm) (Q : mQ) : vc (n + 1) d 0 4 L S M Q = (pAs 0 S fun as S => pA S fun a S => stk S ≤ 8 ∧ XC d 1 (.inr (some a) :: as) M (fun r M => r = none ∧ X d 0 7 L S M Q)) := nr rfl
set_option maxRecDepth 100000 in
theorem v0_7 (n d : Nat) (L : List (Option mL)) (S : List mV) (M : Mm) (Q : mQ) : vc (n + 1) d 0 7 L S M Q = (pR S fun x S => sL L 1 (some (.inr x)) fun L => vc n d 0 8 L S M Q) := nr rfl
set_option maxRecDepth 100000 in
theorem v0_8 (n d : Nat) (L : List (Option mL)) (S : List mV) (M : Mm) (Q : mQ) : vc (n + 1) d 0 8 L S M Q = (vc n d 0 11 L (.inr (.inr (some M.sz)) :: S) (M.nw (10, 0) 40) Q) := nr rfl
set_option maxRecDepth 100000 in
theorem v0_11 (n d : Nat) (L : List (Option mL)) (S : List mV) (M : Mm) (Q : mQ) : vc (n + 1) d 0 11 L S M Q = (pC S fun v S => vc n d 0 12 L (v :: v :: S) M Q) := nr rfl
set_option maxRecDepth 100000 in
theorem v0_12 (n d : Nat) (L : List (Option mL)) (S : List mV) (M : Mm) (Q : mQ) : vc (n + 1) d 0 12 L S M Q = (pAs 0 S fun as S => pA S fun a S => stk S ≤ 8 ∧ XC d 116 (.inr (some a) :: as) M (fun r M => r = none ∧ X d 0 15 L S M Q)) := nr rfl
set_option maxRecDepth 100000 in
theorem v0_15 (n d : Nat) (L : List (Option mL)) (S : List mV) (M : Mm) (Q : mQ) : vc (n + 1) d 0 15 L S M Q = (pR S fun x S => sL L 2 (some (.inr x)) fun L => vc n d 0 16 L S M Q) := nr rfl
set_option maxRecDepth 100000 in
theorem v0_16 (n d : Nat) (L : List (Option mL)) (S : List mV) (M : Mm) (Q : mQ) : vc (n + 1) d 0 16 L S M Q = (vc n d 0 17 L (.inl 0 :: S) M Q) := nr rfl
set_option maxRecDepth 100000 in
theorem v0_17 (n d : Nat) (L : List (Option mL)) (S : List mV) (M : Mm) (Q : mQ) : vc (n + 1) d 0 17 L S M Q = (pI S fun x S => sL L 3 (some (.inl x)) fun L => X d 0 18 L S M Q) := nr rfl
set_option maxRecDepth 100000 in
theorem v0_18 (n d : Nat) (L : List (Option mL)) (S : List mV) (M : Mm) (Q : mQ) : vc (n + 1) d 0 18 L S M Q = (gI L 3 fun x => vc n d 0 19 L (.inl x :: S) M Q) := nr rfl
set_option maxRecDepth 100000 in
theorem v0_19 (n d : Nat) (L : List (Option mL)) (S : List mV) (M : Mm) (Q : mQ) : vc (n + 1) d 0 19 L S M Q = (gR L 0 fun x => vc n d 0 20 L (.inr (.inr x) :: S) M Q) := nr rfl
set_option maxRecDepth 100000 in
theorem v0_20 (n d : Nat) (L : List (Option mL)) (S : List mV) (M : Mm) (Q : mQ) : vc (n + 1) d 0 20 L S M Q = (pA S fun a S => shA M a fun t k => aTyB t = true ∧ vc n d 0 21 L (.inl (nI k) :: S) M Q) := nr rfl
set_option maxRecDepth 100000 in
theorem v0_21 (n d : Nat) (L : List (Option mL)) (S : List mV) (M : Mm) (Q : mQ) : vc (n + 1) d 0 21 L S M Q = (vc n d 0 23 L (.inl 6 :: S) M Q) := nr rfl
set_option maxRecDepth 100000 in
theorem v0_23 (n d : Nat) (L : List (Option mL)) (S : List mV) (M : Mm) (Q : mQ) : vc (n + 1) d 0 23 L S M Q = (pI S fun y S => pI S fun x S => vc n d 0 24 L (.inl (x - y) :: S) M Q) := nr rfl
set_option maxRecDepth 100000 in
theorem v0_24 (n d : Nat) (L : List (Option mL)) (S : List mV) (M : Mm) (Q : mQ) : vc (n + 1) d 0 24 L S M Q = (pI S fun y S => pI S fun x S => (y < x → vc n d 0 610 L S M Q) ∧ (¬ (y < x) → vc n d 0 27 L S M Q)) := nr rfl
set_option maxRecDepth 100000 in
theorem v0_27 (n d : Nat) (L : List (Option mL)) (S : List mV) (M : Mm) (Q : mQ) : vc (n + 1) d 0 27 L S M Q = (gR L 0 fun x => vc n d 0 28 L (.inr (.inr x) :: S) M Q) := nr rfl
set_option maxRecDepth 100000 in
theorem v0_28 (n d : Nat) (L : List (Option mL)) (S : List mV) (M : Mm) (Q : mQ) : vc (n + 1) d 0 28 L S M Q = (gI L 3 fun x => vc n d 0 29 L (.inl x :: S) M Q) := nr rfl
set_option maxRecDepth 100000 in
theorem v0_29 (n d : Nat) (L : List (Option mL)) (S : List mV) (M : Mm) (Q : mQ) : vc (n + 1) d 0 29 L S M Q = (pI S fun i S => pA S fun a S => shA M a fun t k => (t = 40 ∨ t = 41) ∧ inB i k ∧ vc n d 0 30 L (.inl (M.it a i.toNatClampNeg) :: S) M Q) := nr rfl
set_option maxRecDepth 100000 in
theorem v0_30 (n d : Nat) (L : List (Option mL)) (S : List mV) (M : Mm) (Q : mQ) : vc (n + 1) d 0 30 L S M Q = (vc n d 0 32 L (.inl 31 :: S) M Q) := nr rfl
set_option maxRecDepth 100000 in
theorem v0_32 (n d : Nat) (L : List (Option mL)) (S : List mV) (M : Mm) (Q : mQ) : vc (n + 1) d 0 32 L S M Q = (pI S fun y S => pI S fun x S => vc n d 0 33 L (.inl (x &&& y) :: S) M Q) := nr rfl
set_option maxRecDepth 100000 in
theorem v0_33 (n d : Nat) (L : List (Option mL)) (S : List mV) (M : Mm) (Q : mQ) : vc (n + 1) d 0 33 L S M Q = (pI S fun x S => (x.toInt = 0 → vc n d 0 120 L S M Q) ∧ (¬ x.toInt = 0 → (x.toInt = 1 → vc n d 0 183 L S M Q) ∧ (¬ x.toInt = 1 → (x.toInt = 2 → vc n d 0 216 L S M Q) ∧ (¬ x.toInt = 2 → (x.toInt = 3 → vc n d 0 239 L S M Q) ∧ (¬ x.toInt = 3 → (x.toInt = 4 → vc n d 0 262 L S M Q) ∧ (¬ x.toInt = 4 → (x.toInt = 5 → vc n d 0 285 L S M Q) ∧ (¬ x.toInt = 5 → (x.toInt = 6 → vc n d 0 308 L S M Q) ∧ (¬ x.toInt = 6 → (x.toInt = 7 → vc n d 0 321 L S M Q) ∧ (¬ x.toInt = 7 → (x.toInt = 8 → vc n d 0 344 L S M Q) ∧ (¬ x.toInt = 8 → (x.toInt = 9 → vc n d 0 367 L S M Q) ∧ (¬ x.toInt = 9 → (x.toInt = 10 → vc n d 0 390 L S M Q) ∧ (¬ x.toInt = 10 → (x.toInt = 11 → vc n d 0 413 L S M Q) ∧ (¬ x.toInt = 11 → (x.toInt = 12 → vc n d 0 426 L S M Q) ∧ (¬ x.toInt = 12 → (x.toInt = 13 → vc n d 0 439 L S M Q) ∧ (¬ x.toInt = 13 → (x.toInt = 14 → vc n d 0 462 L S M Q) ∧ (¬ x.toInt = 14 → (x.toInt = 15 → vc n d 0 495 L S M Q) ∧ (¬ x.toInt = 15 → (x.toInt = 16 → vc n d 0 528 L S M Q) ∧ (¬ x.toInt = 16 → (x.toInt = 17 → vc n d 0 571 L S M Q) ∧ (¬ x.toInt = 17 → vc n d 0 604 L S M Q))))))))))))))))))) := nr rfl
set_option maxRecDepth 100000 in
theorem v0_120 (n d : Nat) (L : List (Option mL)) (S : List mV) (M : Mm) (Q : mQ) : vc (n + 1) d 0 120 L S M Q = (gR L 1 fun x => vc n d 0 121 L (.inr (.inr x) :: S) M Q) := nr rfl
set_option maxRecDepth 100000 in
theorem v0_121 (n d : Nat) (L : List (Option mL)) (S : List mV) (M : Mm) (Q : mQ) : vc (n + 1) d 0 121 L S M Q = (gR L 0 fun x => vc n d 0 122 L (.inr (.inr x) :: S) M Q) := nr rfl
set_option maxRecDepth 100000 in
theorem v0_122 (n d : Nat) (L : List (Option mL)) (S : List mV) (M : Mm) (Q : mQ) : vc (n + 1) d 0 122 L S M Q = (gI L 3 fun x => vc n d 0 123 L (.inl x :: S) M Q) := nr rfl
set_option maxRecDepth 100000 in
theorem v0_123 (n d : Nat) (L : List (Option mL)) (S : List mV) (M : Mm) (Q : mQ) : vc (n + 1) d 0 123 L S M Q = (vc n d 0 124 L (.inl 1 :: S) M Q) := nr rfl
set_option maxRecDepth 100000 in
theorem v0_124 (n d : Nat) (L : List (Option mL)) (S : List mV) (M : Mm) (Q : mQ) : vc (n + 1) d 0 124 L S M Q = (pI S fun y S => pI S fun x S => vc n d 0 125 L (.inl (x + y) :: S) M Q) := nr rfl
set_option maxRecDepth 100000 in
theorem v0_125 (n d : Nat) (L : List (Option mL)) (S : List mV) (M : Mm) (Q : mQ) : vc (n + 1) d 0 125 L S M Q = (pI S fun i S => pA S fun a S => shA M a fun t k => (t = 40 ∨ t = 41) ∧ inB i k ∧ vc n d 0 126 L (.inl (M.it a i.toNatClampNeg) :: S) M Q) := nr rfl
set_option maxRecDepth 100000 in
theorem v0_126 (n d : Nat) (L : List (Option mL)) (S : List mV) (M : Mm) (Q : mQ) : vc (n + 1) d 0 126 L S M Q = (gR L 0 fun x => vc n d 0 127 L (.inr (.inr x) :: S) M Q) := nr rfl
set_option maxRecDepth 100000 in
theorem v0_127 (n d : Nat) (L : List (Option mL)) (S : List mV) (M : Mm) (Q : mQ) : vc (n + 1) d 0 127 L S M Q = (gI L 3 fun x => vc n d 0 128 L (.inl x :: S) M Q) := nr rfl
set_option maxRecDepth 100000 in
theorem v0_128 (n d : Nat) (L : List (Option mL)) (S : List mV) (M : Mm) (Q : mQ) : vc (n + 1) d 0 128 L S M Q = (vc n d 0 129 L (.inl 2 :: S) M Q) := nr rfl
set_option maxRecDepth 100000 in
theorem v0_129 (n d : Nat) (L : List (Option mL)) (S : List mV) (M : Mm) (Q : mQ) : vc (n + 1) d 0 129 L S M Q = (pI S fun y S => pI S fun x S => vc n d 0 130 L (.inl (x + y) :: S) M Q) := nr rfl
set_option maxRecDepth 100000 in
theorem v0_130 (n d : Nat) (L : List (Option mL)) (S : List mV) (M : Mm) (Q : mQ) : vc (n + 1) d 0 130 L S M Q = (pI S fun i S => pA S fun a S => shA M a fun t k => (t = 40 ∨ t = 41) ∧ inB i k ∧ vc n d 0 131 L (.inl (M.it a i.toNatClampNeg) :: S) M Q) := nr rfl
set_option maxRecDepth 100000 in
theorem v0_131 (n d : Nat) (L : List (Option mL)) (S : List mV) (M : Mm) (Q : mQ) : vc (n + 1) d 0 131 L S M Q = (gR L 0 fun x => vc n d 0 132 L (.inr (.inr x) :: S) M Q) := nr rfl
set_option maxRecDepth 100000 in
theorem v0_132 (n d : Nat) (L : List (Option mL)) (S : List mV) (M : Mm) (Q : mQ) : vc (n + 1) d 0 132 L S M Q = (gI L 3 fun x => vc n d 0 133 L (.inl x :: S) M Q) := nr rfl
set_option maxRecDepth 100000 in
theorem v0_133 (n d : Nat) (L : List (Option mL)) (S : List mV) (M : Mm) (Q : mQ) : vc (n + 1) d 0 133 L S M Q = (vc n d 0 134 L (.inl 3 :: S) M Q) := nr rfl
set_option maxRecDepth 100000 in
theorem v0_134 (n d : Nat) (L : List (Option mL)) (S : List mV) (M : Mm) (Q : mQ) : vc (n + 1) d 0 134 L S M Q = (pI S fun y S => pI S fun x S => vc n d 0 135 L (.inl (x + y) :: S) M Q) := nr rfl
set_option maxRecDepth 100000 in
theorem v0_135 (n d : Nat) (L : List (Option mL)) (S : List mV) (M : Mm) (Q : mQ) : vc (n + 1) d 0 135 L S M Q = (pI S fun i S => pA S fun a S => shA M a fun t k => (t = 40 ∨ t = 41) ∧ inB i k ∧ vc n d 0 136 L (.inl (M.it a i.toNatClampNeg) :: S) M Q) := nr rfl
set_option maxRecDepth 100000 in
theorem v0_136 (n d : Nat) (L : List (Option mL)) (S : List mV) (M : Mm) (Q : mQ) : vc (n + 1) d 0 136 L S M Q = (gR L 0 fun x => vc n d 0 137 L (.inr (.inr x) :: S) M Q) := nr rfl
set_option maxRecDepth 100000 in
theorem v0_137 (n d : Nat) (L : List (Option mL)) (S : List mV) (M : Mm) (Q : mQ) : vc (n + 1) d 0 137 L S M Q = (gI L 3 fun x => vc n d 0 138 L (.inl x :: S) M Q) := nr rfl
set_option maxRecDepth 100000 in
theorem v0_138 (n d : Nat) (L : List (Option mL)) (S : List mV) (M : Mm) (Q : mQ) : vc (n + 1) d 0 138 L S M Q = (vc n d 0 139 L (.inl 4 :: S) M Q) := nr rfl
set_option maxRecDepth 100000 in
theorem v0_139 (n d : Nat) (L : List (Option mL)) (S : List mV) (M : Mm) (Q : mQ) : vc (n + 1) d 0 139 L S M Q = (pI S fun y S => pI S fun x S => vc n d 0 140 L (.inl (x + y) :: S) M Q) := nr rfl
set_option maxRecDepth 100000 in
theorem v0_140 (n d : Nat) (L : List (Option mL)) (S : List mV) (M : Mm) (Q : mQ) : vc (n + 1) d 0 140 L S M Q = (pI S fun i S => pA S fun a S => shA M a fun t k => (t = 40 ∨ t = 41) ∧ inB i k ∧ vc n d 0 141 L (.inl (M.it a i.toNatClampNeg) :: S) M Q) := nr rfl
set_option maxRecDepth 100000 in
theorem v0_141 (n d : Nat) (L : List (Option mL)) (S : List mV) (M : Mm) (Q : mQ) : vc (n + 1) d 0 141 L S M Q = (gR L 0 fun x => vc n d 0 142 L (.inr (.inr x) :: S) M Q) := nr rfl
set_option maxRecDepth 100000 in
theorem v0_142 (n d : Nat) (L : List (Option mL)) (S : List mV) (M : Mm) (Q : mQ) : vc (n + 1) d 0 142 L S M Q = (gI L 3 fun x => vc n d 0 143 L (.inl x :: S) M Q) := nr rfl
set_option maxRecDepth 100000 in
theorem v0_143 (n d : Nat) (L : List (Option mL)) (S : List mV) (M : Mm) (Q : mQ) : vc (n + 1) d 0 143 L S M Q = (vc n d 0 144 L (.inl 5 :: S) M Q) := nr rfl
set_option maxRecDepth 100000 in
theorem v0_144 (n d : Nat) (L : List (Option mL)) (S : List mV) (M : Mm) (Q : mQ) : vc (n + 1) d 0 144 L S M Q = (pI S fun y S => pI S fun x S => vc n d 0 145 L (.inl (x + y) :: S) M Q) := nr rfl
set_option maxRecDepth 100000 in
theorem v0_145 (n d : Nat) (L : List (Option mL)) (S : List mV) (M : Mm) (Q : mQ) : vc (n + 1) d 0 145 L S M Q = (pI S fun i S => pA S fun a S => shA M a fun t k => (t = 40 ∨ t = 41) ∧ inB i k ∧ vc n d 0 146 L (.inl (M.it a i.toNatClampNeg) :: S) M Q) := nr rfl
set_option maxRecDepth 100000 in
theorem v0_146 (n d : Nat) (L : List (Option mL)) (S : List mV) (M : Mm) (Q : mQ) : vc (n + 1) d 0 146 L S M Q = (pAs 5 S fun as S => pA S fun a S => shO M a 0 (stk S ≤ 8 ∧ XC d 41 (.inr (some a) :: as) M (fun r M => ∃ x : Int32, r = some (.inl x) ∧ X d 0 149 L (.inl x :: S) M Q))) := nr rfl
set_option maxRecDepth 100000 in
theorem v0_149 (n d : Nat) (L : List (Option mL)) (S : List mV) (M : Mm) (Q : mQ) : vc (n + 1) d 0 149 L S M Q = (gR L 2 fun x => vc n d 0 150 L (.inr (.inr x) :: S) M Q) := nr rfl
set_option maxRecDepth 100000 in
theorem v0_150 (n d : Nat) (L : List (Option mL)) (S : List mV) (M : Mm) (Q : mQ) : vc (n + 1) d 0 150 L S M Q = (gR L 0 fun x => vc n d 0 151 L (.inr (.inr x) :: S) M Q) := nr rfl
set_option maxRecDepth 100000 in
theorem v0_151 (n d : Nat) (L : List (Option mL)) (S : List mV) (M : Mm) (Q : mQ) : vc (n + 1) d 0 151 L S M Q = (gI L 3 fun x => vc n d 0 152 L (.inl x :: S) M Q) := nr rfl
set_option maxRecDepth 100000 in
theorem v0_152 (n d : Nat) (L : List (Option mL)) (S : List mV) (M : Mm) (Q : mQ) : vc (n + 1) d 0 152 L S M Q = (vc n d 0 153 L (.inl 1 :: S) M Q) := nr rfl
set_option maxRecDepth 100000 in
theorem v0_153 (n d : Nat) (L : List (Option mL)) (S : List mV) (M : Mm) (Q : mQ) : vc (n + 1) d 0 153 L S M Q = (pI S fun y S => pI S fun x S => vc n d 0 154 L (.inl (x + y) :: S) M Q) := nr rfl
set_option maxRecDepth 100000 in
theorem v0_154 (n d : Nat) (L : List (Option mL)) (S : List mV) (M : Mm) (Q : mQ) : vc (n + 1) d 0 154 L S M Q = (pI S fun i S => pA S fun a S => shA M a fun t k => (t = 40 ∨ t = 41) ∧ inB i k ∧ vc n d 0 155 L (.inl (M.it a i.toNatClampNeg) :: S) M Q) := nr rfl
set_option maxRecDepth 100000 in
theorem v0_155 (n d : Nat) (L : List (Option mL)) (S : List mV) (M : Mm) (Q : mQ) : vc (n + 1) d 0 155 L S M Q = (gR L 0 fun x => vc n d 0 156 L (.inr (.inr x) :: S) M Q) := nr rfl
set_option maxRecDepth 100000 in
theorem v0_156 (n d : Nat) (L : List (Option mL)) (S : List mV) (M : Mm) (Q : mQ) : vc (n + 1) d 0 156 L S M Q = (gI L 3 fun x => vc n d 0 157 L (.inl x :: S) M Q) := nr rfl
set_option maxRecDepth 100000 in
theorem v0_157 (n d : Nat) (L : List (Option mL)) (S : List mV) (M : Mm) (Q : mQ) : vc (n + 1) d 0 157 L S M Q = (vc n d 0 158 L (.inl 2 :: S) M Q) := nr rfl
set_option maxRecDepth 100000 in
theorem v0_158 (n d : Nat) (L : List (Option mL)) (S : List mV) (M : Mm) (Q : mQ) : vc (n + 1) d 0 158 L S M Q = (pI S fun y S => pI S fun x S => vc n d 0 159 L (.inl (x + y) :: S) M Q) := nr rfl
set_option maxRecDepth 100000 in
theorem v0_159 (n d : Nat) (L : List (Option mL)) (S : List mV) (M : Mm) (Q : mQ) : vc (n + 1) d 0 159 L S M Q = (pI S fun i S => pA S fun a S => shA M a fun t k => (t = 40 ∨ t = 41) ∧ inB i k ∧ vc n d 0 160 L (.inl (M.it a i.toNatClampNeg) :: S) M Q) := nr rfl
set_option maxRecDepth 100000 in
theorem v0_160 (n d : Nat) (L : List (Option mL)) (S : List mV) (M : Mm) (Q : mQ) : vc (n + 1) d 0 160 L S M Q = (gR L 0 fun x => vc n d 0 161 L (.inr (.inr x) :: S) M Q) := nr rfl
set_option maxRecDepth 100000 in
theorem v0_161 (n d : Nat) (L : List (Option mL)) (S : List mV) (M : Mm) (Q : mQ) : vc (n + 1) d 0 161 L S M Q = (gI L 3 fun x => vc n d 0 162 L (.inl x :: S) M Q) := nr rfl
set_option maxRecDepth 100000 in
theorem v0_162 (n d : Nat) (L : List (Option mL)) (S : List mV) (M : Mm) (Q : mQ) : vc (n + 1) d 0 162 L S M Q = (vc n d 0 163 L (.inl 3 :: S) M Q) := nr rfl
set_option maxRecDepth 100000 in
theorem v0_163 (n d : Nat) (L : List (Option mL)) (S : List mV) (M : Mm) (Q : mQ) : vc (n + 1) d 0 163 L S M Q = (pI S fun y S => pI S fun x S => vc n d 0 164 L (.inl (x + y) :: S) M Q) := nr rfl
set_option maxRecDepth 100000 in
theorem v0_164 (n d : Nat) (L : List (Option mL)) (S : List mV) (M : Mm) (Q : mQ) : vc (n + 1) d 0 164 L S M Q = (pI S fun i S => pA S fun a S => shA M a fun t k => (t = 40 ∨ t = 41) ∧ inB i k ∧ vc n d 0 165 L (.inl (M.it a i.toNatClampNeg) :: S) M Q) := nr rfl
set_option maxRecDepth 100000 in
theorem v0_165 (n d : Nat) (L : List (Option mL)) (S : List mV) (M : Mm) (Q : mQ) : vc (n + 1) d 0 165 L S M Q = (gR L 0 fun x => vc n d 0 166 L (.inr (.inr x) :: S) M Q) := nr rfl
set_option maxRecDepth 100000 in
theorem v0_166 (n d : Nat) (L : List (Option mL)) (S : List mV) (M : Mm) (Q : mQ) : vc (n + 1) d 0 166 L S M Q = (gI L 3 fun x => vc n d 0 167 L (.inl x :: S) M Q) := nr rfl
set_option maxRecDepth 100000 in
theorem v0_167 (n d : Nat) (L : List (Option mL)) (S : List mV) (M : Mm) (Q : mQ) : vc (n + 1) d 0 167 L S M Q = (vc n d 0 168 L (.inl 4 :: S) M Q) := nr rfl
set_option maxRecDepth 100000 in
theorem v0_168 (n d : Nat) (L : List (Option mL)) (S : List mV) (M : Mm) (Q : mQ) : vc (n + 1) d 0 168 L S M Q = (pI S fun y S => pI S fun x S => vc n d 0 169 L (.inl (x + y) :: S) M Q) := nr rfl
set_option maxRecDepth 100000 in
theorem v0_169 (n d : Nat) (L : List (Option mL)) (S : List mV) (M : Mm) (Q : mQ) : vc (n + 1) d 0 169 L S M Q = (pI S fun i S => pA S fun a S => shA M a fun t k => (t = 40 ∨ t = 41) ∧ inB i k ∧ vc n d 0 170 L (.inl (M.it a i.toNatClampNeg) :: S) M Q) := nr rfl
set_option maxRecDepth 100000 in
theorem v0_170 (n d : Nat) (L : List (Option mL)) (S : List mV) (M : Mm) (Q : mQ) : vc (n + 1) d 0 170 L S M Q = (gR L 0 fun x => vc n d 0 171 L (.inr (.inr x) :: S) M Q) := nr rfl
set_option maxRecDepth 100000 in
theorem v0_171 (n d : Nat) (L : List (Option mL)) (S : List mV) (M : Mm) (Q : mQ) : vc (n + 1) d 0 171 L S M Q = (gI L 3 fun x => vc n d 0 172 L (.inl x :: S) M Q) := nr rfl
set_option maxRecDepth 100000 in
theorem v0_172 (n d : Nat) (L : List (Option mL)) (S : List mV) (M : Mm) (Q : mQ) : vc (n + 1) d 0 172 L S M Q = (vc n d 0 173 L (.inl 5 :: S) M Q) := nr rfl
set_option maxRecDepth 100000 in
theorem v0_173 (n d : Nat) (L : List (Option mL)) (S : List mV) (M : Mm) (Q : mQ) : vc (n + 1) d 0 173 L S M Q = (pI S fun y S => pI S fun x S => vc n d 0 174 L (.inl (x + y) :: S) M Q) := nr rfl
set_option maxRecDepth 100000 in
theorem v0_174 (n d : Nat) (L : List (Option mL)) (S : List mV) (M : Mm) (Q : mQ) : vc (n + 1) d 0 174 L S M Q = (pI S fun i S => pA S fun a S => shA M a fun t k => (t = 40 ∨ t = 41) ∧ inB i k ∧ vc n d 0 175 L (.inl (M.it a i.toNatClampNeg) :: S) M Q) := nr rfl
set_option maxRecDepth 100000 in
theorem v0_175 (n d : Nat) (L : List (Option mL)) (S : List mV) (M : Mm) (Q : mQ) : vc (n + 1) d 0 175 L S M Q = (pAs 5 S fun as S => pA S fun a S => shO M a 10 (stk S ≤ 8 ∧ XC d 117 (.inr (some a) :: as) M (fun r M => ∃ x : Int32, r = some (.inl x) ∧ X d 0 178 L (.inl x :: S) M Q))) := nr rfl
set_option maxRecDepth 100000 in
theorem v0_178 (n d : Nat) (L : List (Option mL)) (S : List mV) (M : Mm) (Q : mQ) : vc (n + 1) d 0 178 L S M Q = (pI S fun y S => pI S fun x S => (x = y → vc n d 0 604 L S M Q) ∧ (¬ (x = y) → vc n d 0 181 L S M Q)) := nr rfl
set_option maxRecDepth 100000 in
theorem v0_181 (n d : Nat) (L : List (Option mL)) (S : List mV) (M : Mm) (Q : mQ) : vc (n + 1) d 0 181 L S M Q = (vc n d 0 182 L (.inl 0 :: S) M Q) := nr rfl
set_option maxRecDepth 100000 in
theorem v0_182 (n d : Nat) (L : List (Option mL)) (S : List mV) (M : Mm) (Q : mQ) : vc (n + 1) d 0 182 L S M Q = (pI S fun x S => S = [] ∧ (1 = 0 ∨ x = 0 ∨ x = 1) ∧ Q (some (.inl x)) M) := nr rfl
set_option maxRecDepth 100000 in
theorem v0_183 (n d : Nat) (L : List (Option mL)) (S : List mV) (M : Mm) (Q : mQ) : vc (n + 1) d 0 183 L S M Q = (gR L 1 fun x => vc n d 0 184 L (.inr (.inr x) :: S) M Q) := nr rfl
set_option maxRecDepth 100000 in
theorem v0_184 (n d : Nat) (L : List (Option mL)) (S : List mV) (M : Mm) (Q : mQ) : vc (n + 1) d 0 184 L S M Q = (gR L 0 fun x => vc n d 0 185 L (.inr (.inr x) :: S) M Q) := nr rfl
set_option maxRecDepth 100000 in
theorem v0_185 (n d : Nat) (L : List (Option mL)) (S : List mV) (M : Mm) (Q : mQ) : vc (n + 1) d 0 185 L S M Q = (gI L 3 fun x => vc n d 0 186 L (.inl x :: S) M Q) := nr rfl
set_option maxRecDepth 100000 in
theorem v0_186 (n d : Nat) (L : List (Option mL)) (S : List mV) (M : Mm) (Q : mQ) : vc (n + 1) d 0 186 L S M Q = (vc n d 0 187 L (.inl 1 :: S) M Q) := nr rfl
set_option maxRecDepth 100000 in
theorem v0_187 (n d : Nat) (L : List (Option mL)) (S : List mV) (M : Mm) (Q : mQ) : vc (n + 1) d 0 187 L S M Q = (pI S fun y S => pI S fun x S => vc n d 0 188 L (.inl (x + y) :: S) M Q) := nr rfl
set_option maxRecDepth 100000 in
theorem v0_188 (n d : Nat) (L : List (Option mL)) (S : List mV) (M : Mm) (Q : mQ) : vc (n + 1) d 0 188 L S M Q = (pI S fun i S => pA S fun a S => shA M a fun t k => (t = 40 ∨ t = 41) ∧ inB i k ∧ vc n d 0 189 L (.inl (M.it a i.toNatClampNeg) :: S) M Q) := nr rfl
set_option maxRecDepth 100000 in
theorem v0_189 (n d : Nat) (L : List (Option mL)) (S : List mV) (M : Mm) (Q : mQ) : vc (n + 1) d 0 189 L S M Q = (gR L 0 fun x => vc n d 0 190 L (.inr (.inr x) :: S) M Q) := nr rfl
set_option maxRecDepth 100000 in
theorem v0_190 (n d : Nat) (L : List (Option mL)) (S : List mV) (M : Mm) (Q : mQ) : vc (n + 1) d 0 190 L S M Q = (gI L 3 fun x => vc n d 0 191 L (.inl x :: S) M Q) := nr rfl
set_option maxRecDepth 100000 in
theorem v0_191 (n d : Nat) (L : List (Option mL)) (S : List mV) (M : Mm) (Q : mQ) : vc (n + 1) d 0 191 L S M Q = (vc n d 0 192 L (.inl 2 :: S) M Q) := nr rfl
set_option maxRecDepth 100000 in
theorem v0_192 (n d : Nat) (L : List (Option mL)) (S : List mV) (M : Mm) (Q : mQ) : vc (n + 1) d 0 192 L S M Q = (pI S fun y S => pI S fun x S => vc n d 0 193 L (.inl (x + y) :: S) M Q) := nr rfl
set_option maxRecDepth 100000 in
theorem v0_193 (n d : Nat) (L : List (Option mL)) (S : List mV) (M : Mm) (Q : mQ) : vc (n + 1) d 0 193 L S M Q = (pI S fun i S => pA S fun a S => shA M a fun t k => (t = 40 ∨ t = 41) ∧ inB i k ∧ vc n d 0 194 L (.inl (M.it a i.toNatClampNeg) :: S) M Q) := nr rfl
set_option maxRecDepth 100000 in
theorem v0_194 (n d : Nat) (L : List (Option mL)) (S : List mV) (M : Mm) (Q : mQ) : vc (n + 1) d 0 194 L S M Q = (pAs 2 S fun as S => pA S fun a S => shO M a 0 (stk S ≤ 8 ∧ XC d 44 (.inr (some a) :: as) M (fun r M => ∃ x : Int32, r = some (.inl x) ∧ X d 0 197 L (.inl x :: S) M Q))) := nr rfl
set_option maxRecDepth 100000 in
theorem v0_197 (n d : Nat) (L : List (Option mL)) (S : List mV) (M : Mm) (Q : mQ) : vc (n + 1) d 0 197 L S M Q = (gR L 2 fun x => vc n d 0 198 L (.inr (.inr x) :: S) M Q) := nr rfl
set_option maxRecDepth 100000 in
theorem v0_198 (n d : Nat) (L : List (Option mL)) (S : List mV) (M : Mm) (Q : mQ) : vc (n + 1) d 0 198 L S M Q = (gR L 0 fun x => vc n d 0 199 L (.inr (.inr x) :: S) M Q) := nr rfl
set_option maxRecDepth 100000 in
theorem v0_199 (n d : Nat) (L : List (Option mL)) (S : List mV) (M : Mm) (Q : mQ) : vc (n + 1) d 0 199 L S M Q = (gI L 3 fun x => vc n d 0 200 L (.inl x :: S) M Q) := nr rfl
set_option maxRecDepth 100000 in
theorem v0_200 (n d : Nat) (L : List (Option mL)) (S : List mV) (M : Mm) (Q : mQ) : vc (n + 1) d 0 200 L S M Q = (vc n d 0 201 L (.inl 1 :: S) M Q) := nr rfl
set_option maxRecDepth 100000 in
theorem v0_201 (n d : Nat) (L : List (Option mL)) (S : List mV) (M : Mm) (Q : mQ) : vc (n + 1) d 0 201 L S M Q = (pI S fun y S => pI S fun x S => vc n d 0 202 L (.inl (x + y) :: S) M Q) := nr rfl
set_option maxRecDepth 100000 in
theorem v0_202 (n d : Nat) (L : List (Option mL)) (S : List mV) (M : Mm) (Q : mQ) : vc (n + 1) d 0 202 L S M Q = (pI S fun i S => pA S fun a S => shA M a fun t k => (t = 40 ∨ t = 41) ∧ inB i k ∧ vc n d 0 203 L (.inl (M.it a i.toNatClampNeg) :: S) M Q) := nr rfl
set_option maxRecDepth 100000 in
theorem v0_203 (n d : Nat) (L : List (Option mL)) (S : List mV) (M : Mm) (Q : mQ) : vc (n + 1) d 0 203 L S M Q = (gR L 0 fun x => vc n d 0 204 L (.inr (.inr x) :: S) M Q) := nr rfl
set_option maxRecDepth 100000 in
theorem v0_204 (n d : Nat) (L : List (Option mL)) (S : List mV) (M : Mm) (Q : mQ) : vc (n + 1) d 0 204 L S M Q = (gI L 3 fun x => vc n d 0 205 L (.inl x :: S) M Q) := nr rfl
set_option maxRecDepth 100000 in
theorem v0_205 (n d : Nat) (L : List (Option mL)) (S : List mV) (M : Mm) (Q : mQ) : vc (n + 1) d 0 205 L S M Q = (vc n d 0 206 L (.inl 2 :: S) M Q) := nr rfl
set_option maxRecDepth 100000 in
theorem v0_206 (n d : Nat) (L : List (Option mL)) (S : List mV) (M : Mm) (Q : mQ) : vc (n + 1) d 0 206 L S M Q = (pI S fun y S => pI S fun x S => vc n d 0 207 L (.inl (x + y) :: S) M Q) := nr rfl
set_option maxRecDepth 100000 in
theorem v0_207 (n d : Nat) (L : List (Option mL)) (S : List mV) (M : Mm) (Q : mQ) : vc (n + 1) d 0 207 L S M Q = (pI S fun i S => pA S fun a S => shA M a fun t k => (t = 40 ∨ t = 41) ∧ inB i k ∧ vc n d 0 208 L (.inl (M.it a i.toNatClampNeg) :: S) M Q) := nr rfl
set_option maxRecDepth 100000 in
theorem v0_208 (n d : Nat) (L : List (Option mL)) (S : List mV) (M : Mm) (Q : mQ) : vc (n + 1) d 0 208 L S M Q = (pAs 2 S fun as S => pA S fun a S => shO M a 10 (stk S ≤ 8 ∧ XC d 118 (.inr (some a) :: as) M (fun r M => ∃ x : Int32, r = some (.inl x) ∧ X d 0 211 L (.inl x :: S) M Q))) := nr rfl
set_option maxRecDepth 100000 in
theorem v0_211 (n d : Nat) (L : List (Option mL)) (S : List mV) (M : Mm) (Q : mQ) : vc (n + 1) d 0 211 L S M Q = (pI S fun y S => pI S fun x S => (x = y → vc n d 0 604 L S M Q) ∧ (¬ (x = y) → vc n d 0 214 L S M Q)) := nr rfl
set_option maxRecDepth 100000 in
theorem v0_214 (n d : Nat) (L : List (Option mL)) (S : List mV) (M : Mm) (Q : mQ) : vc (n + 1) d 0 214 L S M Q = (vc n d 0 215 L (.inl 0 :: S) M Q) := nr rfl
set_option maxRecDepth 100000 in
theorem v0_215 (n d : Nat) (L : List (Option mL)) (S : List mV) (M : Mm) (Q : mQ) : vc (n + 1) d 0 215 L S M Q = (pI S fun x S => S = [] ∧ (1 = 0 ∨ x = 0 ∨ x = 1) ∧ Q (some (.inl x)) M) := nr rfl
set_option maxRecDepth 100000 in
theorem v0_216 (n d : Nat) (L : List (Option mL)) (S : List mV) (M : Mm) (Q : mQ) : vc (n + 1) d 0 216 L S M Q = (gR L 1 fun x => vc n d 0 217 L (.inr (.inr x) :: S) M Q) := nr rfl
set_option maxRecDepth 100000 in
theorem v0_217 (n d : Nat) (L : List (Option mL)) (S : List mV) (M : Mm) (Q : mQ) : vc (n + 1) d 0 217 L S M Q = (gR L 0 fun x => vc n d 0 218 L (.inr (.inr x) :: S) M Q) := nr rfl
set_option maxRecDepth 100000 in
theorem v0_218 (n d : Nat) (L : List (Option mL)) (S : List mV) (M : Mm) (Q : mQ) : vc (n + 1) d 0 218 L S M Q = (gI L 3 fun x => vc n d 0 219 L (.inl x :: S) M Q) := nr rfl
set_option maxRecDepth 100000 in
theorem v0_219 (n d : Nat) (L : List (Option mL)) (S : List mV) (M : Mm) (Q : mQ) : vc (n + 1) d 0 219 L S M Q = (vc n d 0 220 L (.inl 1 :: S) M Q) := nr rfl
set_option maxRecDepth 100000 in
theorem v0_220 (n d : Nat) (L : List (Option mL)) (S : List mV) (M : Mm) (Q : mQ) : vc (n + 1) d 0 220 L S M Q = (pI S fun y S => pI S fun x S => vc n d 0 221 L (.inl (x + y) :: S) M Q) := nr rfl
set_option maxRecDepth 100000 in
theorem v0_221 (n d : Nat) (L : List (Option mL)) (S : List mV) (M : Mm) (Q : mQ) : vc (n + 1) d 0 221 L S M Q = (pI S fun i S => pA S fun a S => shA M a fun t k => (t = 40 ∨ t = 41) ∧ inB i k ∧ vc n d 0 222 L (.inl (M.it a i.toNatClampNeg) :: S) M Q) := nr rfl
set_option maxRecDepth 100000 in
theorem v0_222 (n d : Nat) (L : List (Option mL)) (S : List mV) (M : Mm) (Q : mQ) : vc (n + 1) d 0 222 L S M Q = (pAs 1 S fun as S => pA S fun a S => shO M a 0 (stk S ≤ 8 ∧ XC d 59 (.inr (some a) :: as) M (fun r M => ∃ x : Int32, r = some (.inl x) ∧ X d 0 225 L (.inl x :: S) M Q))) := nr rfl
set_option maxRecDepth 100000 in
theorem v0_225 (n d : Nat) (L : List (Option mL)) (S : List mV) (M : Mm) (Q : mQ) : vc (n + 1) d 0 225 L S M Q = (gR L 2 fun x => vc n d 0 226 L (.inr (.inr x) :: S) M Q) := nr rfl
set_option maxRecDepth 100000 in
theorem v0_226 (n d : Nat) (L : List (Option mL)) (S : List mV) (M : Mm) (Q : mQ) : vc (n + 1) d 0 226 L S M Q = (gR L 0 fun x => vc n d 0 227 L (.inr (.inr x) :: S) M Q) := nr rfl
set_option maxRecDepth 100000 in
theorem v0_227 (n d : Nat) (L : List (Option mL)) (S : List mV) (M : Mm) (Q : mQ) : vc (n + 1) d 0 227 L S M Q = (gI L 3 fun x => vc n d 0 228 L (.inl x :: S) M Q) := nr rfl
set_option maxRecDepth 100000 in
theorem v0_228 (n d : Nat) (L : List (Option mL)) (S : List mV) (M : Mm) (Q : mQ) : vc (n + 1) d 0 228 L S M Q = (vc n d 0 229 L (.inl 1 :: S) M Q) := nr rfl
set_option maxRecDepth 100000 in
theorem v0_229 (n d : Nat) (L : List (Option mL)) (S : List mV) (M : Mm) (Q : mQ) : vc (n + 1) d 0 229 L S M Q = (pI S fun y S => pI S fun x S => vc n d 0 230 L (.inl (x + y) :: S) M Q) := nr rfl
set_option maxRecDepth 100000 in
theorem v0_230 (n d : Nat) (L : List (Option mL)) (S : List mV) (M : Mm) (Q : mQ) : vc (n + 1) d 0 230 L S M Q = (pI S fun i S => pA S fun a S => shA M a fun t k => (t = 40 ∨ t = 41) ∧ inB i k ∧ vc n d 0 231 L (.inl (M.it a i.toNatClampNeg) :: S) M Q) := nr rfl
set_option maxRecDepth 100000 in
theorem v0_231 (n d : Nat) (L : List (Option mL)) (S : List mV) (M : Mm) (Q : mQ) : vc (n + 1) d 0 231 L S M Q = (pAs 1 S fun as S => pA S fun a S => shO M a 10 (stk S ≤ 8 ∧ XC d 128 (.inr (some a) :: as) M (fun r M => ∃ x : Int32, r = some (.inl x) ∧ X d 0 234 L (.inl x :: S) M Q))) := nr rfl
set_option maxRecDepth 100000 in
theorem v0_234 (n d : Nat) (L : List (Option mL)) (S : List mV) (M : Mm) (Q : mQ) : vc (n + 1) d 0 234 L S M Q = (pI S fun y S => pI S fun x S => (x = y → vc n d 0 604 L S M Q) ∧ (¬ (x = y) → vc n d 0 237 L S M Q)) := nr rfl
set_option maxRecDepth 100000 in
theorem v0_237 (n d : Nat) (L : List (Option mL)) (S : List mV) (M : Mm) (Q : mQ) : vc (n + 1) d 0 237 L S M Q = (vc n d 0 238 L (.inl 0 :: S) M Q) := nr rfl
set_option maxRecDepth 100000 in
theorem v0_238 (n d : Nat) (L : List (Option mL)) (S : List mV) (M : Mm) (Q : mQ) : vc (n + 1) d 0 238 L S M Q = (pI S fun x S => S = [] ∧ (1 = 0 ∨ x = 0 ∨ x = 1) ∧ Q (some (.inl x)) M) := nr rfl
set_option maxRecDepth 100000 in
theorem v0_239 (n d : Nat) (L : List (Option mL)) (S : List mV) (M : Mm) (Q : mQ) : vc (n + 1) d 0 239 L S M Q = (gR L 1 fun x => vc n d 0 240 L (.inr (.inr x) :: S) M Q) := nr rfl
set_option maxRecDepth 100000 in
theorem v0_240 (n d : Nat) (L : List (Option mL)) (S : List mV) (M : Mm) (Q : mQ) : vc (n + 1) d 0 240 L S M Q = (gR L 0 fun x => vc n d 0 241 L (.inr (.inr x) :: S) M Q) := nr rfl
set_option maxRecDepth 100000 in
theorem v0_241 (n d : Nat) (L : List (Option mL)) (S : List mV) (M : Mm) (Q : mQ) : vc (n + 1) d 0 241 L S M Q = (gI L 3 fun x => vc n d 0 242 L (.inl x :: S) M Q) := nr rfl
set_option maxRecDepth 100000 in
theorem v0_242 (n d : Nat) (L : List (Option mL)) (S : List mV) (M : Mm) (Q : mQ) : vc (n + 1) d 0 242 L S M Q = (vc n d 0 243 L (.inl 1 :: S) M Q) := nr rfl
set_option maxRecDepth 100000 in
theorem v0_243 (n d : Nat) (L : List (Option mL)) (S : List mV) (M : Mm) (Q : mQ) : vc (n + 1) d 0 243 L S M Q = (pI S fun y S => pI S fun x S => vc n d 0 244 L (.inl (x + y) :: S) M Q) := nr rfl
set_option maxRecDepth 100000 in
theorem v0_244 (n d : Nat) (L : List (Option mL)) (S : List mV) (M : Mm) (Q : mQ) : vc (n + 1) d 0 244 L S M Q = (pI S fun i S => pA S fun a S => shA M a fun t k => (t = 40 ∨ t = 41) ∧ inB i k ∧ vc n d 0 245 L (.inl (M.it a i.toNatClampNeg) :: S) M Q) := nr rfl
set_option maxRecDepth 100000 in
theorem v0_245 (n d : Nat) (L : List (Option mL)) (S : List mV) (M : Mm) (Q : mQ) : vc (n + 1) d 0 245 L S M Q = (pAs 1 S fun as S => pA S fun a S => shO M a 0 (stk S ≤ 8 ∧ XC d 62 (.inr (some a) :: as) M (fun r M => ∃ x : Int32, r = some (.inl x) ∧ X d 0 248 L (.inl x :: S) M Q))) := nr rfl
set_option maxRecDepth 100000 in
theorem v0_248 (n d : Nat) (L : List (Option mL)) (S : List mV) (M : Mm) (Q : mQ) : vc (n + 1) d 0 248 L S M Q = (gR L 2 fun x => vc n d 0 249 L (.inr (.inr x) :: S) M Q) := nr rfl
set_option maxRecDepth 100000 in
theorem v0_249 (n d : Nat) (L : List (Option mL)) (S : List mV) (M : Mm) (Q : mQ) : vc (n + 1) d 0 249 L S M Q = (gR L 0 fun x => vc n d 0 250 L (.inr (.inr x) :: S) M Q) := nr rfl
set_option maxRecDepth 100000 in
theorem v0_250 (n d : Nat) (L : List (Option mL)) (S : List mV) (M : Mm) (Q : mQ) : vc (n + 1) d 0 250 L S M Q = (gI L 3 fun x => vc n d 0 251 L (.inl x :: S) M Q) := nr rfl
set_option maxRecDepth 100000 in
theorem v0_251 (n d : Nat) (L : List (Option mL)) (S : List mV) (M : Mm) (Q : mQ) : vc (n + 1) d 0 251 L S M Q = (vc n d 0 252 L (.inl 1 :: S) M Q) := nr rfl
set_option maxRecDepth 100000 in
theorem v0_252 (n d : Nat) (L : List (Option mL)) (S : List mV) (M : Mm) (Q : mQ) : vc (n + 1) d 0 252 L S M Q = (pI S fun y S => pI S fun x S => vc n d 0 253 L (.inl (x + y) :: S) M Q) := nr rfl
set_option maxRecDepth 100000 in
theorem v0_253 (n d : Nat) (L : List (Option mL)) (S : List mV) (M : Mm) (Q : mQ) : vc (n + 1) d 0 253 L S M Q = (pI S fun i S => pA S fun a S => shA M a fun t k => (t = 40 ∨ t = 41) ∧ inB i k ∧ vc n d 0 254 L (.inl (M.it a i.toNatClampNeg) :: S) M Q) := nr rfl
set_option maxRecDepth 100000 in
theorem v0_254 (n d : Nat) (L : List (Option mL)) (S : List mV) (M : Mm) (Q : mQ) : vc (n + 1) d 0 254 L S M Q = (pAs 1 S fun as S => pA S fun a S => shO M a 10 (stk S ≤ 8 ∧ XC d 130 (.inr (some a) :: as) M (fun r M => ∃ x : Int32, r = some (.inl x) ∧ X d 0 257 L (.inl x :: S) M Q))) := nr rfl
set_option maxRecDepth 100000 in
theorem v0_257 (n d : Nat) (L : List (Option mL)) (S : List mV) (M : Mm) (Q : mQ) : vc (n + 1) d 0 257 L S M Q = (pI S fun y S => pI S fun x S => (x = y → vc n d 0 604 L S M Q) ∧ (¬ (x = y) → vc n d 0 260 L S M Q)) := nr rfl
set_option maxRecDepth 100000 in
theorem v0_260 (n d : Nat) (L : List (Option mL)) (S : List mV) (M : Mm) (Q : mQ) : vc (n + 1) d 0 260 L S M Q = (vc n d 0 261 L (.inl 0 :: S) M Q) := nr rfl
set_option maxRecDepth 100000 in
theorem v0_261 (n d : Nat) (L : List (Option mL)) (S : List mV) (M : Mm) (Q : mQ) : vc (n + 1) d 0 261 L S M Q = (pI S fun x S => S = [] ∧ (1 = 0 ∨ x = 0 ∨ x = 1) ∧ Q (some (.inl x)) M) := nr rfl
set_option maxRecDepth 100000 in
theorem v0_262 (n d : Nat) (L : List (Option mL)) (S : List mV) (M : Mm) (Q : mQ) : vc (n + 1) d 0 262 L S M Q = (gR L 1 fun x => vc n d 0 263 L (.inr (.inr x) :: S) M Q) := nr rfl
set_option maxRecDepth 100000 in
theorem v0_263 (n d : Nat) (L : List (Option mL)) (S : List mV) (M : Mm) (Q : mQ) : vc (n + 1) d 0 263 L S M Q = (gR L 0 fun x => vc n d 0 264 L (.inr (.inr x) :: S) M Q) := nr rfl
set_option maxRecDepth 100000 in
theorem v0_264 (n d : Nat) (L : List (Option mL)) (S : List mV) (M : Mm) (Q : mQ) : vc (n + 1) d 0 264 L S M Q = (gI L 3 fun x => vc n d 0 265 L (.inl x :: S) M Q) := nr rfl
set_option maxRecDepth 100000 in
theorem v0_265 (n d : Nat) (L : List (Option mL)) (S : List mV) (M : Mm) (Q : mQ) : vc (n + 1) d 0 265 L S M Q = (vc n d 0 266 L (.inl 1 :: S) M Q) := nr rfl
set_option maxRecDepth 100000 in
theorem v0_266 (n d : Nat) (L : List (Option mL)) (S : List mV) (M : Mm) (Q : mQ) : vc (n + 1) d 0 266 L S M Q = (pI S fun y S => pI S fun x S => vc n d 0 267 L (.inl (x + y) :: S) M Q) := nr rfl
set_option maxRecDepth 100000 in
theorem v0_267 (n d : Nat) (L : List (Option mL)) (S : List mV) (M : Mm) (Q : mQ) : vc (n + 1) d 0 267 L S M Q = (pI S fun i S => pA S fun a S => shA M a fun t k => (t = 40 ∨ t = 41) ∧ inB i k ∧ vc n d 0 268 L (.inl (M.it a i.toNatClampNeg) :: S) M Q) := nr rfl
set_option maxRecDepth 100000 in
theorem v0_268 (n d : Nat) (L : List (Option mL)) (S : List mV) (M : Mm) (Q : mQ) : vc (n + 1) d 0 268 L S M Q = (pAs 1 S fun as S => pA S fun a S => shO M a 0 (stk S ≤ 8 ∧ XC d 63 (.inr (some a) :: as) M (fun r M => ∃ x : Int32, r = some (.inl x) ∧ X d 0 271 L (.inl x :: S) M Q))) := nr rfl
set_option maxRecDepth 100000 in
theorem v0_271 (n d : Nat) (L : List (Option mL)) (S : List mV) (M : Mm) (Q : mQ) : vc (n + 1) d 0 271 L S M Q = (gR L 2 fun x => vc n d 0 272 L (.inr (.inr x) :: S) M Q) := nr rfl
set_option maxRecDepth 100000 in
theorem v0_272 (n d : Nat) (L : List (Option mL)) (S : List mV) (M : Mm) (Q : mQ) : vc (n + 1) d 0 272 L S M Q = (gR L 0 fun x => vc n d 0 273 L (.inr (.inr x) :: S) M Q) := nr rfl
set_option maxRecDepth 100000 in
theorem v0_273 (n d : Nat) (L : List (Option mL)) (S : List mV) (M : Mm) (Q : mQ) : vc (n + 1) d 0 273 L S M Q = (gI L 3 fun x => vc n d 0 274 L (.inl x :: S) M Q) := nr rfl
set_option maxRecDepth 100000 in
theorem v0_274 (n d : Nat) (L : List (Option mL)) (S : List mV) (M : Mm) (Q : mQ) : vc (n + 1) d 0 274 L S M Q = (vc n d 0 275 L (.inl 1 :: S) M Q) := nr rfl
set_option maxRecDepth 100000 in
theorem v0_275 (n d : Nat) (L : List (Option mL)) (S : List mV) (M : Mm) (Q : mQ) : vc (n + 1) d 0 275 L S M Q = (pI S fun y S => pI S fun x S => vc n d 0 276 L (.inl (x + y) :: S) M Q) := nr rfl
set_option maxRecDepth 100000 in
theorem v0_276 (n d : Nat) (L : List (Option mL)) (S : List mV) (M : Mm) (Q : mQ) : vc (n + 1) d 0 276 L S M Q = (pI S fun i S => pA S fun a S => shA M a fun t k => (t = 40 ∨ t = 41) ∧ inB i k ∧ vc n d 0 277 L (.inl (M.it a i.toNatClampNeg) :: S) M Q) := nr rfl
set_option maxRecDepth 100000 in
theorem v0_277 (n d : Nat) (L : List (Option mL)) (S : List mV) (M : Mm) (Q : mQ) : vc (n + 1) d 0 277 L S M Q = (pAs 1 S fun as S => pA S fun a S => shO M a 10 (stk S ≤ 8 ∧ XC d 137 (.inr (some a) :: as) M (fun r M => ∃ x : Int32, r = some (.inl x) ∧ X d 0 280 L (.inl x :: S) M Q))) := nr rfl
set_option maxRecDepth 100000 in
theorem v0_280 (n d : Nat) (L : List (Option mL)) (S : List mV) (M : Mm) (Q : mQ) : vc (n + 1) d 0 280 L S M Q = (pI S fun y S => pI S fun x S => (x = y → vc n d 0 604 L S M Q) ∧ (¬ (x = y) → vc n d 0 283 L S M Q)) := nr rfl
set_option maxRecDepth 100000 in
theorem v0_283 (n d : Nat) (L : List (Option mL)) (S : List mV) (M : Mm) (Q : mQ) : vc (n + 1) d 0 283 L S M Q = (vc n d 0 284 L (.inl 0 :: S) M Q) := nr rfl
set_option maxRecDepth 100000 in
theorem v0_284 (n d : Nat) (L : List (Option mL)) (S : List mV) (M : Mm) (Q : mQ) : vc (n + 1) d 0 284 L S M Q = (pI S fun x S => S = [] ∧ (1 = 0 ∨ x = 0 ∨ x = 1) ∧ Q (some (.inl x)) M) := nr rfl
set_option maxRecDepth 100000 in
theorem v0_285 (n d : Nat) (L : List (Option mL)) (S : List mV) (M : Mm) (Q : mQ) : vc (n + 1) d 0 285 L S M Q = (gR L 1 fun x => vc n d 0 286 L (.inr (.inr x) :: S) M Q) := nr rfl
set_option maxRecDepth 100000 in
theorem v0_286 (n d : Nat) (L : List (Option mL)) (S : List mV) (M : Mm) (Q : mQ) : vc (n + 1) d 0 286 L S M Q = (gR L 0 fun x => vc n d 0 287 L (.inr (.inr x) :: S) M Q) := nr rfl
set_option maxRecDepth 100000 in
theorem v0_287 (n d : Nat) (L : List (Option mL)) (S : List mV) (M : Mm) (Q : mQ) : vc (n + 1) d 0 287 L S M Q = (gI L 3 fun x => vc n d 0 288 L (.inl x :: S) M Q) := nr rfl
set_option maxRecDepth 100000 in
theorem v0_288 (n d : Nat) (L : List (Option mL)) (S : List mV) (M : Mm) (Q : mQ) : vc (n + 1) d 0 288 L S M Q = (vc n d 0 289 L (.inl 1 :: S) M Q) := nr rfl
set_option maxRecDepth 100000 in
theorem v0_289 (n d : Nat) (L : List (Option mL)) (S : List mV) (M : Mm) (Q : mQ) : vc (n + 1) d 0 289 L S M Q = (pI S fun y S => pI S fun x S => vc n d 0 290 L (.inl (x + y) :: S) M Q) := nr rfl
set_option maxRecDepth 100000 in
theorem v0_290 (n d : Nat) (L : List (Option mL)) (S : List mV) (M : Mm) (Q : mQ) : vc (n + 1) d 0 290 L S M Q = (pI S fun i S => pA S fun a S => shA M a fun t k => (t = 40 ∨ t = 41) ∧ inB i k ∧ vc n d 0 291 L (.inl (M.it a i.toNatClampNeg) :: S) M Q) := nr rfl
set_option maxRecDepth 100000 in
theorem v0_291 (n d : Nat) (L : List (Option mL)) (S : List mV) (M : Mm) (Q : mQ) : vc (n + 1) d 0 291 L S M Q = (pAs 1 S fun as S => pA S fun a S => shO M a 0 (stk S ≤ 8 ∧ XC d 64 (.inr (some a) :: as) M (fun r M => ∃ x : Int32, r = some (.inl x) ∧ X d 0 294 L (.inl x :: S) M Q))) := nr rfl
set_option maxRecDepth 100000 in
theorem v0_294 (n d : Nat) (L : List (Option mL)) (S : List mV) (M : Mm) (Q : mQ) : vc (n + 1) d 0 294 L S M Q = (gR L 2 fun x => vc n d 0 295 L (.inr (.inr x) :: S) M Q) := nr rfl
set_option maxRecDepth 100000 in
theorem v0_295 (n d : Nat) (L : List (Option mL)) (S : List mV) (M : Mm) (Q : mQ) : vc (n + 1) d 0 295 L S M Q = (gR L 0 fun x => vc n d 0 296 L (.inr (.inr x) :: S) M Q) := nr rfl
set_option maxRecDepth 100000 in
theorem v0_296 (n d : Nat) (L : List (Option mL)) (S : List mV) (M : Mm) (Q : mQ) : vc (n + 1) d 0 296 L S M Q = (gI L 3 fun x => vc n d 0 297 L (.inl x :: S) M Q) := nr rfl
set_option maxRecDepth 100000 in
theorem v0_297 (n d : Nat) (L : List (Option mL)) (S : List mV) (M : Mm) (Q : mQ) : vc (n + 1) d 0 297 L S M Q = (vc n d 0 298 L (.inl 1 :: S) M Q) := nr rfl
set_option maxRecDepth 100000 in
theorem v0_298 (n d : Nat) (L : List (Option mL)) (S : List mV) (M : Mm) (Q : mQ) : vc (n + 1) d 0 298 L S M Q = (pI S fun y S => pI S fun x S => vc n d 0 299 L (.inl (x + y) :: S) M Q) := nr rfl
set_option maxRecDepth 100000 in
theorem v0_299 (n d : Nat) (L : List (Option mL)) (S : List mV) (M : Mm) (Q : mQ) : vc (n + 1) d 0 299 L S M Q = (pI S fun i S => pA S fun a S => shA M a fun t k => (t = 40 ∨ t = 41) ∧ inB i k ∧ vc n d 0 300 L (.inl (M.it a i.toNatClampNeg) :: S) M Q) := nr rfl
set_option maxRecDepth 100000 in
theorem v0_300 (n d : Nat) (L : List (Option mL)) (S : List mV) (M : Mm) (Q : mQ) : vc (n + 1) d 0 300 L S M Q = (pAs 1 S fun as S => pA S fun a S => shO M a 10 (stk S ≤ 8 ∧ XC d 138 (.inr (some a) :: as) M (fun r M => ∃ x : Int32, r = some (.inl x) ∧ X d 0 303 L (.inl x :: S) M Q))) := nr rfl
set_option maxRecDepth 100000 in
theorem v0_303 (n d : Nat) (L : List (Option mL)) (S : List mV) (M : Mm) (Q : mQ) : vc (n + 1) d 0 303 L S M Q = (pI S fun y S => pI S fun x S => (x = y → vc n d 0 604 L S M Q) ∧ (¬ (x = y) → vc n d 0 306 L S M Q)) := nr rfl
set_option maxRecDepth 100000 in
theorem v0_306 (n d : Nat) (L : List (Option mL)) (S : List mV) (M : Mm) (Q : mQ) : vc (n + 1) d 0 306 L S M Q = (vc n d 0 307 L (.inl 0 :: S) M Q) := nr rfl
set_option maxRecDepth 100000 in
theorem v0_307 (n d : Nat) (L : List (Option mL)) (S : List mV) (M : Mm) (Q : mQ) : vc (n + 1) d 0 307 L S M Q = (pI S fun x S => S = [] ∧ (1 = 0 ∨ x = 0 ∨ x = 1) ∧ Q (some (.inl x)) M) := nr rfl
set_option maxRecDepth 100000 in
theorem v0_308 (n d : Nat) (L : List (Option mL)) (S : List mV) (M : Mm) (Q : mQ) : vc (n + 1) d 0 308 L S M Q = (gR L 1 fun x => vc n d 0 309 L (.inr (.inr x) :: S) M Q) := nr rfl
set_option maxRecDepth 100000 in
theorem v0_309 (n d : Nat) (L : List (Option mL)) (S : List mV) (M : Mm) (Q : mQ) : vc (n + 1) d 0 309 L S M Q = (pAs 0 S fun as S => pA S fun a S => shO M a 0 (stk S ≤ 8 ∧ XC d 65 (.inr (some a) :: as) M (fun r M => ∃ x : Int32, r = some (.inl x) ∧ X d 0 312 L (.inl x :: S) M Q))) := nr rfl
set_option maxRecDepth 100000 in
theorem v0_312 (n d : Nat) (L : List (Option mL)) (S : List mV) (M : Mm) (Q : mQ) : vc (n + 1) d 0 312 L S M Q = (gR L 2 fun x => vc n d 0 313 L (.inr (.inr x) :: S) M Q) := nr rfl
set_option maxRecDepth 100000 in
theorem v0_313 (n d : Nat) (L : List (Option mL)) (S : List mV) (M : Mm) (Q : mQ) : vc (n + 1) d 0 313 L S M Q = (pAs 0 S fun as S => pA S fun a S => shO M a 10 (stk S ≤ 8 ∧ XC d 139 (.inr (some a) :: as) M (fun r M => ∃ x : Int32, r = some (.inl x) ∧ X d 0 316 L (.inl x :: S) M Q))) := nr rfl
set_option maxRecDepth 100000 in
theorem v0_316 (n d : Nat) (L : List (Option mL)) (S : List mV) (M : Mm) (Q : mQ) : vc (n + 1) d 0 316 L S M Q = (pI S fun y S => pI S fun x S => (x = y → vc n d 0 604 L S M Q) ∧ (¬ (x = y) → vc n d 0 319 L S M Q)) := nr rfl
set_option maxRecDepth 100000 in
theorem v0_319 (n d : Nat) (L : List (Option mL)) (S : List mV) (M : Mm) (Q : mQ) : vc (n + 1) d 0 319 L S M Q = (vc n d 0 320 L (.inl 0 :: S) M Q) := nr rfl
set_option maxRecDepth 100000 in
theorem v0_320 (n d : Nat) (L : List (Option mL)) (S : List mV) (M : Mm) (Q : mQ) : vc (n + 1) d 0 320 L S M Q = (pI S fun x S => S = [] ∧ (1 = 0 ∨ x = 0 ∨ x = 1) ∧ Q (some (.inl x)) M) := nr rfl
set_option maxRecDepth 100000 in
theorem v0_321 (n d : Nat) (L : List (Option mL)) (S : List mV) (M : Mm) (Q : mQ) : vc (n + 1) d 0 321 L S M Q = (gR L 1 fun x => vc n d 0 322 L (.inr (.inr x) :: S) M Q) := nr rfl
set_option maxRecDepth 100000 in
theorem v0_322 (n d : Nat) (L : List (Option mL)) (S : List mV) (M : Mm) (Q : mQ) : vc (n + 1) d 0 322 L S M Q = (gR L 0 fun x => vc n d 0 323 L (.inr (.inr x) :: S) M Q) := nr rfl
set_option maxRecDepth 100000 in
theorem v0_323 (n d : Nat) (L : List (Option mL)) (S : List mV) (M : Mm) (Q : mQ) : vc (n + 1) d 0 323 L S M Q = (gI L 3 fun x => vc n d 0 324 L (.inl x :: S) M Q) := nr rfl
set_option maxRecDepth 100000 in
theorem v0_324 (n d : Nat) (L : List (Option mL)) (S : List mV) (M : Mm) (Q : mQ) : vc (n + 1) d 0 324 L S M Q = (vc n d 0 325 L (.inl 1 :: S) M Q) := nr rfl
set_option maxRecDepth 100000 in
theorem v0_325 (n d : Nat) (L : List (Option mL)) (S : List mV) (M : Mm) (Q : mQ) : vc (n + 1) d 0 325 L S M Q = (pI S fun y S => pI S fun x S => vc n d 0 326 L (.inl (x + y) :: S) M Q) := nr rfl
set_option maxRecDepth 100000 in
theorem v0_326 (n d : Nat) (L : List (Option mL)) (S : List mV) (M : Mm) (Q : mQ) : vc (n + 1) d 0 326 L S M Q = (pI S fun i S => pA S fun a S => shA M a fun t k => (t = 40 ∨ t = 41) ∧ inB i k ∧ vc n d 0 327 L (.inl (M.it a i.toNatClampNeg) :: S) M Q) := nr rfl
set_option maxRecDepth 100000 in
theorem v0_327 (n d : Nat) (L : List (Option mL)) (S : List mV) (M : Mm) (Q : mQ) : vc (n + 1) d 0 327 L S M Q = (pAs 1 S fun as S => pA S fun a S => shO M a 0 (stk S ≤ 8 ∧ XC d 83 (.inr (some a) :: as) M (fun r M => ∃ x : Int32, r = some (.inl x) ∧ X d 0 330 L (.inl x :: S) M Q))) := nr rfl
set_option maxRecDepth 100000 in
theorem v0_330 (n d : Nat) (L : List (Option mL)) (S : List mV) (M : Mm) (Q : mQ) : vc (n + 1) d 0 330 L S M Q = (gR L 2 fun x => vc n d 0 331 L (.inr (.inr x) :: S) M Q) := nr rfl
set_option maxRecDepth 100000 in
theorem v0_331 (n d : Nat) (L : List (Option mL)) (S : List mV) (M : Mm) (Q : mQ) : vc (n + 1) d 0 331 L S M Q = (gR L 0 fun x => vc n d 0 332 L (.inr (.inr x) :: S) M Q) := nr rfl
set_option maxRecDepth 100000 in
theorem v0_332 (n d : Nat) (L : List (Option mL)) (S : List mV) (M : Mm) (Q : mQ) : vc (n + 1) d 0 332 L S M Q = (gI L 3 fun x => vc n d 0 333 L (.inl x :: S) M Q) := nr rfl
set_option maxRecDepth 100000 in
theorem v0_333 (n d : Nat) (L : List (Option mL)) (S : List mV) (M : Mm) (Q : mQ) : vc (n + 1) d 0 333 L S M Q = (vc n d 0 334 L (.inl 1 :: S) M Q) := nr rfl
set_option maxRecDepth 100000 in
theorem v0_334 (n d : Nat) (L : List (Option mL)) (S : List mV) (M : Mm) (Q : mQ) : vc (n + 1) d 0 334 L S M Q = (pI S fun y S => pI S fun x S => vc n d 0 335 L (.inl (x + y) :: S) M Q) := nr rfl
set_option maxRecDepth 100000 in
theorem v0_335 (n d : Nat) (L : List (Option mL)) (S : List mV) (M : Mm) (Q : mQ) : vc (n + 1) d 0 335 L S M Q = (pI S fun i S => pA S fun a S => shA M a fun t k => (t = 40 ∨ t = 41) ∧ inB i k ∧ vc n d 0 336 L (.inl (M.it a i.toNatClampNeg) :: S) M Q) := nr rfl
set_option maxRecDepth 100000 in
theorem v0_336 (n d : Nat) (L : List (Option mL)) (S : List mV) (M : Mm) (Q : mQ) : vc (n + 1) d 0 336 L S M Q = (pAs 1 S fun as S => pA S fun a S => shO M a 10 (stk S ≤ 8 ∧ XC d 145 (.inr (some a) :: as) M (fun r M => ∃ x : Int32, r = some (.inl x) ∧ X d 0 339 L (.inl x :: S) M Q))) := nr rfl
set_option maxRecDepth 100000 in
theorem v0_339 (n d : Nat) (L : List (Option mL)) (S : List mV) (M : Mm) (Q : mQ) : vc (n + 1) d 0 339 L S M Q = (pI S fun y S => pI S fun x S => (x = y → vc n d 0 604 L S M Q) ∧ (¬ (x = y) → vc n d 0 342 L S M Q)) := nr rfl
set_option maxRecDepth 100000 in
theorem v0_342 (n d : Nat) (L : List (Option mL)) (S : List mV) (M : Mm) (Q : mQ) : vc (n + 1) d 0 342 L S M Q = (vc n d 0 343 L (.inl 0 :: S) M Q) := nr rfl
set_option maxRecDepth 100000 in
theorem v0_343 (n d : Nat) (L : List (Option mL)) (S : List mV) (M : Mm) (Q : mQ) : vc (n + 1) d 0 343 L S M Q = (pI S fun x S => S = [] ∧ (1 = 0 ∨ x = 0 ∨ x = 1) ∧ Q (some (.inl x)) M) := nr rfl
set_option maxRecDepth 100000 in
theorem v0_344 (n d : Nat) (L : List (Option mL)) (S : List mV) (M : Mm) (Q : mQ) : vc (n + 1) d 0 344 L S M Q = (gR L 1 fun x => vc n d 0 345 L (.inr (.inr x) :: S) M Q) := nr rfl
set_option maxRecDepth 100000 in
theorem v0_345 (n d : Nat) (L : List (Option mL)) (S : List mV) (M : Mm) (Q : mQ) : vc (n + 1) d 0 345 L S M Q = (gR L 0 fun x => vc n d 0 346 L (.inr (.inr x) :: S) M Q) := nr rfl
set_option maxRecDepth 100000 in
theorem v0_346 (n d : Nat) (L : List (Option mL)) (S : List mV) (M : Mm) (Q : mQ) : vc (n + 1) d 0 346 L S M Q = (gI L 3 fun x => vc n d 0 347 L (.inl x :: S) M Q) := nr rfl
set_option maxRecDepth 100000 in
theorem v0_347 (n d : Nat) (L : List (Option mL)) (S : List mV) (M : Mm) (Q : mQ) : vc (n + 1) d 0 347 L S M Q = (vc n d 0 348 L (.inl 1 :: S) M Q) := nr rfl
set_option maxRecDepth 100000 in
theorem v0_348 (n d : Nat) (L : List (Option mL)) (S : List mV) (M : Mm) (Q : mQ) : vc (n + 1) d 0 348 L S M Q = (pI S fun y S => pI S fun x S => vc n d 0 349 L (.inl (x + y) :: S) M Q) := nr rfl
set_option maxRecDepth 100000 in
theorem v0_349 (n d : Nat) (L : List (Option mL)) (S : List mV) (M : Mm) (Q : mQ) : vc (n + 1) d 0 349 L S M Q = (pI S fun i S => pA S fun a S => shA M a fun t k => (t = 40 ∨ t = 41) ∧ inB i k ∧ vc n d 0 350 L (.inl (M.it a i.toNatClampNeg) :: S) M Q) := nr rfl
set_option maxRecDepth 100000 in
theorem v0_350 (n d : Nat) (L : List (Option mL)) (S : List mV) (M : Mm) (Q : mQ) : vc (n + 1) d 0 350 L S M Q = (pAs 1 S fun as S => pA S fun a S => shO M a 0 (stk S ≤ 8 ∧ XC d 90 (.inr (some a) :: as) M (fun r M => ∃ x : Int32, r = some (.inl x) ∧ X d 0 353 L (.inl x :: S) M Q))) := nr rfl
set_option maxRecDepth 100000 in
theorem v0_353 (n d : Nat) (L : List (Option mL)) (S : List mV) (M : Mm) (Q : mQ) : vc (n + 1) d 0 353 L S M Q = (gR L 2 fun x => vc n d 0 354 L (.inr (.inr x) :: S) M Q) := nr rfl
set_option maxRecDepth 100000 in
theorem v0_354 (n d : Nat) (L : List (Option mL)) (S : List mV) (M : Mm) (Q : mQ) : vc (n + 1) d 0 354 L S M Q = (gR L 0 fun x => vc n d 0 355 L (.inr (.inr x) :: S) M Q) := nr rfl
set_option maxRecDepth 100000 in
theorem v0_355 (n d : Nat) (L : List (Option mL)) (S : List mV) (M : Mm) (Q : mQ) : vc (n + 1) d 0 355 L S M Q = (gI L 3 fun x => vc n d 0 356 L (.inl x :: S) M Q) := nr rfl
set_option maxRecDepth 100000 in
theorem v0_356 (n d : Nat) (L : List (Option mL)) (S : List mV) (M : Mm) (Q : mQ) : vc (n + 1) d 0 356 L S M Q = (vc n d 0 357 L (.inl 1 :: S) M Q) := nr rfl
set_option maxRecDepth 100000 in
theorem v0_357 (n d : Nat) (L : List (Option mL)) (S : List mV) (M : Mm) (Q : mQ) : vc (n + 1) d 0 357 L S M Q = (pI S fun y S => pI S fun x S => vc n d 0 358 L (.inl (x + y) :: S) M Q) := nr rfl
set_option maxRecDepth 100000 in
theorem v0_358 (n d : Nat) (L : List (Option mL)) (S : List mV) (M : Mm) (Q : mQ) : vc (n + 1) d 0 358 L S M Q = (pI S fun i S => pA S fun a S => shA M a fun t k => (t = 40 ∨ t = 41) ∧ inB i k ∧ vc n d 0 359 L (.inl (M.it a i.toNatClampNeg) :: S) M Q) := nr rfl
set_option maxRecDepth 100000 in
theorem v0_359 (n d : Nat) (L : List (Option mL)) (S : List mV) (M : Mm) (Q : mQ) : vc (n + 1) d 0 359 L S M Q = (pAs 1 S fun as S => pA S fun a S => shO M a 10 (stk S ≤ 8 ∧ XC d 148 (.inr (some a) :: as) M (fun r M => ∃ x : Int32, r = some (.inl x) ∧ X d 0 362 L (.inl x :: S) M Q))) := nr rfl
set_option maxRecDepth 100000 in
theorem v0_362 (n d : Nat) (L : List (Option mL)) (S : List mV) (M : Mm) (Q : mQ) : vc (n + 1) d 0 362 L S M Q = (pI S fun y S => pI S fun x S => (x = y → vc n d 0 604 L S M Q) ∧ (¬ (x = y) → vc n d 0 365 L S M Q)) := nr rfl
set_option maxRecDepth 100000 in
theorem v0_365 (n d : Nat) (L : List (Option mL)) (S : List mV) (M : Mm) (Q : mQ) : vc (n + 1) d 0 365 L S M Q = (vc n d 0 366 L (.inl 0 :: S) M Q) := nr rfl
set_option maxRecDepth 100000 in
theorem v0_366 (n d : Nat) (L : List (Option mL)) (S : List mV) (M : Mm) (Q : mQ) : vc (n + 1) d 0 366 L S M Q = (pI S fun x S => S = [] ∧ (1 = 0 ∨ x = 0 ∨ x = 1) ∧ Q (some (.inl x)) M) := nr rfl
set_option maxRecDepth 100000 in
theorem v0_367 (n d : Nat) (L : List (Option mL)) (S : List mV) (M : Mm) (Q : mQ) : vc (n + 1) d 0 367 L S M Q = (gR L 1 fun x => vc n d 0 368 L (.inr (.inr x) :: S) M Q) := nr rfl
set_option maxRecDepth 100000 in
theorem v0_368 (n d : Nat) (L : List (Option mL)) (S : List mV) (M : Mm) (Q : mQ) : vc (n + 1) d 0 368 L S M Q = (gR L 0 fun x => vc n d 0 369 L (.inr (.inr x) :: S) M Q) := nr rfl
set_option maxRecDepth 100000 in
theorem v0_369 (n d : Nat) (L : List (Option mL)) (S : List mV) (M : Mm) (Q : mQ) : vc (n + 1) d 0 369 L S M Q = (gI L 3 fun x => vc n d 0 370 L (.inl x :: S) M Q) := nr rfl
set_option maxRecDepth 100000 in
theorem v0_370 (n d : Nat) (L : List (Option mL)) (S : List mV) (M : Mm) (Q : mQ) : vc (n + 1) d 0 370 L S M Q = (vc n d 0 371 L (.inl 1 :: S) M Q) := nr rfl
set_option maxRecDepth 100000 in
theorem v0_371 (n d : Nat) (L : List (Option mL)) (S : List mV) (M : Mm) (Q : mQ) : vc (n + 1) d 0 371 L S M Q = (pI S fun y S => pI S fun x S => vc n d 0 372 L (.inl (x + y) :: S) M Q) := nr rfl
set_option maxRecDepth 100000 in
theorem v0_372 (n d : Nat) (L : List (Option mL)) (S : List mV) (M : Mm) (Q : mQ) : vc (n + 1) d 0 372 L S M Q = (pI S fun i S => pA S fun a S => shA M a fun t k => (t = 40 ∨ t = 41) ∧ inB i k ∧ vc n d 0 373 L (.inl (M.it a i.toNatClampNeg) :: S) M Q) := nr rfl
set_option maxRecDepth 100000 in
theorem v0_373 (n d : Nat) (L : List (Option mL)) (S : List mV) (M : Mm) (Q : mQ) : vc (n + 1) d 0 373 L S M Q = (pAs 1 S fun as S => pA S fun a S => shO M a 0 (stk S ≤ 8 ∧ XC d 91 (.inr (some a) :: as) M (fun r M => ∃ x : Int32, r = some (.inl x) ∧ X d 0 376 L (.inl x :: S) M Q))) := nr rfl
set_option maxRecDepth 100000 in
theorem v0_376 (n d : Nat) (L : List (Option mL)) (S : List mV) (M : Mm) (Q : mQ) : vc (n + 1) d 0 376 L S M Q = (gR L 2 fun x => vc n d 0 377 L (.inr (.inr x) :: S) M Q) := nr rfl
set_option maxRecDepth 100000 in
theorem v0_377 (n d : Nat) (L : List (Option mL)) (S : List mV) (M : Mm) (Q : mQ) : vc (n + 1) d 0 377 L S M Q = (gR L 0 fun x => vc n d 0 378 L (.inr (.inr x) :: S) M Q) := nr rfl
set_option maxRecDepth 100000 in
theorem v0_378 (n d : Nat) (L : List (Option mL)) (S : List mV) (M : Mm) (Q : mQ) : vc (n + 1) d 0 378 L S M Q = (gI L 3 fun x => vc n d 0 379 L (.inl x :: S) M Q) := nr rfl
set_option maxRecDepth 100000 in
theorem v0_379 (n d : Nat) (L : List (Option mL)) (S : List mV) (M : Mm) (Q : mQ) : vc (n + 1) d 0 379 L S M Q = (vc n d 0 380 L (.inl 1 :: S) M Q) := nr rfl
set_option maxRecDepth 100000 in
theorem v0_380 (n d : Nat) (L : List (Option mL)) (S : List mV) (M : Mm) (Q : mQ) : vc (n + 1) d 0 380 L S M Q = (pI S fun y S => pI S fun x S => vc n d 0 381 L (.inl (x + y) :: S) M Q) := nr rfl
set_option maxRecDepth 100000 in
theorem v0_381 (n d : Nat) (L : List (Option mL)) (S : List mV) (M : Mm) (Q : mQ) : vc (n + 1) d 0 381 L S M Q = (pI S fun i S => pA S fun a S => shA M a fun t k => (t = 40 ∨ t = 41) ∧ inB i k ∧ vc n d 0 382 L (.inl (M.it a i.toNatClampNeg) :: S) M Q) := nr rfl
set_option maxRecDepth 100000 in
theorem v0_382 (n d : Nat) (L : List (Option mL)) (S : List mV) (M : Mm) (Q : mQ) : vc (n + 1) d 0 382 L S M Q = (pAs 1 S fun as S => pA S fun a S => shO M a 10 (stk S ≤ 8 ∧ XC d 150 (.inr (some a) :: as) M (fun r M => ∃ x : Int32, r = some (.inl x) ∧ X d 0 385 L (.inl x :: S) M Q))) := nr rfl
set_option maxRecDepth 100000 in
theorem v0_385 (n d : Nat) (L : List (Option mL)) (S : List mV) (M : Mm) (Q : mQ) : vc (n + 1) d 0 385 L S M Q = (pI S fun y S => pI S fun x S => (x = y → vc n d 0 604 L S M Q) ∧ (¬ (x = y) → vc n d 0 388 L S M Q)) := nr rfl
set_option maxRecDepth 100000 in
theorem v0_388 (n d : Nat) (L : List (Option mL)) (S : List mV) (M : Mm) (Q : mQ) : vc (n + 1) d 0 388 L S M Q = (vc n d 0 389 L (.inl 0 :: S) M Q) := nr rfl
set_option maxRecDepth 100000 in
theorem v0_389 (n d : Nat) (L : List (Option mL)) (S : List mV) (M : Mm) (Q : mQ) : vc (n + 1) d 0 389 L S M Q = (pI S fun x S => S = [] ∧ (1 = 0 ∨ x = 0 ∨ x = 1) ∧ Q (some (.inl x)) M) := nr rfl
set_option maxRecDepth 100000 in
theorem v0_390 (n d : Nat) (L : List (Option mL)) (S : List mV) (M : Mm) (Q : mQ) : vc (n + 1) d 0 390 L S M Q = (gR L 1 fun x => vc n d 0 391 L (.inr (.inr x) :: S) M Q) := nr rfl
set_option maxRecDepth 100000 in
theorem v0_391 (n d : Nat) (L : List (Option mL)) (S : List mV) (M : Mm) (Q : mQ) : vc (n + 1) d 0 391 L S M Q = (gR L 0 fun x => vc n d 0 392 L (.inr (.inr x) :: S) M Q) := nr rfl
set_option maxRecDepth 100000 in
theorem v0_392 (n d : Nat) (L : List (Option mL)) (S : List mV) (M : Mm) (Q : mQ) : vc (n + 1) d 0 392 L S M Q = (gI L 3 fun x => vc n d 0 393 L (.inl x :: S) M Q) := nr rfl
set_option maxRecDepth 100000 in
theorem v0_393 (n d : Nat) (L : List (Option mL)) (S : List mV) (M : Mm) (Q : mQ) : vc (n + 1) d 0 393 L S M Q = (vc n d 0 394 L (.inl 1 :: S) M Q) := nr rfl
set_option maxRecDepth 100000 in
theorem v0_394 (n d : Nat) (L : List (Option mL)) (S : List mV) (M : Mm) (Q : mQ) : vc (n + 1) d 0 394 L S M Q = (pI S fun y S => pI S fun x S => vc n d 0 395 L (.inl (x + y) :: S) M Q) := nr rfl
set_option maxRecDepth 100000 in
theorem v0_395 (n d : Nat) (L : List (Option mL)) (S : List mV) (M : Mm) (Q : mQ) : vc (n + 1) d 0 395 L S M Q = (pI S fun i S => pA S fun a S => shA M a fun t k => (t = 40 ∨ t = 41) ∧ inB i k ∧ vc n d 0 396 L (.inl (M.it a i.toNatClampNeg) :: S) M Q) := nr rfl
set_option maxRecDepth 100000 in
theorem v0_396 (n d : Nat) (L : List (Option mL)) (S : List mV) (M : Mm) (Q : mQ) : vc (n + 1) d 0 396 L S M Q = (pAs 1 S fun as S => pA S fun a S => shO M a 0 (stk S ≤ 8 ∧ XC d 99 (.inr (some a) :: as) M (fun r M => ∃ x : Int32, r = some (.inl x) ∧ X d 0 399 L (.inl x :: S) M Q))) := nr rfl
set_option maxRecDepth 100000 in
theorem v0_399 (n d : Nat) (L : List (Option mL)) (S : List mV) (M : Mm) (Q : mQ) : vc (n + 1) d 0 399 L S M Q = (gR L 2 fun x => vc n d 0 400 L (.inr (.inr x) :: S) M Q) := nr rfl
set_option maxRecDepth 100000 in
theorem v0_400 (n d : Nat) (L : List (Option mL)) (S : List mV) (M : Mm) (Q : mQ) : vc (n + 1) d 0 400 L S M Q = (gR L 0 fun x => vc n d 0 401 L (.inr (.inr x) :: S) M Q) := nr rfl
set_option maxRecDepth 100000 in
theorem v0_401 (n d : Nat) (L : List (Option mL)) (S : List mV) (M : Mm) (Q : mQ) : vc (n + 1) d 0 401 L S M Q = (gI L 3 fun x => vc n d 0 402 L (.inl x :: S) M Q) := nr rfl
set_option maxRecDepth 100000 in
theorem v0_402 (n d : Nat) (L : List (Option mL)) (S : List mV) (M : Mm) (Q : mQ) : vc (n + 1) d 0 402 L S M Q = (vc n d 0 403 L (.inl 1 :: S) M Q) := nr rfl
set_option maxRecDepth 100000 in
theorem v0_403 (n d : Nat) (L : List (Option mL)) (S : List mV) (M : Mm) (Q : mQ) : vc (n + 1) d 0 403 L S M Q = (pI S fun y S => pI S fun x S => vc n d 0 404 L (.inl (x + y) :: S) M Q) := nr rfl
set_option maxRecDepth 100000 in
theorem v0_404 (n d : Nat) (L : List (Option mL)) (S : List mV) (M : Mm) (Q : mQ) : vc (n + 1) d 0 404 L S M Q = (pI S fun i S => pA S fun a S => shA M a fun t k => (t = 40 ∨ t = 41) ∧ inB i k ∧ vc n d 0 405 L (.inl (M.it a i.toNatClampNeg) :: S) M Q) := nr rfl
set_option maxRecDepth 100000 in
theorem v0_405 (n d : Nat) (L : List (Option mL)) (S : List mV) (M : Mm) (Q : mQ) : vc (n + 1) d 0 405 L S M Q = (pAs 1 S fun as S => pA S fun a S => shO M a 10 (stk S ≤ 8 ∧ XC d 154 (.inr (some a) :: as) M (fun r M => ∃ x : Int32, r = some (.inl x) ∧ X d 0 408 L (.inl x :: S) M Q))) := nr rfl
set_option maxRecDepth 100000 in
theorem v0_408 (n d : Nat) (L : List (Option mL)) (S : List mV) (M : Mm) (Q : mQ) : vc (n + 1) d 0 408 L S M Q = (pI S fun y S => pI S fun x S => (x = y → vc n d 0 604 L S M Q) ∧ (¬ (x = y) → vc n d 0 411 L S M Q)) := nr rfl
set_option maxRecDepth 100000 in
theorem v0_411 (n d : Nat) (L : List (Option mL)) (S : List mV) (M : Mm) (Q : mQ) : vc (n + 1) d 0 411 L S M Q = (vc n d 0 412 L (.inl 0 :: S) M Q) := nr rfl
set_option maxRecDepth 100000 in
theorem v0_412 (n d : Nat) (L : List (Option mL)) (S : List mV) (M : Mm) (Q : mQ) : vc (n + 1) d 0 412 L S M Q = (pI S fun x S => S = [] ∧ (1 = 0 ∨ x = 0 ∨ x = 1) ∧ Q (some (.inl x)) M) := nr rfl
set_option maxRecDepth 100000 in
theorem v0_413 (n d : Nat) (L : List (Option mL)) (S : List mV) (M : Mm) (Q : mQ) : vc (n + 1) d 0 413 L S M Q = (gR L 1 fun x => vc n d 0 414 L (.inr (.inr x) :: S) M Q) := nr rfl
set_option maxRecDepth 100000 in
theorem v0_414 (n d : Nat) (L : List (Option mL)) (S : List mV) (M : Mm) (Q : mQ) : vc (n + 1) d 0 414 L S M Q = (pAs 0 S fun as S => pA S fun a S => shO M a 0 (stk S ≤ 8 ∧ XC d 100 (.inr (some a) :: as) M (fun r M => ∃ x : Int32, r = some (.inl x) ∧ X d 0 417 L (.inl x :: S) M Q))) := nr rfl
set_option maxRecDepth 100000 in
theorem v0_417 (n d : Nat) (L : List (Option mL)) (S : List mV) (M : Mm) (Q : mQ) : vc (n + 1) d 0 417 L S M Q = (gR L 2 fun x => vc n d 0 418 L (.inr (.inr x) :: S) M Q) := nr rfl
set_option maxRecDepth 100000 in
theorem v0_418 (n d : Nat) (L : List (Option mL)) (S : List mV) (M : Mm) (Q : mQ) : vc (n + 1) d 0 418 L S M Q = (pAs 0 S fun as S => pA S fun a S => shO M a 10 (stk S ≤ 8 ∧ XC d 155 (.inr (some a) :: as) M (fun r M => ∃ x : Int32, r = some (.inl x) ∧ X d 0 421 L (.inl x :: S) M Q))) := nr rfl
set_option maxRecDepth 100000 in
theorem v0_421 (n d : Nat) (L : List (Option mL)) (S : List mV) (M : Mm) (Q : mQ) : vc (n + 1) d 0 421 L S M Q = (pI S fun y S => pI S fun x S => (x = y → vc n d 0 604 L S M Q) ∧ (¬ (x = y) → vc n d 0 424 L S M Q)) := nr rfl
set_option maxRecDepth 100000 in
theorem v0_424 (n d : Nat) (L : List (Option mL)) (S : List mV) (M : Mm) (Q : mQ) : vc (n + 1) d 0 424 L S M Q = (vc n d 0 425 L (.inl 0 :: S) M Q) := nr rfl
set_option maxRecDepth 100000 in
theorem v0_425 (n d : Nat) (L : List (Option mL)) (S : List mV) (M : Mm) (Q : mQ) : vc (n + 1) d 0 425 L S M Q = (pI S fun x S => S = [] ∧ (1 = 0 ∨ x = 0 ∨ x = 1) ∧ Q (some (.inl x)) M) := nr rfl
set_option maxRecDepth 100000 in
theorem v0_426 (n d : Nat) (L : List (Option mL)) (S : List mV) (M : Mm) (Q : mQ) : vc (n + 1) d 0 426 L S M Q = (gR L 1 fun x => vc n d 0 427 L (.inr (.inr x) :: S) M Q) := nr rfl
set_option maxRecDepth 100000 in
theorem v0_427 (n d : Nat) (L : List (Option mL)) (S : List mV) (M : Mm) (Q : mQ) : vc (n + 1) d 0 427 L S M Q = (pAs 0 S fun as S => pA S fun a S => shO M a 0 (stk S ≤ 8 ∧ XC d 103 (.inr (some a) :: as) M (fun r M => ∃ x : Int32, r = some (.inl x) ∧ X d 0 430 L (.inl x :: S) M Q))) := nr rfl
set_option maxRecDepth 100000 in
theorem v0_430 (n d : Nat) (L : List (Option mL)) (S : List mV) (M : Mm) (Q : mQ) : vc (n + 1) d 0 430 L S M Q = (gR L 2 fun x => vc n d 0 431 L (.inr (.inr x) :: S) M Q) := nr rfl
set_option maxRecDepth 100000 in
theorem v0_431 (n d : Nat) (L : List (Option mL)) (S : List mV) (M : Mm) (Q : mQ) : vc (n + 1) d 0 431 L S M Q = (pAs 0 S fun as S => pA S fun a S => shO M a 10 (stk S ≤ 8 ∧ XC d 156 (.inr (some a) :: as) M (fun r M => ∃ x : Int32, r = some (.inl x) ∧ X d 0 434 L (.inl x :: S) M Q))) := nr rfl
set_option maxRecDepth 100000 in
theorem v0_434 (n d : Nat) (L : List (Option mL)) (S : List mV) (M : Mm) (Q : mQ) : vc (n + 1) d 0 434 L S M Q = (pI S fun y S => pI S fun x S => (x = y → vc n d 0 604 L S M Q) ∧ (¬ (x = y) → vc n d 0 437 L S M Q)) := nr rfl
set_option maxRecDepth 100000 in
theorem v0_437 (n d : Nat) (L : List (Option mL)) (S : List mV) (M : Mm) (Q : mQ) : vc (n + 1) d 0 437 L S M Q = (vc n d 0 438 L (.inl 0 :: S) M Q) := nr rfl
set_option maxRecDepth 100000 in
theorem v0_438 (n d : Nat) (L : List (Option mL)) (S : List mV) (M : Mm) (Q : mQ) : vc (n + 1) d 0 438 L S M Q = (pI S fun x S => S = [] ∧ (1 = 0 ∨ x = 0 ∨ x = 1) ∧ Q (some (.inl x)) M) := nr rfl
set_option maxRecDepth 100000 in
theorem v0_439 (n d : Nat) (L : List (Option mL)) (S : List mV) (M : Mm) (Q : mQ) : vc (n + 1) d 0 439 L S M Q = (gR L 1 fun x => vc n d 0 440 L (.inr (.inr x) :: S) M Q) := nr rfl
set_option maxRecDepth 100000 in
theorem v0_440 (n d : Nat) (L : List (Option mL)) (S : List mV) (M : Mm) (Q : mQ) : vc (n + 1) d 0 440 L S M Q = (gR L 0 fun x => vc n d 0 441 L (.inr (.inr x) :: S) M Q) := nr rfl
set_option maxRecDepth 100000 in
theorem v0_441 (n d : Nat) (L : List (Option mL)) (S : List mV) (M : Mm) (Q : mQ) : vc (n + 1) d 0 441 L S M Q = (gI L 3 fun x => vc n d 0 442 L (.inl x :: S) M Q) := nr rfl
set_option maxRecDepth 100000 in
theorem v0_442 (n d : Nat) (L : List (Option mL)) (S : List mV) (M : Mm) (Q : mQ) : vc (n + 1) d 0 442 L S M Q = (vc n d 0 443 L (.inl 1 :: S) M Q) := nr rfl
set_option maxRecDepth 100000 in
theorem v0_443 (n d : Nat) (L : List (Option mL)) (S : List mV) (M : Mm) (Q : mQ) : vc (n + 1) d 0 443 L S M Q = (pI S fun y S => pI S fun x S => vc n d 0 444 L (.inl (x + y) :: S) M Q) := nr rfl
set_option maxRecDepth 100000 in
theorem v0_444 (n d : Nat) (L : List (Option mL)) (S : List mV) (M : Mm) (Q : mQ) : vc (n + 1) d 0 444 L S M Q = (pI S fun i S => pA S fun a S => shA M a fun t k => (t = 40 ∨ t = 41) ∧ inB i k ∧ vc n d 0 445 L (.inl (M.it a i.toNatClampNeg) :: S) M Q) := nr rfl
set_option maxRecDepth 100000 in
theorem v0_445 (n d : Nat) (L : List (Option mL)) (S : List mV) (M : Mm) (Q : mQ) : vc (n + 1) d 0 445 L S M Q = (pAs 1 S fun as S => pA S fun a S => shO M a 0 (stk S ≤ 8 ∧ XC d 104 (.inr (some a) :: as) M (fun r M => ∃ x : Int32, r = some (.inl x) ∧ X d 0 448 L (.inl x :: S) M Q))) := nr rfl
set_option maxRecDepth 100000 in
theorem v0_448 (n d : Nat) (L : List (Option mL)) (S : List mV) (M : Mm) (Q : mQ) : vc (n + 1) d 0 448 L S M Q = (gR L 2 fun x => vc n d 0 449 L (.inr (.inr x) :: S) M Q) := nr rfl
set_option maxRecDepth 100000 in
theorem v0_449 (n d : Nat) (L : List (Option mL)) (S : List mV) (M : Mm) (Q : mQ) : vc (n + 1) d 0 449 L S M Q = (gR L 0 fun x => vc n d 0 450 L (.inr (.inr x) :: S) M Q) := nr rfl
set_option maxRecDepth 100000 in
theorem v0_450 (n d : Nat) (L : List (Option mL)) (S : List mV) (M : Mm) (Q : mQ) : vc (n + 1) d 0 450 L S M Q = (gI L 3 fun x => vc n d 0 451 L (.inl x :: S) M Q) := nr rfl
set_option maxRecDepth 100000 in
theorem v0_451 (n d : Nat) (L : List (Option mL)) (S : List mV) (M : Mm) (Q : mQ) : vc (n + 1) d 0 451 L S M Q = (vc n d 0 452 L (.inl 1 :: S) M Q) := nr rfl
set_option maxRecDepth 100000 in
theorem v0_452 (n d : Nat) (L : List (Option mL)) (S : List mV) (M : Mm) (Q : mQ) : vc (n + 1) d 0 452 L S M Q = (pI S fun y S => pI S fun x S => vc n d 0 453 L (.inl (x + y) :: S) M Q) := nr rfl
set_option maxRecDepth 100000 in
theorem v0_453 (n d : Nat) (L : List (Option mL)) (S : List mV) (M : Mm) (Q : mQ) : vc (n + 1) d 0 453 L S M Q = (pI S fun i S => pA S fun a S => shA M a fun t k => (t = 40 ∨ t = 41) ∧ inB i k ∧ vc n d 0 454 L (.inl (M.it a i.toNatClampNeg) :: S) M Q) := nr rfl
set_option maxRecDepth 100000 in
theorem v0_454 (n d : Nat) (L : List (Option mL)) (S : List mV) (M : Mm) (Q : mQ) : vc (n + 1) d 0 454 L S M Q = (pAs 1 S fun as S => pA S fun a S => shO M a 10 (stk S ≤ 8 ∧ XC d 157 (.inr (some a) :: as) M (fun r M => ∃ x : Int32, r = some (.inl x) ∧ X d 0 457 L (.inl x :: S) M Q))) := nr rfl
set_option maxRecDepth 100000 in
theorem v0_457 (n d : Nat) (L : List (Option mL)) (S : List mV) (M : Mm) (Q : mQ) : vc (n + 1) d 0 457 L S M Q = (pI S fun y S => pI S fun x S => (x = y → vc n d 0 604 L S M Q) ∧ (¬ (x = y) → vc n d 0 460 L S M Q)) := nr rfl
set_option maxRecDepth 100000 in
theorem v0_460 (n d : Nat) (L : List (Option mL)) (S : List mV) (M : Mm) (Q : mQ) : vc (n + 1) d 0 460 L S M Q = (vc n d 0 461 L (.inl 0 :: S) M Q) := nr rfl
set_option maxRecDepth 100000 in
theorem v0_461 (n d : Nat) (L : List (Option mL)) (S : List mV) (M : Mm) (Q : mQ) : vc (n + 1) d 0 461 L S M Q = (pI S fun x S => S = [] ∧ (1 = 0 ∨ x = 0 ∨ x = 1) ∧ Q (some (.inl x)) M) := nr rfl
set_option maxRecDepth 100000 in
theorem v0_462 (n d : Nat) (L : List (Option mL)) (S : List mV) (M : Mm) (Q : mQ) : vc (n + 1) d 0 462 L S M Q = (gR L 1 fun x => vc n d 0 463 L (.inr (.inr x) :: S) M Q) := nr rfl
set_option maxRecDepth 100000 in
theorem v0_463 (n d : Nat) (L : List (Option mL)) (S : List mV) (M : Mm) (Q : mQ) : vc (n + 1) d 0 463 L S M Q = (gR L 0 fun x => vc n d 0 464 L (.inr (.inr x) :: S) M Q) := nr rfl
set_option maxRecDepth 100000 in
theorem v0_464 (n d : Nat) (L : List (Option mL)) (S : List mV) (M : Mm) (Q : mQ) : vc (n + 1) d 0 464 L S M Q = (gI L 3 fun x => vc n d 0 465 L (.inl x :: S) M Q) := nr rfl
set_option maxRecDepth 100000 in
theorem v0_465 (n d : Nat) (L : List (Option mL)) (S : List mV) (M : Mm) (Q : mQ) : vc (n + 1) d 0 465 L S M Q = (vc n d 0 466 L (.inl 1 :: S) M Q) := nr rfl
set_option maxRecDepth 100000 in
theorem v0_466 (n d : Nat) (L : List (Option mL)) (S : List mV) (M : Mm) (Q : mQ) : vc (n + 1) d 0 466 L S M Q = (pI S fun y S => pI S fun x S => vc n d 0 467 L (.inl (x + y) :: S) M Q) := nr rfl
set_option maxRecDepth 100000 in
theorem v0_467 (n d : Nat) (L : List (Option mL)) (S : List mV) (M : Mm) (Q : mQ) : vc (n + 1) d 0 467 L S M Q = (pI S fun i S => pA S fun a S => shA M a fun t k => (t = 40 ∨ t = 41) ∧ inB i k ∧ vc n d 0 468 L (.inl (M.it a i.toNatClampNeg) :: S) M Q) := nr rfl
set_option maxRecDepth 100000 in
theorem v0_468 (n d : Nat) (L : List (Option mL)) (S : List mV) (M : Mm) (Q : mQ) : vc (n + 1) d 0 468 L S M Q = (gR L 0 fun x => vc n d 0 469 L (.inr (.inr x) :: S) M Q) := nr rfl
set_option maxRecDepth 100000 in
theorem v0_469 (n d : Nat) (L : List (Option mL)) (S : List mV) (M : Mm) (Q : mQ) : vc (n + 1) d 0 469 L S M Q = (gI L 3 fun x => vc n d 0 470 L (.inl x :: S) M Q) := nr rfl
set_option maxRecDepth 100000 in
theorem v0_470 (n d : Nat) (L : List (Option mL)) (S : List mV) (M : Mm) (Q : mQ) : vc (n + 1) d 0 470 L S M Q = (vc n d 0 471 L (.inl 2 :: S) M Q) := nr rfl
set_option maxRecDepth 100000 in
theorem v0_471 (n d : Nat) (L : List (Option mL)) (S : List mV) (M : Mm) (Q : mQ) : vc (n + 1) d 0 471 L S M Q = (pI S fun y S => pI S fun x S => vc n d 0 472 L (.inl (x + y) :: S) M Q) := nr rfl
set_option maxRecDepth 100000 in
theorem v0_472 (n d : Nat) (L : List (Option mL)) (S : List mV) (M : Mm) (Q : mQ) : vc (n + 1) d 0 472 L S M Q = (pI S fun i S => pA S fun a S => shA M a fun t k => (t = 40 ∨ t = 41) ∧ inB i k ∧ vc n d 0 473 L (.inl (M.it a i.toNatClampNeg) :: S) M Q) := nr rfl
set_option maxRecDepth 100000 in
theorem v0_473 (n d : Nat) (L : List (Option mL)) (S : List mV) (M : Mm) (Q : mQ) : vc (n + 1) d 0 473 L S M Q = (pAs 2 S fun as S => pA S fun a S => shO M a 0 (stk S ≤ 8 ∧ XC d 108 (.inr (some a) :: as) M (fun r M => ∃ x : Int32, r = some (.inl x) ∧ X d 0 476 L (.inl x :: S) M Q))) := nr rfl
set_option maxRecDepth 100000 in
theorem v0_476 (n d : Nat) (L : List (Option mL)) (S : List mV) (M : Mm) (Q : mQ) : vc (n + 1) d 0 476 L S M Q = (gR L 2 fun x => vc n d 0 477 L (.inr (.inr x) :: S) M Q) := nr rfl
set_option maxRecDepth 100000 in
theorem v0_477 (n d : Nat) (L : List (Option mL)) (S : List mV) (M : Mm) (Q : mQ) : vc (n + 1) d 0 477 L S M Q = (gR L 0 fun x => vc n d 0 478 L (.inr (.inr x) :: S) M Q) := nr rfl
set_option maxRecDepth 100000 in
theorem v0_478 (n d : Nat) (L : List (Option mL)) (S : List mV) (M : Mm) (Q : mQ) : vc (n + 1) d 0 478 L S M Q = (gI L 3 fun x => vc n d 0 479 L (.inl x :: S) M Q) := nr rfl
set_option maxRecDepth 100000 in
theorem v0_479 (n d : Nat) (L : List (Option mL)) (S : List mV) (M : Mm) (Q : mQ) : vc (n + 1) d 0 479 L S M Q = (vc n d 0 480 L (.inl 1 :: S) M Q) := nr rfl
set_option maxRecDepth 100000 in
theorem v0_480 (n d : Nat) (L : List (Option mL)) (S : List mV) (M : Mm) (Q : mQ) : vc (n + 1) d 0 480 L S M Q = (pI S fun y S => pI S fun x S => vc n d 0 481 L (.inl (x + y) :: S) M Q) := nr rfl
set_option maxRecDepth 100000 in
theorem v0_481 (n d : Nat) (L : List (Option mL)) (S : List mV) (M : Mm) (Q : mQ) : vc (n + 1) d 0 481 L S M Q = (pI S fun i S => pA S fun a S => shA M a fun t k => (t = 40 ∨ t = 41) ∧ inB i k ∧ vc n d 0 482 L (.inl (M.it a i.toNatClampNeg) :: S) M Q) := nr rfl
set_option maxRecDepth 100000 in
theorem v0_482 (n d : Nat) (L : List (Option mL)) (S : List mV) (M : Mm) (Q : mQ) : vc (n + 1) d 0 482 L S M Q = (gR L 0 fun x => vc n d 0 483 L (.inr (.inr x) :: S) M Q) := nr rfl
set_option maxRecDepth 100000 in
theorem v0_483 (n d : Nat) (L : List (Option mL)) (S : List mV) (M : Mm) (Q : mQ) : vc (n + 1) d 0 483 L S M Q = (gI L 3 fun x => vc n d 0 484 L (.inl x :: S) M Q) := nr rfl
set_option maxRecDepth 100000 in
theorem v0_484 (n d : Nat) (L : List (Option mL)) (S : List mV) (M : Mm) (Q : mQ) : vc (n + 1) d 0 484 L S M Q = (vc n d 0 485 L (.inl 2 :: S) M Q) := nr rfl
set_option maxRecDepth 100000 in
theorem v0_485 (n d : Nat) (L : List (Option mL)) (S : List mV) (M : Mm) (Q : mQ) : vc (n + 1) d 0 485 L S M Q = (pI S fun y S => pI S fun x S => vc n d 0 486 L (.inl (x + y) :: S) M Q) := nr rfl
set_option maxRecDepth 100000 in
theorem v0_486 (n d : Nat) (L : List (Option mL)) (S : List mV) (M : Mm) (Q : mQ) : vc (n + 1) d 0 486 L S M Q = (pI S fun i S => pA S fun a S => shA M a fun t k => (t = 40 ∨ t = 41) ∧ inB i k ∧ vc n d 0 487 L (.inl (M.it a i.toNatClampNeg) :: S) M Q) := nr rfl
set_option maxRecDepth 100000 in
theorem v0_487 (n d : Nat) (L : List (Option mL)) (S : List mV) (M : Mm) (Q : mQ) : vc (n + 1) d 0 487 L S M Q = (pAs 2 S fun as S => pA S fun a S => shO M a 10 (stk S ≤ 8 ∧ XC d 158 (.inr (some a) :: as) M (fun r M => ∃ x : Int32, r = some (.inl x) ∧ X d 0 490 L (.inl x :: S) M Q))) := nr rfl
set_option maxRecDepth 100000 in
theorem v0_490 (n d : Nat) (L : List (Option mL)) (S : List mV) (M : Mm) (Q : mQ) : vc (n + 1) d 0 490 L S M Q = (pI S fun y S => pI S fun x S => (x = y → vc n d 0 604 L S M Q) ∧ (¬ (x = y) → vc n d 0 493 L S M Q)) := nr rfl
set_option maxRecDepth 100000 in
theorem v0_493 (n d : Nat) (L : List (Option mL)) (S : List mV) (M : Mm) (Q : mQ) : vc (n + 1) d 0 493 L S M Q = (vc n d 0 494 L (.inl 0 :: S) M Q) := nr rfl
set_option maxRecDepth 100000 in
theorem v0_494 (n d : Nat) (L : List (Option mL)) (S : List mV) (M : Mm) (Q : mQ) : vc (n + 1) d 0 494 L S M Q = (pI S fun x S => S = [] ∧ (1 = 0 ∨ x = 0 ∨ x = 1) ∧ Q (some (.inl x)) M) := nr rfl
set_option maxRecDepth 100000 in
theorem v0_495 (n d : Nat) (L : List (Option mL)) (S : List mV) (M : Mm) (Q : mQ) : vc (n + 1) d 0 495 L S M Q = (gR L 1 fun x => vc n d 0 496 L (.inr (.inr x) :: S) M Q) := nr rfl
set_option maxRecDepth 100000 in
theorem v0_496 (n d : Nat) (L : List (Option mL)) (S : List mV) (M : Mm) (Q : mQ) : vc (n + 1) d 0 496 L S M Q = (gR L 0 fun x => vc n d 0 497 L (.inr (.inr x) :: S) M Q) := nr rfl
set_option maxRecDepth 100000 in
theorem v0_497 (n d : Nat) (L : List (Option mL)) (S : List mV) (M : Mm) (Q : mQ) : vc (n + 1) d 0 497 L S M Q = (gI L 3 fun x => vc n d 0 498 L (.inl x :: S) M Q) := nr rfl
set_option maxRecDepth 100000 in
theorem v0_498 (n d : Nat) (L : List (Option mL)) (S : List mV) (M : Mm) (Q : mQ) : vc (n + 1) d 0 498 L S M Q = (vc n d 0 499 L (.inl 1 :: S) M Q) := nr rfl
set_option maxRecDepth 100000 in
theorem v0_499 (n d : Nat) (L : List (Option mL)) (S : List mV) (M : Mm) (Q : mQ) : vc (n + 1) d 0 499 L S M Q = (pI S fun y S => pI S fun x S => vc n d 0 500 L (.inl (x + y) :: S) M Q) := nr rfl
set_option maxRecDepth 100000 in
theorem v0_500 (n d : Nat) (L : List (Option mL)) (S : List mV) (M : Mm) (Q : mQ) : vc (n + 1) d 0 500 L S M Q = (pI S fun i S => pA S fun a S => shA M a fun t k => (t = 40 ∨ t = 41) ∧ inB i k ∧ vc n d 0 501 L (.inl (M.it a i.toNatClampNeg) :: S) M Q) := nr rfl
set_option maxRecDepth 100000 in
theorem v0_501 (n d : Nat) (L : List (Option mL)) (S : List mV) (M : Mm) (Q : mQ) : vc (n + 1) d 0 501 L S M Q = (gR L 0 fun x => vc n d 0 502 L (.inr (.inr x) :: S) M Q) := nr rfl
set_option maxRecDepth 100000 in
theorem v0_502 (n d : Nat) (L : List (Option mL)) (S : List mV) (M : Mm) (Q : mQ) : vc (n + 1) d 0 502 L S M Q = (gI L 3 fun x => vc n d 0 503 L (.inl x :: S) M Q) := nr rfl
set_option maxRecDepth 100000 in
theorem v0_503 (n d : Nat) (L : List (Option mL)) (S : List mV) (M : Mm) (Q : mQ) : vc (n + 1) d 0 503 L S M Q = (vc n d 0 504 L (.inl 2 :: S) M Q) := nr rfl
set_option maxRecDepth 100000 in
theorem v0_504 (n d : Nat) (L : List (Option mL)) (S : List mV) (M : Mm) (Q : mQ) : vc (n + 1) d 0 504 L S M Q = (pI S fun y S => pI S fun x S => vc n d 0 505 L (.inl (x + y) :: S) M Q) := nr rfl
set_option maxRecDepth 100000 in
theorem v0_505 (n d : Nat) (L : List (Option mL)) (S : List mV) (M : Mm) (Q : mQ) : vc (n + 1) d 0 505 L S M Q = (pI S fun i S => pA S fun a S => shA M a fun t k => (t = 40 ∨ t = 41) ∧ inB i k ∧ vc n d 0 506 L (.inl (M.it a i.toNatClampNeg) :: S) M Q) := nr rfl
set_option maxRecDepth 100000 in
theorem v0_506 (n d : Nat) (L : List (Option mL)) (S : List mV) (M : Mm) (Q : mQ) : vc (n + 1) d 0 506 L S M Q = (pAs 2 S fun as S => pA S fun a S => shO M a 0 (stk S ≤ 8 ∧ XC d 109 (.inr (some a) :: as) M (fun r M => ∃ x : Int32, r = some (.inl x) ∧ X d 0 509 L (.inl x :: S) M Q))) := nr rfl
set_option maxRecDepth 100000 in
theorem v0_509 (n d : Nat) (L : List (Option mL)) (S : List mV) (M : Mm) (Q : mQ) : vc (n + 1) d 0 509 L S M Q = (gR L 2 fun x => vc n d 0 510 L (.inr (.inr x) :: S) M Q) := nr rfl
set_option maxRecDepth 100000 in
theorem v0_510 (n d : Nat) (L : List (Option mL)) (S : List mV) (M : Mm) (Q : mQ) : vc (n + 1) d 0 510 L S M Q = (gR L 0 fun x => vc n d 0 511 L (.inr (.inr x) :: S) M Q) := nr rfl
set_option maxRecDepth 100000 in
theorem v0_511 (n d : Nat) (L : List (Option mL)) (S : List mV) (M : Mm) (Q : mQ) : vc (n + 1) d 0 511 L S M Q = (gI L 3 fun x => vc n d 0 512 L (.inl x :: S) M Q) := nr rfl
set_option maxRecDepth 100000 in
theorem v0_512 (n d : Nat) (L : List (Option mL)) (S : List mV) (M : Mm) (Q : mQ) : vc (n + 1) d 0 512 L S M Q = (vc n d 0 513 L (.inl 1 :: S) M Q) := nr rfl
set_option maxRecDepth 100000 in
theorem v0_513 (n d : Nat) (L : List (Option mL)) (S : List mV) (M : Mm) (Q : mQ) : vc (n + 1) d 0 513 L S M Q = (pI S fun y S => pI S fun x S => vc n d 0 514 L (.inl (x + y) :: S) M Q) := nr rfl
set_option maxRecDepth 100000 in
theorem v0_514 (n d : Nat) (L : List (Option mL)) (S : List mV) (M : Mm) (Q : mQ) : vc (n + 1) d 0 514 L S M Q = (pI S fun i S => pA S fun a S => shA M a fun t k => (t = 40 ∨ t = 41) ∧ inB i k ∧ vc n d 0 515 L (.inl (M.it a i.toNatClampNeg) :: S) M Q) := nr rfl
set_option maxRecDepth 100000 in
theorem v0_515 (n d : Nat) (L : List (Option mL)) (S : List mV) (M : Mm) (Q : mQ) : vc (n + 1) d 0 515 L S M Q = (gR L 0 fun x => vc n d 0 516 L (.inr (.inr x) :: S) M Q) := nr rfl
set_option maxRecDepth 100000 in
theorem v0_516 (n d : Nat) (L : List (Option mL)) (S : List mV) (M : Mm) (Q : mQ) : vc (n + 1) d 0 516 L S M Q = (gI L 3 fun x => vc n d 0 517 L (.inl x :: S) M Q) := nr rfl
set_option maxRecDepth 100000 in
theorem v0_517 (n d : Nat) (L : List (Option mL)) (S : List mV) (M : Mm) (Q : mQ) : vc (n + 1) d 0 517 L S M Q = (vc n d 0 518 L (.inl 2 :: S) M Q) := nr rfl
set_option maxRecDepth 100000 in
theorem v0_518 (n d : Nat) (L : List (Option mL)) (S : List mV) (M : Mm) (Q : mQ) : vc (n + 1) d 0 518 L S M Q = (pI S fun y S => pI S fun x S => vc n d 0 519 L (.inl (x + y) :: S) M Q) := nr rfl
set_option maxRecDepth 100000 in
theorem v0_519 (n d : Nat) (L : List (Option mL)) (S : List mV) (M : Mm) (Q : mQ) : vc (n + 1) d 0 519 L S M Q = (pI S fun i S => pA S fun a S => shA M a fun t k => (t = 40 ∨ t = 41) ∧ inB i k ∧ vc n d 0 520 L (.inl (M.it a i.toNatClampNeg) :: S) M Q) := nr rfl
set_option maxRecDepth 100000 in
theorem v0_520 (n d : Nat) (L : List (Option mL)) (S : List mV) (M : Mm) (Q : mQ) : vc (n + 1) d 0 520 L S M Q = (pAs 2 S fun as S => pA S fun a S => shO M a 10 (stk S ≤ 8 ∧ XC d 159 (.inr (some a) :: as) M (fun r M => ∃ x : Int32, r = some (.inl x) ∧ X d 0 523 L (.inl x :: S) M Q))) := nr rfl
set_option maxRecDepth 100000 in
theorem v0_523 (n d : Nat) (L : List (Option mL)) (S : List mV) (M : Mm) (Q : mQ) : vc (n + 1) d 0 523 L S M Q = (pI S fun y S => pI S fun x S => (x = y → vc n d 0 604 L S M Q) ∧ (¬ (x = y) → vc n d 0 526 L S M Q)) := nr rfl
set_option maxRecDepth 100000 in
theorem v0_526 (n d : Nat) (L : List (Option mL)) (S : List mV) (M : Mm) (Q : mQ) : vc (n + 1) d 0 526 L S M Q = (vc n d 0 527 L (.inl 0 :: S) M Q) := nr rfl
set_option maxRecDepth 100000 in
theorem v0_527 (n d : Nat) (L : List (Option mL)) (S : List mV) (M : Mm) (Q : mQ) : vc (n + 1) d 0 527 L S M Q = (pI S fun x S => S = [] ∧ (1 = 0 ∨ x = 0 ∨ x = 1) ∧ Q (some (.inl x)) M) := nr rfl
set_option maxRecDepth 100000 in
theorem v0_528 (n d : Nat) (L : List (Option mL)) (S : List mV) (M : Mm) (Q : mQ) : vc (n + 1) d 0 528 L S M Q = (gR L 1 fun x => vc n d 0 529 L (.inr (.inr x) :: S) M Q) := nr rfl
set_option maxRecDepth 100000 in
theorem v0_529 (n d : Nat) (L : List (Option mL)) (S : List mV) (M : Mm) (Q : mQ) : vc (n + 1) d 0 529 L S M Q = (gR L 0 fun x => vc n d 0 530 L (.inr (.inr x) :: S) M Q) := nr rfl
set_option maxRecDepth 100000 in
theorem v0_530 (n d : Nat) (L : List (Option mL)) (S : List mV) (M : Mm) (Q : mQ) : vc (n + 1) d 0 530 L S M Q = (gI L 3 fun x => vc n d 0 531 L (.inl x :: S) M Q) := nr rfl
set_option maxRecDepth 100000 in
theorem v0_531 (n d : Nat) (L : List (Option mL)) (S : List mV) (M : Mm) (Q : mQ) : vc (n + 1) d 0 531 L S M Q = (vc n d 0 532 L (.inl 1 :: S) M Q) := nr rfl
set_option maxRecDepth 100000 in
theorem v0_532 (n d : Nat) (L : List (Option mL)) (S : List mV) (M : Mm) (Q : mQ) : vc (n + 1) d 0 532 L S M Q = (pI S fun y S => pI S fun x S => vc n d 0 533 L (.inl (x + y) :: S) M Q) := nr rfl
set_option maxRecDepth 100000 in
theorem v0_533 (n d : Nat) (L : List (Option mL)) (S : List mV) (M : Mm) (Q : mQ) : vc (n + 1) d 0 533 L S M Q = (pI S fun i S => pA S fun a S => shA M a fun t k => (t = 40 ∨ t = 41) ∧ inB i k ∧ vc n d 0 534 L (.inl (M.it a i.toNatClampNeg) :: S) M Q) := nr rfl
set_option maxRecDepth 100000 in
theorem v0_534 (n d : Nat) (L : List (Option mL)) (S : List mV) (M : Mm) (Q : mQ) : vc (n + 1) d 0 534 L S M Q = (gR L 0 fun x => vc n d 0 535 L (.inr (.inr x) :: S) M Q) := nr rfl
set_option maxRecDepth 100000 in
theorem v0_535 (n d : Nat) (L : List (Option mL)) (S : List mV) (M : Mm) (Q : mQ) : vc (n + 1) d 0 535 L S M Q = (gI L 3 fun x => vc n d 0 536 L (.inl x :: S) M Q) := nr rfl
set_option maxRecDepth 100000 in
theorem v0_536 (n d : Nat) (L : List (Option mL)) (S : List mV) (M : Mm) (Q : mQ) : vc (n + 1) d 0 536 L S M Q = (vc n d 0 537 L (.inl 2 :: S) M Q) := nr rfl
set_option maxRecDepth 100000 in
theorem v0_537 (n d : Nat) (L : List (Option mL)) (S : List mV) (M : Mm) (Q : mQ) : vc (n + 1) d 0 537 L S M Q = (pI S fun y S => pI S fun x S => vc n d 0 538 L (.inl (x + y) :: S) M Q) := nr rfl
set_option maxRecDepth 100000 in
theorem v0_538 (n d : Nat) (L : List (Option mL)) (S : List mV) (M : Mm) (Q : mQ) : vc (n + 1) d 0 538 L S M Q = (pI S fun i S => pA S fun a S => shA M a fun t k => (t = 40 ∨ t = 41) ∧ inB i k ∧ vc n d 0 539 L (.inl (M.it a i.toNatClampNeg) :: S) M Q) := nr rfl
set_option maxRecDepth 100000 in
theorem v0_539 (n d : Nat) (L : List (Option mL)) (S : List mV) (M : Mm) (Q : mQ) : vc (n + 1) d 0 539 L S M Q = (gR L 0 fun x => vc n d 0 540 L (.inr (.inr x) :: S) M Q) := nr rfl
set_option maxRecDepth 100000 in
theorem v0_540 (n d : Nat) (L : List (Option mL)) (S : List mV) (M : Mm) (Q : mQ) : vc (n + 1) d 0 540 L S M Q = (gI L 3 fun x => vc n d 0 541 L (.inl x :: S) M Q) := nr rfl
set_option maxRecDepth 100000 in
theorem v0_541 (n d : Nat) (L : List (Option mL)) (S : List mV) (M : Mm) (Q : mQ) : vc (n + 1) d 0 541 L S M Q = (vc n d 0 542 L (.inl 3 :: S) M Q) := nr rfl
set_option maxRecDepth 100000 in
theorem v0_542 (n d : Nat) (L : List (Option mL)) (S : List mV) (M : Mm) (Q : mQ) : vc (n + 1) d 0 542 L S M Q = (pI S fun y S => pI S fun x S => vc n d 0 543 L (.inl (x + y) :: S) M Q) := nr rfl
set_option maxRecDepth 100000 in
theorem v0_543 (n d : Nat) (L : List (Option mL)) (S : List mV) (M : Mm) (Q : mQ) : vc (n + 1) d 0 543 L S M Q = (pI S fun i S => pA S fun a S => shA M a fun t k => (t = 40 ∨ t = 41) ∧ inB i k ∧ vc n d 0 544 L (.inl (M.it a i.toNatClampNeg) :: S) M Q) := nr rfl
set_option maxRecDepth 100000 in
theorem v0_544 (n d : Nat) (L : List (Option mL)) (S : List mV) (M : Mm) (Q : mQ) : vc (n + 1) d 0 544 L S M Q = (pAs 3 S fun as S => pA S fun a S => shO M a 0 (stk S ≤ 8 ∧ XC d 111 (.inr (some a) :: as) M (fun r M => ∃ x : Int32, r = some (.inl x) ∧ X d 0 547 L (.inl x :: S) M Q))) := nr rfl
set_option maxRecDepth 100000 in
theorem v0_547 (n d : Nat) (L : List (Option mL)) (S : List mV) (M : Mm) (Q : mQ) : vc (n + 1) d 0 547 L S M Q = (gR L 2 fun x => vc n d 0 548 L (.inr (.inr x) :: S) M Q) := nr rfl
set_option maxRecDepth 100000 in
theorem v0_548 (n d : Nat) (L : List (Option mL)) (S : List mV) (M : Mm) (Q : mQ) : vc (n + 1) d 0 548 L S M Q = (gR L 0 fun x => vc n d 0 549 L (.inr (.inr x) :: S) M Q) := nr rfl
set_option maxRecDepth 100000 in
theorem v0_549 (n d : Nat) (L : List (Option mL)) (S : List mV) (M : Mm) (Q : mQ) : vc (n + 1) d 0 549 L S M Q = (gI L 3 fun x => vc n d 0 550 L (.inl x :: S) M Q) := nr rfl
set_option maxRecDepth 100000 in
theorem v0_550 (n d : Nat) (L : List (Option mL)) (S : List mV) (M : Mm) (Q : mQ) : vc (n + 1) d 0 550 L S M Q = (vc n d 0 551 L (.inl 1 :: S) M Q) := nr rfl
set_option maxRecDepth 100000 in
theorem v0_551 (n d : Nat) (L : List (Option mL)) (S : List mV) (M : Mm) (Q : mQ) : vc (n + 1) d 0 551 L S M Q = (pI S fun y S => pI S fun x S => vc n d 0 552 L (.inl (x + y) :: S) M Q) := nr rfl
set_option maxRecDepth 100000 in
theorem v0_552 (n d : Nat) (L : List (Option mL)) (S : List mV) (M : Mm) (Q : mQ) : vc (n + 1) d 0 552 L S M Q = (pI S fun i S => pA S fun a S => shA M a fun t k => (t = 40 ∨ t = 41) ∧ inB i k ∧ vc n d 0 553 L (.inl (M.it a i.toNatClampNeg) :: S) M Q) := nr rfl
set_option maxRecDepth 100000 in
theorem v0_553 (n d : Nat) (L : List (Option mL)) (S : List mV) (M : Mm) (Q : mQ) : vc (n + 1) d 0 553 L S M Q = (gR L 0 fun x => vc n d 0 554 L (.inr (.inr x) :: S) M Q) := nr rfl
set_option maxRecDepth 100000 in
theorem v0_554 (n d : Nat) (L : List (Option mL)) (S : List mV) (M : Mm) (Q : mQ) : vc (n + 1) d 0 554 L S M Q = (gI L 3 fun x => vc n d 0 555 L (.inl x :: S) M Q) := nr rfl
set_option maxRecDepth 100000 in
theorem v0_555 (n d : Nat) (L : List (Option mL)) (S : List mV) (M : Mm) (Q : mQ) : vc (n + 1) d 0 555 L S M Q = (vc n d 0 556 L (.inl 2 :: S) M Q) := nr rfl
set_option maxRecDepth 100000 in
theorem v0_556 (n d : Nat) (L : List (Option mL)) (S : List mV) (M : Mm) (Q : mQ) : vc (n + 1) d 0 556 L S M Q = (pI S fun y S => pI S fun x S => vc n d 0 557 L (.inl (x + y) :: S) M Q) := nr rfl
set_option maxRecDepth 100000 in
theorem v0_557 (n d : Nat) (L : List (Option mL)) (S : List mV) (M : Mm) (Q : mQ) : vc (n + 1) d 0 557 L S M Q = (pI S fun i S => pA S fun a S => shA M a fun t k => (t = 40 ∨ t = 41) ∧ inB i k ∧ vc n d 0 558 L (.inl (M.it a i.toNatClampNeg) :: S) M Q) := nr rfl
set_option maxRecDepth 100000 in
theorem v0_558 (n d : Nat) (L : List (Option mL)) (S : List mV) (M : Mm) (Q : mQ) : vc (n + 1) d 0 558 L S M Q = (gR L 0 fun x => vc n d 0 559 L (.inr (.inr x) :: S) M Q) := nr rfl
set_option maxRecDepth 100000 in
theorem v0_559 (n d : Nat) (L : List (Option mL)) (S : List mV) (M : Mm) (Q : mQ) : vc (n + 1) d 0 559 L S M Q = (gI L 3 fun x => vc n d 0 560 L (.inl x :: S) M Q) := nr rfl
set_option maxRecDepth 100000 in
theorem v0_560 (n d : Nat) (L : List (Option mL)) (S : List mV) (M : Mm) (Q : mQ) : vc (n + 1) d 0 560 L S M Q = (vc n d 0 561 L (.inl 3 :: S) M Q) := nr rfl
set_option maxRecDepth 100000 in
theorem v0_561 (n d : Nat) (L : List (Option mL)) (S : List mV) (M : Mm) (Q : mQ) : vc (n + 1) d 0 561 L S M Q = (pI S fun y S => pI S fun x S => vc n d 0 562 L (.inl (x + y) :: S) M Q) := nr rfl
set_option maxRecDepth 100000 in
theorem v0_562 (n d : Nat) (L : List (Option mL)) (S : List mV) (M : Mm) (Q : mQ) : vc (n + 1) d 0 562 L S M Q = (pI S fun i S => pA S fun a S => shA M a fun t k => (t = 40 ∨ t = 41) ∧ inB i k ∧ vc n d 0 563 L (.inl (M.it a i.toNatClampNeg) :: S) M Q) := nr rfl
set_option maxRecDepth 100000 in
theorem v0_563 (n d : Nat) (L : List (Option mL)) (S : List mV) (M : Mm) (Q : mQ) : vc (n + 1) d 0 563 L S M Q = (pAs 3 S fun as S => pA S fun a S => shO M a 10 (stk S ≤ 8 ∧ XC d 160 (.inr (some a) :: as) M (fun r M => ∃ x : Int32, r = some (.inl x) ∧ X d 0 566 L (.inl x :: S) M Q))) := nr rfl
set_option maxRecDepth 100000 in
theorem v0_566 (n d : Nat) (L : List (Option mL)) (S : List mV) (M : Mm) (Q : mQ) : vc (n + 1) d 0 566 L S M Q = (pI S fun y S => pI S fun x S => (x = y → vc n d 0 604 L S M Q) ∧ (¬ (x = y) → vc n d 0 569 L S M Q)) := nr rfl
set_option maxRecDepth 100000 in
theorem v0_569 (n d : Nat) (L : List (Option mL)) (S : List mV) (M : Mm) (Q : mQ) : vc (n + 1) d 0 569 L S M Q = (vc n d 0 570 L (.inl 0 :: S) M Q) := nr rfl
set_option maxRecDepth 100000 in
theorem v0_570 (n d : Nat) (L : List (Option mL)) (S : List mV) (M : Mm) (Q : mQ) : vc (n + 1) d 0 570 L S M Q = (pI S fun x S => S = [] ∧ (1 = 0 ∨ x = 0 ∨ x = 1) ∧ Q (some (.inl x)) M) := nr rfl
set_option maxRecDepth 100000 in
theorem v0_571 (n d : Nat) (L : List (Option mL)) (S : List mV) (M : Mm) (Q : mQ) : vc (n + 1) d 0 571 L S M Q = (gR L 1 fun x => vc n d 0 572 L (.inr (.inr x) :: S) M Q) := nr rfl
set_option maxRecDepth 100000 in
theorem v0_572 (n d : Nat) (L : List (Option mL)) (S : List mV) (M : Mm) (Q : mQ) : vc (n + 1) d 0 572 L S M Q = (gR L 0 fun x => vc n d 0 573 L (.inr (.inr x) :: S) M Q) := nr rfl
set_option maxRecDepth 100000 in
theorem v0_573 (n d : Nat) (L : List (Option mL)) (S : List mV) (M : Mm) (Q : mQ) : vc (n + 1) d 0 573 L S M Q = (gI L 3 fun x => vc n d 0 574 L (.inl x :: S) M Q) := nr rfl
set_option maxRecDepth 100000 in
theorem v0_574 (n d : Nat) (L : List (Option mL)) (S : List mV) (M : Mm) (Q : mQ) : vc (n + 1) d 0 574 L S M Q = (vc n d 0 575 L (.inl 1 :: S) M Q) := nr rfl
set_option maxRecDepth 100000 in
theorem v0_575 (n d : Nat) (L : List (Option mL)) (S : List mV) (M : Mm) (Q : mQ) : vc (n + 1) d 0 575 L S M Q = (pI S fun y S => pI S fun x S => vc n d 0 576 L (.inl (x + y) :: S) M Q) := nr rfl
set_option maxRecDepth 100000 in
theorem v0_576 (n d : Nat) (L : List (Option mL)) (S : List mV) (M : Mm) (Q : mQ) : vc (n + 1) d 0 576 L S M Q = (pI S fun i S => pA S fun a S => shA M a fun t k => (t = 40 ∨ t = 41) ∧ inB i k ∧ vc n d 0 577 L (.inl (M.it a i.toNatClampNeg) :: S) M Q) := nr rfl
set_option maxRecDepth 100000 in
theorem v0_577 (n d : Nat) (L : List (Option mL)) (S : List mV) (M : Mm) (Q : mQ) : vc (n + 1) d 0 577 L S M Q = (gR L 0 fun x => vc n d 0 578 L (.inr (.inr x) :: S) M Q) := nr rfl
set_option maxRecDepth 100000 in
theorem v0_578 (n d : Nat) (L : List (Option mL)) (S : List mV) (M : Mm) (Q : mQ) : vc (n + 1) d 0 578 L S M Q = (gI L 3 fun x => vc n d 0 579 L (.inl x :: S) M Q) := nr rfl
set_option maxRecDepth 100000 in
theorem v0_579 (n d : Nat) (L : List (Option mL)) (S : List mV) (M : Mm) (Q : mQ) : vc (n + 1) d 0 579 L S M Q = (vc n d 0 580 L (.inl 2 :: S) M Q) := nr rfl
set_option maxRecDepth 100000 in
theorem v0_580 (n d : Nat) (L : List (Option mL)) (S : List mV) (M : Mm) (Q : mQ) : vc (n + 1) d 0 580 L S M Q = (pI S fun y S => pI S fun x S => vc n d 0 581 L (.inl (x + y) :: S) M Q) := nr rfl
set_option maxRecDepth 100000 in
theorem v0_581 (n d : Nat) (L : List (Option mL)) (S : List mV) (M : Mm) (Q : mQ) : vc (n + 1) d 0 581 L S M Q = (pI S fun i S => pA S fun a S => shA M a fun t k => (t = 40 ∨ t = 41) ∧ inB i k ∧ vc n d 0 582 L (.inl (M.it a i.toNatClampNeg) :: S) M Q) := nr rfl
set_option maxRecDepth 100000 in
theorem v0_582 (n d : Nat) (L : List (Option mL)) (S : List mV) (M : Mm) (Q : mQ) : vc (n + 1) d 0 582 L S M Q = (pAs 2 S fun as S => pA S fun a S => shO M a 0 (stk S ≤ 8 ∧ XC d 112 (.inr (some a) :: as) M (fun r M => ∃ x : Int32, r = some (.inl x) ∧ X d 0 585 L (.inl x :: S) M Q))) := nr rfl
set_option maxRecDepth 100000 in
theorem v0_585 (n d : Nat) (L : List (Option mL)) (S : List mV) (M : Mm) (Q : mQ) : vc (n + 1) d 0 585 L S M Q = (gR L 2 fun x => vc n d 0 586 L (.inr (.inr x) :: S) M Q) := nr rfl
set_option maxRecDepth 100000 in
theorem v0_586 (n d : Nat) (L : List (Option mL)) (S : List mV) (M : Mm) (Q : mQ) : vc (n + 1) d 0 586 L S M Q = (gR L 0 fun x => vc n d 0 587 L (.inr (.inr x) :: S) M Q) := nr rfl
set_option maxRecDepth 100000 in
theorem v0_587 (n d : Nat) (L : List (Option mL)) (S : List mV) (M : Mm) (Q : mQ) : vc (n + 1) d 0 587 L S M Q = (gI L 3 fun x => vc n d 0 588 L (.inl x :: S) M Q) := nr rfl
set_option maxRecDepth 100000 in
theorem v0_588 (n d : Nat) (L : List (Option mL)) (S : List mV) (M : Mm) (Q : mQ) : vc (n + 1) d 0 588 L S M Q = (vc n d 0 589 L (.inl 1 :: S) M Q) := nr rfl
set_option maxRecDepth 100000 in
theorem v0_589 (n d : Nat) (L : List (Option mL)) (S : List mV) (M : Mm) (Q : mQ) : vc (n + 1) d 0 589 L S M Q = (pI S fun y S => pI S fun x S => vc n d 0 590 L (.inl (x + y) :: S) M Q) := nr rfl
set_option maxRecDepth 100000 in
theorem v0_590 (n d : Nat) (L : List (Option mL)) (S : List mV) (M : Mm) (Q : mQ) : vc (n + 1) d 0 590 L S M Q = (pI S fun i S => pA S fun a S => shA M a fun t k => (t = 40 ∨ t = 41) ∧ inB i k ∧ vc n d 0 591 L (.inl (M.it a i.toNatClampNeg) :: S) M Q) := nr rfl
set_option maxRecDepth 100000 in
theorem v0_591 (n d : Nat) (L : List (Option mL)) (S : List mV) (M : Mm) (Q : mQ) : vc (n + 1) d 0 591 L S M Q = (gR L 0 fun x => vc n d 0 592 L (.inr (.inr x) :: S) M Q) := nr rfl
set_option maxRecDepth 100000 in
theorem v0_592 (n d : Nat) (L : List (Option mL)) (S : List mV) (M : Mm) (Q : mQ) : vc (n + 1) d 0 592 L S M Q = (gI L 3 fun x => vc n d 0 593 L (.inl x :: S) M Q) := nr rfl
set_option maxRecDepth 100000 in
theorem v0_593 (n d : Nat) (L : List (Option mL)) (S : List mV) (M : Mm) (Q : mQ) : vc (n + 1) d 0 593 L S M Q = (vc n d 0 594 L (.inl 2 :: S) M Q) := nr rfl
set_option maxRecDepth 100000 in
theorem v0_594 (n d : Nat) (L : List (Option mL)) (S : List mV) (M : Mm) (Q : mQ) : vc (n + 1) d 0 594 L S M Q = (pI S fun y S => pI S fun x S => vc n d 0 595 L (.inl (x + y) :: S) M Q) := nr rfl
set_option maxRecDepth 100000 in
theorem v0_595 (n d : Nat) (L : List (Option mL)) (S : List mV) (M : Mm) (Q : mQ) : vc (n + 1) d 0 595 L S M Q = (pI S fun i S => pA S fun a S => shA M a fun t k => (t = 40 ∨ t = 41) ∧ inB i k ∧ vc n d 0 596 L (.inl (M.it a i.toNatClampNeg) :: S) M Q) := nr rfl
set_option maxRecDepth 100000 in
theorem v0_596 (n d : Nat) (L : List (Option mL)) (S : List mV) (M : Mm) (Q : mQ) : vc (n + 1) d 0 596 L S M Q = (pAs 2 S fun as S => pA S fun a S => shO M a 10 (stk S ≤ 8 ∧ XC d 161 (.inr (some a) :: as) M (fun r M => ∃ x : Int32, r = some (.inl x) ∧ X d 0 599 L (.inl x :: S) M Q))) := nr rfl
set_option maxRecDepth 100000 in
theorem v0_599 (n d : Nat) (L : List (Option mL)) (S : List mV) (M : Mm) (Q : mQ) : vc (n + 1) d 0 599 L S M Q = (pI S fun y S => pI S fun x S => (x = y → vc n d 0 604 L S M Q) ∧ (¬ (x = y) → vc n d 0 602 L S M Q)) := nr rfl
set_option maxRecDepth 100000 in
theorem v0_602 (n d : Nat) (L : List (Option mL)) (S : List mV) (M : Mm) (Q : mQ) : vc (n + 1) d 0 602 L S M Q = (vc n d 0 603 L (.inl 0 :: S) M Q) := nr rfl
set_option maxRecDepth 100000 in
theorem v0_603 (n d : Nat) (L : List (Option mL)) (S : List mV) (M : Mm) (Q : mQ) : vc (n + 1) d 0 603 L S M Q = (pI S fun x S => S = [] ∧ (1 = 0 ∨ x = 0 ∨ x = 1) ∧ Q (some (.inl x)) M) := nr rfl
set_option maxRecDepth 100000 in
theorem v0_604 (n d : Nat) (L : List (Option mL)) (S : List mV) (M : Mm) (Q : mQ) : vc (n + 1) d 0 604 L S M Q = (gI L 3 fun x => sL L 3 (some (.inl (x + 6))) fun L => vc n d 0 607 L S M Q) := nr rfl
set_option maxRecDepth 100000 in
theorem v0_607 (n d : Nat) (L : List (Option mL)) (S : List mV) (M : Mm) (Q : mQ) : vc (n + 1) d 0 607 L S M Q = (X d 0 18 L S M Q) := nr rfl
set_option maxRecDepth 100000 in
theorem v0_610 (n d : Nat) (L : List (Option mL)) (S : List mV) (M : Mm) (Q : mQ) : vc (n + 1) d 0 610 L S M Q = (vc n d 0 611 L (.inl 1 :: S) M Q) := nr rfl
set_option maxRecDepth 100000 in
theorem v0_611 (n d : Nat) (L : List (Option mL)) (S : List mV) (M : Mm) (Q : mQ) : vc (n + 1) d 0 611 L S M Q = (pI S fun x S => S = [] ∧ (1 = 0 ∨ x = 0 ∨ x = 1) ∧ Q (some (.inl x)) M) := nr rfl
set_option maxRecDepth 100000 in
theorem v1_0 (n d : Nat) (L : List (Option mL)) (S : List mV) (M : Mm) (Q : mQ) : vc (n + 1) d 1 0 L S M Q = (gR L 0 fun x => vc n d 1 1 L (.inr (.inr x) :: S) M Q) := nr rfl
set_option maxRecDepth 100000 in
theorem v1_1 (n d : Nat) (L : List (Option mL)) (S : List mV) (M : Mm) (Q : mQ) : vc (n + 1) d 1 1 L S M Q = (pA S fun _ S => 1000 = 1000 ∧ 0 < d ∧ stk S ≤ 8 ∧ vc n d 1 4 L S M Q) := nr rfl
set_option maxRecDepth 100000 in
theorem v1_4 (n d : Nat) (L : List (Option mL)) (S : List mV) (M : Mm) (Q : mQ) : vc (n + 1) d 1 4 L S M Q = (gR L 0 fun x => vc n d 1 5 L (.inr (.inr x) :: S) M Q) := nr rfl
set_option maxRecDepth 100000 in
theorem v1_5 (n d : Nat) (L : List (Option mL)) (S : List mV) (M : Mm) (Q : mQ) : vc (n + 1) d 1 5 L S M Q = (vc n d 1 8 L (.inr (.inr (some M.sz)) :: S) (M.nw (3, 0) 2) Q) := nr rfl
set_option maxRecDepth 100000 in
theorem v1_8 (n d : Nat) (L : List (Option mL)) (S : List mV) (M : Mm) (Q : mQ) : vc (n + 1) d 1 8 L S M Q = (pC S fun v S => vc n d 1 9 L (v :: v :: S) M Q) := nr rfl
set_option maxRecDepth 100000 in
theorem v1_9 (n d : Nat) (L : List (Option mL)) (S : List mV) (M : Mm) (Q : mQ) : vc (n + 1) d 1 9 L S M Q = (pAs 0 S fun as S => pA S fun a S => stk S ≤ 8 ∧ XC d 3 (.inr (some a) :: as) M (fun r M => r = none ∧ X d 1 12 L S M Q)) := nr rfl
set_option maxRecDepth 100000 in
theorem v1_12 (n d : Nat) (L : List (Option mL)) (S : List mV) (M : Mm) (Q : mQ) : vc (n + 1) d 1 12 L S M Q = (pR S fun x S => pA S fun a S => shO M a 0 (vc n d 1 15 L S (M.sr a 0 x) Q)) := nr rfl
set_option maxRecDepth 100000 in
theorem v1_15 (n d : Nat) (L : List (Option mL)) (S : List mV) (M : Mm) (Q : mQ) : vc (n + 1) d 1 15 L S M Q = (gR L 0 fun x => vc n d 1 16 L (.inr (.inr x) :: S) M Q) := nr rfl
set_option maxRecDepth 100000 in
theorem v1_16 (n d : Nat) (L : List (Option mL)) (S : List mV) (M : Mm) (Q : mQ) : vc (n + 1) d 1 16 L S M Q = (vc n d 1 19 L (.inr (.inr (some M.sz)) :: S) (M.nw (7, 0) 3) Q) := nr rfl
set_option maxRecDepth 100000 in
theorem v1_19 (n d : Nat) (L : List (Option mL)) (S : List mV) (M : Mm) (Q : mQ) : vc (n + 1) d 1 19 L S M Q = (pC S fun v S => vc n d 1 20 L (v :: v :: S) M Q) := nr rfl
set_option maxRecDepth 100000 in
theorem v1_20 (n d : Nat) (L : List (Option mL)) (S : List mV) (M : Mm) (Q : mQ) : vc (n + 1) d 1 20 L S M Q = (pAs 0 S fun as S => pA S fun a S => stk S ≤ 8 ∧ XC d 5 (.inr (some a) :: as) M (fun r M => r = none ∧ X d 1 23 L S M Q)) := nr rfl
set_option maxRecDepth 100000 in
theorem v1_23 (n d : Nat) (L : List (Option mL)) (S : List mV) (M : Mm) (Q : mQ) : vc (n + 1) d 1 23 L S M Q = (pR S fun x S => pA S fun a S => shO M a 0 (vc n d 1 26 L S (M.sr a 1 x) Q)) := nr rfl
set_option maxRecDepth 100000 in
theorem v1_26 (n d : Nat) (L : List (Option mL)) (S : List mV) (M : Mm) (Q : mQ) : vc (n + 1) d 1 26 L S M Q = (gR L 0 fun x => vc n d 1 27 L (.inr (.inr x) :: S) M Q) := nr rfl
set_option maxRecDepth 100000 in
theorem v1_27 (n d : Nat) (L : List (Option mL)) (S : List mV) (M : Mm) (Q : mQ) : vc (n + 1) d 1 27 L S M Q = (vc n d 1 30 L (.inr (.inr (some M.sz)) :: S) (M.nw (2, 0) 3) Q) := nr rfl
set_option maxRecDepth 100000 in
theorem v1_30 (n d : Nat) (L : List (Option mL)) (S : List mV) (M : Mm) (Q : mQ) : vc (n + 1) d 1 30 L S M Q = (pC S fun v S => vc n d 1 31 L (v :: v :: S) M Q) := nr rfl
set_option maxRecDepth 100000 in
theorem v1_31 (n d : Nat) (L : List (Option mL)) (S : List mV) (M : Mm) (Q : mQ) : vc (n + 1) d 1 31 L S M Q = (pAs 0 S fun as S => pA S fun a S => stk S ≤ 8 ∧ XC d 7 (.inr (some a) :: as) M (fun r M => r = none ∧ X d 1 34 L S M Q)) := nr rfl
set_option maxRecDepth 100000 in
theorem v1_34 (n d : Nat) (L : List (Option mL)) (S : List mV) (M : Mm) (Q : mQ) : vc (n + 1) d 1 34 L S M Q = (pR S fun x S => pA S fun a S => shO M a 0 (vc n d 1 37 L S (M.sr a 2 x) Q)) := nr rfl
set_option maxRecDepth 100000 in
theorem v1_37 (n d : Nat) (L : List (Option mL)) (S : List mV) (M : Mm) (Q : mQ) : vc (n + 1) d 1 37 L S M Q = (gR L 0 fun x => vc n d 1 38 L (.inr (.inr x) :: S) M Q) := nr rfl
set_option maxRecDepth 100000 in
theorem v1_38 (n d : Nat) (L : List (Option mL)) (S : List mV) (M : Mm) (Q : mQ) : vc (n + 1) d 1 38 L S M Q = (vc n d 1 41 L (.inr (.inr (some M.sz)) :: S) (M.nw (6, 0) 2) Q) := nr rfl
set_option maxRecDepth 100000 in
theorem v1_41 (n d : Nat) (L : List (Option mL)) (S : List mV) (M : Mm) (Q : mQ) : vc (n + 1) d 1 41 L S M Q = (pC S fun v S => vc n d 1 42 L (v :: v :: S) M Q) := nr rfl
set_option maxRecDepth 100000 in
theorem v1_42 (n d : Nat) (L : List (Option mL)) (S : List mV) (M : Mm) (Q : mQ) : vc (n + 1) d 1 42 L S M Q = (pAs 0 S fun as S => pA S fun a S => stk S ≤ 8 ∧ XC d 8 (.inr (some a) :: as) M (fun r M => r = none ∧ X d 1 45 L S M Q)) := nr rfl
set_option maxRecDepth 100000 in
theorem v1_45 (n d : Nat) (L : List (Option mL)) (S : List mV) (M : Mm) (Q : mQ) : vc (n + 1) d 1 45 L S M Q = (pR S fun x S => pA S fun a S => shO M a 0 (vc n d 1 48 L S (M.sr a 3 x) Q)) := nr rfl
set_option maxRecDepth 100000 in
theorem v1_48 (n d : Nat) (L : List (Option mL)) (S : List mV) (M : Mm) (Q : mQ) : vc (n + 1) d 1 48 L S M Q = (gR L 0 fun x => vc n d 1 49 L (.inr (.inr x) :: S) M Q) := nr rfl
set_option maxRecDepth 100000 in
theorem v1_49 (n d : Nat) (L : List (Option mL)) (S : List mV) (M : Mm) (Q : mQ) : vc (n + 1) d 1 49 L S M Q = (vc n d 1 52 L (.inr (.inr (some M.sz)) :: S) (M.nw (6, 0) 2) Q) := nr rfl
set_option maxRecDepth 100000 in
theorem v1_52 (n d : Nat) (L : List (Option mL)) (S : List mV) (M : Mm) (Q : mQ) : vc (n + 1) d 1 52 L S M Q = (pC S fun v S => vc n d 1 53 L (v :: v :: S) M Q) := nr rfl
set_option maxRecDepth 100000 in
theorem v1_53 (n d : Nat) (L : List (Option mL)) (S : List mV) (M : Mm) (Q : mQ) : vc (n + 1) d 1 53 L S M Q = (pAs 0 S fun as S => pA S fun a S => stk S ≤ 8 ∧ XC d 8 (.inr (some a) :: as) M (fun r M => r = none ∧ X d 1 56 L S M Q)) := nr rfl
set_option maxRecDepth 100000 in
theorem v1_56 (n d : Nat) (L : List (Option mL)) (S : List mV) (M : Mm) (Q : mQ) : vc (n + 1) d 1 56 L S M Q = (pR S fun x S => pA S fun a S => shO M a 0 (vc n d 1 59 L S (M.sr a 4 x) Q)) := nr rfl
set_option maxRecDepth 100000 in
theorem v1_59 (n d : Nat) (L : List (Option mL)) (S : List mV) (M : Mm) (Q : mQ) : vc (n + 1) d 1 59 L S M Q = (gR L 0 fun x => vc n d 1 60 L (.inr (.inr x) :: S) M Q) := nr rfl
set_option maxRecDepth 100000 in
theorem v1_60 (n d : Nat) (L : List (Option mL)) (S : List mV) (M : Mm) (Q : mQ) : vc (n + 1) d 1 60 L S M Q = (vc n d 1 63 L (.inr (.inr (some M.sz)) :: S) (M.nw (5, 0) 4) Q) := nr rfl
set_option maxRecDepth 100000 in
theorem v1_63 (n d : Nat) (L : List (Option mL)) (S : List mV) (M : Mm) (Q : mQ) : vc (n + 1) d 1 63 L S M Q = (pC S fun v S => vc n d 1 64 L (v :: v :: S) M Q) := nr rfl
set_option maxRecDepth 100000 in
theorem v1_64 (n d : Nat) (L : List (Option mL)) (S : List mV) (M : Mm) (Q : mQ) : vc (n + 1) d 1 64 L S M Q = (pAs 0 S fun as S => pA S fun a S => stk S ≤ 8 ∧ XC d 9 (.inr (some a) :: as) M (fun r M => r = none ∧ X d 1 67 L S M Q)) := nr rfl
set_option maxRecDepth 100000 in
theorem v1_67 (n d : Nat) (L : List (Option mL)) (S : List mV) (M : Mm) (Q : mQ) : vc (n + 1) d 1 67 L S M Q = (pR S fun x S => pA S fun a S => shO M a 0 (vc n d 1 70 L S (M.sr a 5 x) Q)) := nr rfl
set_option maxRecDepth 100000 in
theorem v1_70 (n d : Nat) (L : List (Option mL)) (S : List mV) (M : Mm) (Q : mQ) : vc (n + 1) d 1 70 L S M Q = (gR L 0 fun x => vc n d 1 71 L (.inr (.inr x) :: S) M Q) := nr rfl
set_option maxRecDepth 100000 in
theorem v1_71 (n d : Nat) (L : List (Option mL)) (S : List mV) (M : Mm) (Q : mQ) : vc (n + 1) d 1 71 L S M Q = (vc n d 1 74 L (.inr (.inr (some M.sz)) :: S) (M.nw (1, 0) 2) Q) := nr rfl
set_option maxRecDepth 100000 in
theorem v1_74 (n d : Nat) (L : List (Option mL)) (S : List mV) (M : Mm) (Q : mQ) : vc (n + 1) d 1 74 L S M Q = (pC S fun v S => vc n d 1 75 L (v :: v :: S) M Q) := nr rfl
set_option maxRecDepth 100000 in
theorem v1_75 (n d : Nat) (L : List (Option mL)) (S : List mV) (M : Mm) (Q : mQ) : vc (n + 1) d 1 75 L S M Q = (vc n d 1 78 L (.inl 200 :: S) M Q) := nr rfl
set_option maxRecDepth 100000 in
theorem v1_78 (n d : Nat) (L : List (Option mL)) (S : List mV) (M : Mm) (Q : mQ) : vc (n + 1) d 1 78 L S M Q = (pAs 1 S fun as S => pA S fun a S => stk S ≤ 8 ∧ XC d 13 (.inr (some a) :: as) M (fun r M => r = none ∧ X d 1 81 L S M Q)) := nr rfl
set_option maxRecDepth 100000 in
theorem v1_81 (n d : Nat) (L : List (Option mL)) (S : List mV) (M : Mm) (Q : mQ) : vc (n + 1) d 1 81 L S M Q = (pR S fun x S => pA S fun a S => shO M a 0 (vc n d 1 84 L S (M.sr a 6 x) Q)) := nr rfl
set_option maxRecDepth 100000 in
theorem v1_84 (n d : Nat) (L : List (Option mL)) (S : List mV) (M : Mm) (Q : mQ) : vc (n + 1) d 1 84 L S M Q = (gR L 0 fun x => vc n d 1 85 L (.inr (.inr x) :: S) M Q) := nr rfl
set_option maxRecDepth 100000 in
theorem v1_85 (n d : Nat) (L : List (Option mL)) (S : List mV) (M : Mm) (Q : mQ) : vc (n + 1) d 1 85 L S M Q = (vc n d 1 88 L (.inr (.inr (some M.sz)) :: S) (M.nw (1, 0) 2) Q) := nr rfl
set_option maxRecDepth 100000 in
theorem v1_88 (n d : Nat) (L : List (Option mL)) (S : List mV) (M : Mm) (Q : mQ) : vc (n + 1) d 1 88 L S M Q = (pC S fun v S => vc n d 1 89 L (v :: v :: S) M Q) := nr rfl
set_option maxRecDepth 100000 in
theorem v1_89 (n d : Nat) (L : List (Option mL)) (S : List mV) (M : Mm) (Q : mQ) : vc (n + 1) d 1 89 L S M Q = (vc n d 1 92 L (.inl 255 :: S) M Q) := nr rfl
set_option maxRecDepth 100000 in
theorem v1_92 (n d : Nat) (L : List (Option mL)) (S : List mV) (M : Mm) (Q : mQ) : vc (n + 1) d 1 92 L S M Q = (pAs 1 S fun as S => pA S fun a S => stk S ≤ 8 ∧ XC d 13 (.inr (some a) :: as) M (fun r M => r = none ∧ X d 1 95 L S M Q)) := nr rfl
set_option maxRecDepth 100000 in
theorem v1_95 (n d : Nat) (L : List (Option mL)) (S : List mV) (M : Mm) (Q : mQ) : vc (n + 1) d 1 95 L S M Q = (pR S fun x S => pA S fun a S => shO M a 0 (vc n d 1 98 L S (M.sr a 7 x) Q)) := nr rfl
set_option maxRecDepth 100000 in
theorem v1_98 (n d : Nat) (L : List (Option mL)) (S : List mV) (M : Mm) (Q : mQ) : vc (n + 1) d 1 98 L S M Q = (gR L 0 fun x => vc n d 1 99 L (.inr (.inr x) :: S) M Q) := nr rfl
set_option maxRecDepth 100000 in
theorem v1_99 (n d : Nat) (L : List (Option mL)) (S : List mV) (M : Mm) (Q : mQ) : vc (n + 1) d 1 99 L S M Q = (vc n d 1 102 L (.inr (.inr (some M.sz)) :: S) (M.nw (1, 0) 2) Q) := nr rfl
set_option maxRecDepth 100000 in
theorem v1_102 (n d : Nat) (L : List (Option mL)) (S : List mV) (M : Mm) (Q : mQ) : vc (n + 1) d 1 102 L S M Q = (pC S fun v S => vc n d 1 103 L (v :: v :: S) M Q) := nr rfl
set_option maxRecDepth 100000 in
theorem v1_103 (n d : Nat) (L : List (Option mL)) (S : List mV) (M : Mm) (Q : mQ) : vc (n + 1) d 1 103 L S M Q = (vc n d 1 106 L (.inl 255 :: S) M Q) := nr rfl
set_option maxRecDepth 100000 in
theorem v1_106 (n d : Nat) (L : List (Option mL)) (S : List mV) (M : Mm) (Q : mQ) : vc (n + 1) d 1 106 L S M Q = (pAs 1 S fun as S => pA S fun a S => stk S ≤ 8 ∧ XC d 13 (.inr (some a) :: as) M (fun r M => r = none ∧ X d 1 109 L S M Q)) := nr rfl
set_option maxRecDepth 100000 in
theorem v1_109 (n d : Nat) (L : List (Option mL)) (S : List mV) (M : Mm) (Q : mQ) : vc (n + 1) d 1 109 L S M Q = (pR S fun x S => pA S fun a S => shO M a 0 (vc n d 1 112 L S (M.sr a 8 x) Q)) := nr rfl
set_option maxRecDepth 100000 in
theorem v1_112 (n d : Nat) (L : List (Option mL)) (S : List mV) (M : Mm) (Q : mQ) : vc (n + 1) d 1 112 L S M Q = (gR L 0 fun x => vc n d 1 113 L (.inr (.inr x) :: S) M Q) := nr rfl
set_option maxRecDepth 100000 in
theorem v1_113 (n d : Nat) (L : List (Option mL)) (S : List mV) (M : Mm) (Q : mQ) : vc (n + 1) d 1 113 L S M Q = (vc n d 1 116 L (.inr (.inr (some M.sz)) :: S) (M.nw (1, 0) 2) Q) := nr rfl
set_option maxRecDepth 100000 in
theorem v1_116 (n d : Nat) (L : List (Option mL)) (S : List mV) (M : Mm) (Q : mQ) : vc (n + 1) d 1 116 L S M Q = (pC S fun v S => vc n d 1 117 L (v :: v :: S) M Q) := nr rfl
set_option maxRecDepth 100000 in
theorem v1_117 (n d : Nat) (L : List (Option mL)) (S : List mV) (M : Mm) (Q : mQ) : vc (n + 1) d 1 117 L S M Q = (vc n d 1 120 L (.inl 263 :: S) M Q) := nr rfl
set_option maxRecDepth 100000 in
theorem v1_120 (n d : Nat) (L : List (Option mL)) (S : List mV) (M : Mm) (Q : mQ) : vc (n + 1) d 1 120 L S M Q = (pAs 1 S fun as S => pA S fun a S => stk S ≤ 8 ∧ XC d 13 (.inr (some a) :: as) M (fun r M => r = none ∧ X d 1 123 L S M Q)) := nr rfl
set_option maxRecDepth 100000 in
theorem v1_123 (n d : Nat) (L : List (Option mL)) (S : List mV) (M : Mm) (Q : mQ) : vc (n + 1) d 1 123 L S M Q = (pR S fun x S => pA S fun a S => shO M a 0 (vc n d 1 126 L S (M.sr a 9 x) Q)) := nr rfl
set_option maxRecDepth 100000 in
theorem v1_126 (n d : Nat) (L : List (Option mL)) (S : List mV) (M : Mm) (Q : mQ) : vc (n + 1) d 1 126 L S M Q = (gR L 0 fun x => vc n d 1 127 L (.inr (.inr x) :: S) M Q) := nr rfl
set_option maxRecDepth 100000 in
theorem v1_127 (n d : Nat) (L : List (Option mL)) (S : List mV) (M : Mm) (Q : mQ) : vc (n + 1) d 1 127 L S M Q = (vc n d 1 130 L (.inl 128 :: S) M Q) := nr rfl
set_option maxRecDepth 100000 in
theorem v1_130 (n d : Nat) (L : List (Option mL)) (S : List mV) (M : Mm) (Q : mQ) : vc (n + 1) d 1 130 L S M Q = (pI S fun k S => 0 ≤ k.toInt ∧ k.toInt ≤ 100000 ∧ vc n d 1 132 L (.inr (.inr (some M.sz)) :: S) (M.nw (42, k.toNatClampNeg) k.toNatClampNeg) Q) := nr rfl
set_option maxRecDepth 100000 in
theorem v1_132 (n d : Nat) (L : List (Option mL)) (S : List mV) (M : Mm) (Q : mQ) : vc (n + 1) d 1 132 L S M Q = (pR S fun x S => pA S fun a S => shO M a 0 (vc n d 1 135 L S (M.sr a 10 x) Q)) := nr rfl
set_option maxRecDepth 100000 in
theorem v1_135 (n d : Nat) (L : List (Option mL)) (S : List mV) (M : Mm) (Q : mQ) : vc (n + 1) d 1 135 L S M Q = (gR L 0 fun x => vc n d 1 136 L (.inr (.inr x) :: S) M Q) := nr rfl
set_option maxRecDepth 100000 in
theorem v1_136 (n d : Nat) (L : List (Option mL)) (S : List mV) (M : Mm) (Q : mQ) : vc (n + 1) d 1 136 L S M Q = (vc n d 1 138 L (.inl 16 :: S) M Q) := nr rfl
set_option maxRecDepth 100000 in
theorem v1_138 (n d : Nat) (L : List (Option mL)) (S : List mV) (M : Mm) (Q : mQ) : vc (n + 1) d 1 138 L S M Q = (pI S fun k S => 0 ≤ k.toInt ∧ k.toInt ≤ 100000 ∧ vc n d 1 140 L (.inr (.inr (some M.sz)) :: S) (M.nw (41, k.toNatClampNeg) k.toNatClampNeg) Q) := nr rfl
set_option maxRecDepth 100000 in
theorem v1_140 (n d : Nat) (L : List (Option mL)) (S : List mV) (M : Mm) (Q : mQ) : vc (n + 1) d 1 140 L S M Q = (pR S fun x S => pA S fun a S => shO M a 0 (vc n d 1 143 L S (M.sr a 11 x) Q)) := nr rfl
set_option maxRecDepth 100000 in
theorem v1_143 (n d : Nat) (L : List (Option mL)) (S : List mV) (M : Mm) (Q : mQ) : vc (n + 1) d 1 143 L S M Q = (gR L 0 fun x => vc n d 1 144 L (.inr (.inr x) :: S) M Q) := nr rfl
set_option maxRecDepth 100000 in
theorem v1_144 (n d : Nat) (L : List (Option mL)) (S : List mV) (M : Mm) (Q : mQ) : vc (n + 1) d 1 144 L S M Q = (vc n d 1 146 L (.inl 8 :: S) M Q) := nr rfl
set_option maxRecDepth 100000 in
theorem v1_146 (n d : Nat) (L : List (Option mL)) (S : List mV) (M : Mm) (Q : mQ) : vc (n + 1) d 1 146 L S M Q = (pI S fun k S => 0 ≤ k.toInt ∧ k.toInt ≤ 100000 ∧ vc n d 1 148 L (.inr (.inr (some M.sz)) :: S) (M.nw (41, k.toNatClampNeg) k.toNatClampNeg) Q) := nr rfl
set_option maxRecDepth 100000 in
theorem v1_148 (n d : Nat) (L : List (Option mL)) (S : List mV) (M : Mm) (Q : mQ) : vc (n + 1) d 1 148 L S M Q = (pR S fun x S => pA S fun a S => shO M a 0 (vc n d 1 151 L S (M.sr a 12 x) Q)) := nr rfl
set_option maxRecDepth 100000 in
theorem v1_151 (n d : Nat) (L : List (Option mL)) (S : List mV) (M : Mm) (Q : mQ) : vc (n + 1) d 1 151 L S M Q = (gR L 0 fun x => vc n d 1 152 L (.inr (.inr x) :: S) M Q) := nr rfl
set_option maxRecDepth 100000 in
theorem v1_152 (n d : Nat) (L : List (Option mL)) (S : List mV) (M : Mm) (Q : mQ) : vc (n + 1) d 1 152 L S M Q = (vc n d 1 155 L (.inl 513 :: S) M Q) := nr rfl
set_option maxRecDepth 100000 in
theorem v1_155 (n d : Nat) (L : List (Option mL)) (S : List mV) (M : Mm) (Q : mQ) : vc (n + 1) d 1 155 L S M Q = (pI S fun k S => 0 ≤ k.toInt ∧ k.toInt ≤ 100000 ∧ vc n d 1 157 L (.inr (.inr (some M.sz)) :: S) (M.nw (42, k.toNatClampNeg) k.toNatClampNeg) Q) := nr rfl
set_option maxRecDepth 100000 in
theorem v1_157 (n d : Nat) (L : List (Option mL)) (S : List mV) (M : Mm) (Q : mQ) : vc (n + 1) d 1 157 L S M Q = (pR S fun x S => pA S fun a S => shO M a 0 (vc n d 1 160 L S (M.sr a 13 x) Q)) := nr rfl
set_option maxRecDepth 100000 in
theorem v1_160 (n d : Nat) (L : List (Option mL)) (S : List mV) (M : Mm) (Q : mQ) : vc (n + 1) d 1 160 L S M Q = (gR L 0 fun x => vc n d 1 161 L (.inr (.inr x) :: S) M Q) := nr rfl
set_option maxRecDepth 100000 in
theorem v1_161 (n d : Nat) (L : List (Option mL)) (S : List mV) (M : Mm) (Q : mQ) : vc (n + 1) d 1 161 L S M Q = (pAs 0 S fun as S => pA S fun a S => shO M a 0 (stk S ≤ 8 ∧ XC d 15 (.inr (some a) :: as) M (fun r M => r = none ∧ X d 1 164 L S M Q))) := nr rfl
set_option maxRecDepth 100000 in
theorem v1_164 (n d : Nat) (L : List (Option mL)) (S : List mV) (M : Mm) (Q : mQ) : vc (n + 1) d 1 164 L S M Q = (S = [] ∧ Q none M) := nr rfl
set_option maxRecDepth 100000 in
theorem v2_0 (n d : Nat) (L : List (Option mL)) (S : List mV) (M : Mm) (Q : mQ) : vc (n + 1) d 2 0 L S M Q = (S = [] ∧ Q none M) := nr rfl
set_option maxRecDepth 100000 in
theorem v3_0 (n d : Nat) (L : List (Option mL)) (S : List mV) (M : Mm) (Q : mQ) : vc (n + 1) d 3 0 L S M Q = (gR L 0 fun x => vc n d 3 1 L (.inr (.inr x) :: S) M Q) := nr rfl
set_option maxRecDepth 100000 in
theorem v3_1 (n d : Nat) (L : List (Option mL)) (S : List mV) (M : Mm) (Q : mQ) : vc (n + 1) d 3 1 L S M Q = (pA S fun _ S => 1000 = 1000 ∧ 0 < d ∧ stk S ≤ 8 ∧ vc n d 3 4 L S M Q) := nr rfl
set_option maxRecDepth 100000 in
theorem v3_4 (n d : Nat) (L : List (Option mL)) (S : List mV) (M : Mm) (Q : mQ) : vc (n + 1) d 3 4 L S M Q = (gR L 0 fun x => vc n d 3 5 L (.inr (.inr x) :: S) M Q) := nr rfl
set_option maxRecDepth 100000 in
theorem v3_5 (n d : Nat) (L : List (Option mL)) (S : List mV) (M : Mm) (Q : mQ) : vc (n + 1) d 3 5 L S M Q = (vc n d 3 8 L (.inl 2048 :: S) M Q) := nr rfl
set_option maxRecDepth 100000 in
theorem v3_8 (n d : Nat) (L : List (Option mL)) (S : List mV) (M : Mm) (Q : mQ) : vc (n + 1) d 3 8 L S M Q = (pI S fun k S => 0 ≤ k.toInt ∧ k.toInt ≤ 100000 ∧ vc n d 3 10 L (.inr (.inr (some M.sz)) :: S) (M.nw (41, k.toNatClampNeg) k.toNatClampNeg) Q) := nr rfl
set_option maxRecDepth 100000 in
theorem v3_10 (n d : Nat) (L : List (Option mL)) (S : List mV) (M : Mm) (Q : mQ) : vc (n + 1) d 3 10 L S M Q = (pR S fun x S => pA S fun a S => shO M a 3 (vc n d 3 13 L S (M.sr a 0 x) Q)) := nr rfl
set_option maxRecDepth 100000 in
theorem v3_13 (n d : Nat) (L : List (Option mL)) (S : List mV) (M : Mm) (Q : mQ) : vc (n + 1) d 3 13 L S M Q = (gR L 0 fun x => vc n d 3 14 L (.inr (.inr x) :: S) M Q) := nr rfl
set_option maxRecDepth 100000 in
theorem v3_14 (n d : Nat) (L : List (Option mL)) (S : List mV) (M : Mm) (Q : mQ) : vc (n + 1) d 3 14 L S M Q = (vc n d 3 15 L (.inl 2 :: S) M Q) := nr rfl
set_option maxRecDepth 100000 in
theorem v3_15 (n d : Nat) (L : List (Option mL)) (S : List mV) (M : Mm) (Q : mQ) : vc (n + 1) d 3 15 L S M Q = (pI S fun k S => 0 ≤ k.toInt ∧ k.toInt ≤ 100000 ∧ vc n d 3 18 L (.inr (.inr (some M.sz)) :: S) (M.nw (58, k.toNatClampNeg) k.toNatClampNeg) Q) := nr rfl
set_option maxRecDepth 100000 in
theorem v3_18 (n d : Nat) (L : List (Option mL)) (S : List mV) (M : Mm) (Q : mQ) : vc (n + 1) d 3 18 L S M Q = (pR S fun x S => pA S fun a S => shO M a 3 (vc n d 3 21 L S (M.sr a 1 x) Q)) := nr rfl
set_option maxRecDepth 100000 in
theorem v3_21 (n d : Nat) (L : List (Option mL)) (S : List mV) (M : Mm) (Q : mQ) : vc (n + 1) d 3 21 L S M Q = (gR L 0 fun x => vc n d 3 22 L (.inr (.inr x) :: S) M Q) := nr rfl
set_option maxRecDepth 100000 in
theorem v3_22 (n d : Nat) (L : List (Option mL)) (S : List mV) (M : Mm) (Q : mQ) : vc (n + 1) d 3 22 L S M Q = (pA S fun a S => shO M a 3 (rrf M a 1 fun r => vc n d 3 25 L (.inr (.inr r) :: S) M Q)) := nr rfl
set_option maxRecDepth 100000 in
theorem v3_25 (n d : Nat) (L : List (Option mL)) (S : List mV) (M : Mm) (Q : mQ) : vc (n + 1) d 3 25 L S M Q = (vc n d 3 26 L (.inl 0 :: S) M Q) := nr rfl
set_option maxRecDepth 100000 in
theorem v3_26 (n d : Nat) (L : List (Option mL)) (S : List mV) (M : Mm) (Q : mQ) : vc (n + 1) d 3 26 L S M Q = (vc n d 3 29 L (.inr (.inr (some M.sz)) :: S) (M.nw (8, 0) 5) Q) := nr rfl
set_option maxRecDepth 100000 in
theorem v3_29 (n d : Nat) (L : List (Option mL)) (S : List mV) (M : Mm) (Q : mQ) : vc (n + 1) d 3 29 L S M Q = (pC S fun v S => vc n d 3 30 L (v :: v :: S) M Q) := nr rfl
set_option maxRecDepth 100000 in
theorem v3_30 (n d : Nat) (L : List (Option mL)) (S : List mV) (M : Mm) (Q : mQ) : vc (n + 1) d 3 30 L S M Q = (vc n d 3 31 L (.inl 0 :: S) M Q) := nr rfl
set_option maxRecDepth 100000 in
theorem v3_31 (n d : Nat) (L : List (Option mL)) (S : List mV) (M : Mm) (Q : mQ) : vc (n + 1) d 3 31 L S M Q = (vc n d 3 32 L (.inl 0 :: S) M Q) := nr rfl
set_option maxRecDepth 100000 in
theorem v3_32 (n d : Nat) (L : List (Option mL)) (S : List mV) (M : Mm) (Q : mQ) : vc (n + 1) d 3 32 L S M Q = (vc n d 3 33 L (.inl 0 :: S) M Q) := nr rfl
set_option maxRecDepth 100000 in
theorem v3_33 (n d : Nat) (L : List (Option mL)) (S : List mV) (M : Mm) (Q : mQ) : vc (n + 1) d 3 33 L S M Q = (vc n d 3 35 L (.inl 8 :: S) M Q) := nr rfl
set_option maxRecDepth 100000 in
theorem v3_35 (n d : Nat) (L : List (Option mL)) (S : List mV) (M : Mm) (Q : mQ) : vc (n + 1) d 3 35 L S M Q = (pI S fun k S => 0 ≤ k.toInt ∧ k.toInt ≤ 100000 ∧ vc n d 3 37 L (.inr (.inr (some M.sz)) :: S) (M.nw (41, k.toNatClampNeg) k.toNatClampNeg) Q) := nr rfl
set_option maxRecDepth 100000 in
theorem v3_37 (n d : Nat) (L : List (Option mL)) (S : List mV) (M : Mm) (Q : mQ) : vc (n + 1) d 3 37 L S M Q = (vc n d 3 38 L (.inl 0 :: S) M Q) := nr rfl
set_option maxRecDepth 100000 in
theorem v3_38 (n d : Nat) (L : List (Option mL)) (S : List mV) (M : Mm) (Q : mQ) : vc (n + 1) d 3 38 L S M Q = (pI S fun k S => 0 ≤ k.toInt ∧ k.toInt ≤ 100000 ∧ vc n d 3 40 L (.inr (.inr (some M.sz)) :: S) (M.nw (41, k.toNatClampNeg) k.toNatClampNeg) Q) := nr rfl
set_option maxRecDepth 100000 in
theorem v3_40 (n d : Nat) (L : List (Option mL)) (S : List mV) (M : Mm) (Q : mQ) : vc (n + 1) d 3 40 L S M Q = (pAs 5 S fun as S => pA S fun a S => stk S ≤ 8 ∧ XC d 4 (.inr (some a) :: as) M (fun r M => r = none ∧ X d 3 43 L S M Q)) := nr rfl
set_option maxRecDepth 100000 in
theorem v3_43 (n d : Nat) (L : List (Option mL)) (S : List mV) (M : Mm) (Q : mQ) : vc (n + 1) d 3 43 L S M Q = (pR S fun x S => pI S fun i S => pA S fun a S => shA M a fun t k => rTyB t = true ∧ inB i k ∧ (∀ b : Nat, x = some b → M.sh b = some (t - 50, 0)) ∧ vc n d 3 44 L S (M.sr a i.toNatClampNeg x) Q) := nr rfl
set_option maxRecDepth 100000 in
theorem v3_44 (n d : Nat) (L : List (Option mL)) (S : List mV) (M : Mm) (Q : mQ) : vc (n + 1) d 3 44 L S M Q = (S = [] ∧ Q none M) := nr rfl
set_option maxRecDepth 100000 in
theorem v4_0 (n d : Nat) (L : List (Option mL)) (S : List mV) (M : Mm) (Q : mQ) : vc (n + 1) d 4 0 L S M Q = (gR L 0 fun x => vc n d 4 1 L (.inr (.inr x) :: S) M Q) := nr rfl
set_option maxRecDepth 100000 in
theorem v4_1 (n d : Nat) (L : List (Option mL)) (S : List mV) (M : Mm) (Q : mQ) : vc (n + 1) d 4 1 L S M Q = (pA S fun _ S => 1000 = 1000 ∧ 0 < d ∧ stk S ≤ 8 ∧ vc n d 4 4 L S M Q) := nr rfl
set_option maxRecDepth 100000 in
theorem v4_4 (n d : Nat) (L : List (Option mL)) (S : List mV) (M : Mm) (Q : mQ) : vc (n + 1) d 4 4 L S M Q = (gR L 0 fun x => vc n d 4 5 L (.inr (.inr x) :: S) M Q) := nr rfl
set_option maxRecDepth 100000 in
theorem v4_5 (n d : Nat) (L : List (Option mL)) (S : List mV) (M : Mm) (Q : mQ) : vc (n + 1) d 4 5 L S M Q = (gI L 1 fun x => vc n d 4 6 L (.inl x :: S) M Q) := nr rfl
set_option maxRecDepth 100000 in
theorem v4_6 (n d : Nat) (L : List (Option mL)) (S : List mV) (M : Mm) (Q : mQ) : vc (n + 1) d 4 6 L S M Q = (pI S fun x S => pA S fun a S => shO M a 8 (vc n d 4 9 L S (M.si a 0 x) Q)) := nr rfl
set_option maxRecDepth 100000 in
theorem v4_9 (n d : Nat) (L : List (Option mL)) (S : List mV) (M : Mm) (Q : mQ) : vc (n + 1) d 4 9 L S M Q = (gR L 0 fun x => vc n d 4 10 L (.inr (.inr x) :: S) M Q) := nr rfl
set_option maxRecDepth 100000 in
theorem v4_10 (n d : Nat) (L : List (Option mL)) (S : List mV) (M : Mm) (Q : mQ) : vc (n + 1) d 4 10 L S M Q = (gI L 2 fun x => vc n d 4 11 L (.inl x :: S) M Q) := nr rfl
set_option maxRecDepth 100000 in
theorem v4_11 (n d : Nat) (L : List (Option mL)) (S : List mV) (M : Mm) (Q : mQ) : vc (n + 1) d 4 11 L S M Q = (pI S fun x S => pA S fun a S => shO M a 8 (vc n d 4 14 L S (M.si a 1 x) Q)) := nr rfl
set_option maxRecDepth 100000 in
theorem v4_14 (n d : Nat) (L : List (Option mL)) (S : List mV) (M : Mm) (Q : mQ) : vc (n + 1) d 4 14 L S M Q = (gR L 0 fun x => vc n d 4 15 L (.inr (.inr x) :: S) M Q) := nr rfl
set_option maxRecDepth 100000 in
theorem v4_15 (n d : Nat) (L : List (Option mL)) (S : List mV) (M : Mm) (Q : mQ) : vc (n + 1) d 4 15 L S M Q = (gI L 3 fun x => vc n d 4 16 L (.inl x :: S) M Q) := nr rfl
set_option maxRecDepth 100000 in
theorem v4_16 (n d : Nat) (L : List (Option mL)) (S : List mV) (M : Mm) (Q : mQ) : vc (n + 1) d 4 16 L S M Q = (pI S fun x S => pA S fun a S => shO M a 8 (vc n d 4 19 L S (M.si a 2 x) Q)) := nr rfl
set_option maxRecDepth 100000 in
theorem v4_19 (n d : Nat) (L : List (Option mL)) (S : List mV) (M : Mm) (Q : mQ) : vc (n + 1) d 4 19 L S M Q = (gR L 0 fun x => vc n d 4 20 L (.inr (.inr x) :: S) M Q) := nr rfl
set_option maxRecDepth 100000 in
theorem v4_20 (n d : Nat) (L : List (Option mL)) (S : List mV) (M : Mm) (Q : mQ) : vc (n + 1) d 4 20 L S M Q = (gR L 4 fun x => vc n d 4 22 L (.inr (.inr x) :: S) M Q) := nr rfl
set_option maxRecDepth 100000 in
theorem v4_22 (n d : Nat) (L : List (Option mL)) (S : List mV) (M : Mm) (Q : mQ) : vc (n + 1) d 4 22 L S M Q = (pR S fun x S => pA S fun a S => shO M a 8 (vc n d 4 25 L S (M.sr a 3 x) Q)) := nr rfl
set_option maxRecDepth 100000 in
theorem v4_25 (n d : Nat) (L : List (Option mL)) (S : List mV) (M : Mm) (Q : mQ) : vc (n + 1) d 4 25 L S M Q = (gR L 0 fun x => vc n d 4 26 L (.inr (.inr x) :: S) M Q) := nr rfl
set_option maxRecDepth 100000 in
theorem v4_26 (n d : Nat) (L : List (Option mL)) (S : List mV) (M : Mm) (Q : mQ) : vc (n + 1) d 4 26 L S M Q = (gR L 5 fun x => vc n d 4 28 L (.inr (.inr x) :: S) M Q) := nr rfl
set_option maxRecDepth 100000 in
theorem v4_28 (n d : Nat) (L : List (Option mL)) (S : List mV) (M : Mm) (Q : mQ) : vc (n + 1) d 4 28 L S M Q = (pR S fun x S => pA S fun a S => shO M a 8 (vc n d 4 31 L S (M.sr a 4 x) Q)) := nr rfl
set_option maxRecDepth 100000 in
theorem v4_31 (n d : Nat) (L : List (Option mL)) (S : List mV) (M : Mm) (Q : mQ) : vc (n + 1) d 4 31 L S M Q = (S = [] ∧ Q none M) := nr rfl
set_option maxRecDepth 100000 in
theorem v5_0 (n d : Nat) (L : List (Option mL)) (S : List mV) (M : Mm) (Q : mQ) : vc (n + 1) d 5 0 L S M Q = (gR L 0 fun x => vc n d 5 1 L (.inr (.inr x) :: S) M Q) := nr rfl
set_option maxRecDepth 100000 in
theorem v5_1 (n d : Nat) (L : List (Option mL)) (S : List mV) (M : Mm) (Q : mQ) : vc (n + 1) d 5 1 L S M Q = (pA S fun _ S => 1000 = 1000 ∧ 0 < d ∧ stk S ≤ 8 ∧ vc n d 5 4 L S M Q) := nr rfl
set_option maxRecDepth 100000 in
theorem v5_4 (n d : Nat) (L : List (Option mL)) (S : List mV) (M : Mm) (Q : mQ) : vc (n + 1) d 5 4 L S M Q = (gR L 0 fun x => vc n d 5 5 L (.inr (.inr x) :: S) M Q) := nr rfl
set_option maxRecDepth 100000 in
theorem v5_5 (n d : Nat) (L : List (Option mL)) (S : List mV) (M : Mm) (Q : mQ) : vc (n + 1) d 5 5 L S M Q = (vc n d 5 7 L (.inl 120 :: S) M Q) := nr rfl
set_option maxRecDepth 100000 in
theorem v5_7 (n d : Nat) (L : List (Option mL)) (S : List mV) (M : Mm) (Q : mQ) : vc (n + 1) d 5 7 L S M Q = (pI S fun k S => 0 ≤ k.toInt ∧ k.toInt ≤ 100000 ∧ vc n d 5 10 L (.inr (.inr (some M.sz)) :: S) (M.nw (59, k.toNatClampNeg) k.toNatClampNeg) Q) := nr rfl
set_option maxRecDepth 100000 in
theorem v5_10 (n d : Nat) (L : List (Option mL)) (S : List mV) (M : Mm) (Q : mQ) : vc (n + 1) d 5 10 L S M Q = (pR S fun x S => pA S fun a S => shO M a 7 (vc n d 5 13 L S (M.sr a 0 x) Q)) := nr rfl
set_option maxRecDepth 100000 in
theorem v5_13 (n d : Nat) (L : List (Option mL)) (S : List mV) (M : Mm) (Q : mQ) : vc (n + 1) d 5 13 L S M Q = (vc n d 5 14 L (.inl 0 :: S) M Q) := nr rfl
set_option maxRecDepth 100000 in
theorem v5_14 (n d : Nat) (L : List (Option mL)) (S : List mV) (M : Mm) (Q : mQ) : vc (n + 1) d 5 14 L S M Q = (pI S fun x S => sL L 1 (some (.inl x)) fun L => X d 5 15 L S M Q) := nr rfl
set_option maxRecDepth 100000 in
theorem v5_15 (n d : Nat) (L : List (Option mL)) (S : List mV) (M : Mm) (Q : mQ) : vc (n + 1) d 5 15 L S M Q = (gI L 1 fun x => vc n d 5 16 L (.inl x :: S) M Q) := nr rfl
set_option maxRecDepth 100000 in
theorem v5_16 (n d : Nat) (L : List (Option mL)) (S : List mV) (M : Mm) (Q : mQ) : vc (n + 1) d 5 16 L S M Q = (vc n d 5 18 L (.inl 120 :: S) M Q) := nr rfl
set_option maxRecDepth 100000 in
theorem v5_18 (n d : Nat) (L : List (Option mL)) (S : List mV) (M : Mm) (Q : mQ) : vc (n + 1) d 5 18 L S M Q = (pI S fun y S => pI S fun x S => (y ≤ x → vc n d 5 41 L S M Q) ∧ (¬ (y ≤ x) → vc n d 5 21 L S M Q)) := nr rfl
set_option maxRecDepth 100000 in
theorem v5_21 (n d : Nat) (L : List (Option mL)) (S : List mV) (M : Mm) (Q : mQ) : vc (n + 1) d 5 21 L S M Q = (gR L 0 fun x => vc n d 5 22 L (.inr (.inr x) :: S) M Q) := nr rfl
set_option maxRecDepth 100000 in
theorem v5_22 (n d : Nat) (L : List (Option mL)) (S : List mV) (M : Mm) (Q : mQ) : vc (n + 1) d 5 22 L S M Q = (pA S fun a S => shO M a 7 (rrf M a 0 fun r => vc n d 5 25 L (.inr (.inr r) :: S) M Q)) := nr rfl
set_option maxRecDepth 100000 in
theorem v5_25 (n d : Nat) (L : List (Option mL)) (S : List mV) (M : Mm) (Q : mQ) : vc (n + 1) d 5 25 L S M Q = (gI L 1 fun x => vc n d 5 26 L (.inl x :: S) M Q) := nr rfl
set_option maxRecDepth 100000 in
theorem v5_26 (n d : Nat) (L : List (Option mL)) (S : List mV) (M : Mm) (Q : mQ) : vc (n + 1) d 5 26 L S M Q = (vc n d 5 29 L (.inr (.inr (some M.sz)) :: S) (M.nw (9, 0) 7) Q) := nr rfl
set_option maxRecDepth 100000 in
theorem v5_29 (n d : Nat) (L : List (Option mL)) (S : List mV) (M : Mm) (Q : mQ) : vc (n + 1) d 5 29 L S M Q = (pC S fun v S => vc n d 5 30 L (v :: v :: S) M Q) := nr rfl
set_option maxRecDepth 100000 in
theorem v5_30 (n d : Nat) (L : List (Option mL)) (S : List mV) (M : Mm) (Q : mQ) : vc (n + 1) d 5 30 L S M Q = (gI L 1 fun x => vc n d 5 31 L (.inl x :: S) M Q) := nr rfl
set_option maxRecDepth 100000 in
theorem v5_31 (n d : Nat) (L : List (Option mL)) (S : List mV) (M : Mm) (Q : mQ) : vc (n + 1) d 5 31 L S M Q = (pAs 1 S fun as S => pA S fun a S => stk S ≤ 8 ∧ XC d 6 (.inr (some a) :: as) M (fun r M => r = none ∧ X d 5 34 L S M Q)) := nr rfl
set_option maxRecDepth 100000 in
theorem v5_34 (n d : Nat) (L : List (Option mL)) (S : List mV) (M : Mm) (Q : mQ) : vc (n + 1) d 5 34 L S M Q = (pR S fun x S => pI S fun i S => pA S fun a S => shA M a fun t k => rTyB t = true ∧ inB i k ∧ (∀ b : Nat, x = some b → M.sh b = some (t - 50, 0)) ∧ vc n d 5 35 L S (M.sr a i.toNatClampNeg x) Q) := nr rfl
set_option maxRecDepth 100000 in
theorem v5_35 (n d : Nat) (L : List (Option mL)) (S : List mV) (M : Mm) (Q : mQ) : vc (n + 1) d 5 35 L S M Q = (gI L 1 fun x => sL L 1 (some (.inl (x + 1))) fun L => vc n d 5 38 L S M Q) := nr rfl
set_option maxRecDepth 100000 in
theorem v5_38 (n d : Nat) (L : List (Option mL)) (S : List mV) (M : Mm) (Q : mQ) : vc (n + 1) d 5 38 L S M Q = (X d 5 15 L S M Q) := nr rfl
set_option maxRecDepth 100000 in
theorem v5_41 (n d : Nat) (L : List (Option mL)) (S : List mV) (M : Mm) (Q : mQ) : vc (n + 1) d 5 41 L S M Q = (S = [] ∧ Q none M) := nr rfl
set_option maxRecDepth 100000 in
theorem v6_0 (n d : Nat) (L : List (Option mL)) (S : List mV) (M : Mm) (Q : mQ) : vc (n + 1) d 6 0 L S M Q = (gR L 0 fun x => vc n d 6 1 L (.inr (.inr x) :: S) M Q) := nr rfl
set_option maxRecDepth 100000 in
theorem v6_1 (n d : Nat) (L : List (Option mL)) (S : List mV) (M : Mm) (Q : mQ) : vc (n + 1) d 6 1 L S M Q = (pA S fun _ S => 1000 = 1000 ∧ 0 < d ∧ stk S ≤ 8 ∧ vc n d 6 4 L S M Q) := nr rfl
set_option maxRecDepth 100000 in
theorem v6_4 (n d : Nat) (L : List (Option mL)) (S : List mV) (M : Mm) (Q : mQ) : vc (n + 1) d 6 4 L S M Q = (gR L 0 fun x => vc n d 6 5 L (.inr (.inr x) :: S) M Q) := nr rfl
set_option maxRecDepth 100000 in
theorem v6_5 (n d : Nat) (L : List (Option mL)) (S : List mV) (M : Mm) (Q : mQ) : vc (n + 1) d 6 5 L S M Q = (vc n d 6 7 L (.inl 16 :: S) M Q) := nr rfl
set_option maxRecDepth 100000 in
theorem v6_7 (n d : Nat) (L : List (Option mL)) (S : List mV) (M : Mm) (Q : mQ) : vc (n + 1) d 6 7 L S M Q = (pI S fun k S => 0 ≤ k.toInt ∧ k.toInt ≤ 100000 ∧ vc n d 6 9 L (.inr (.inr (some M.sz)) :: S) (M.nw (41, k.toNatClampNeg) k.toNatClampNeg) Q) := nr rfl
set_option maxRecDepth 100000 in
theorem v6_9 (n d : Nat) (L : List (Option mL)) (S : List mV) (M : Mm) (Q : mQ) : vc (n + 1) d 6 9 L S M Q = (pR S fun x S => pA S fun a S => shO M a 9 (vc n d 6 12 L S (M.sr a 1 x) Q)) := nr rfl
set_option maxRecDepth 100000 in
theorem v6_12 (n d : Nat) (L : List (Option mL)) (S : List mV) (M : Mm) (Q : mQ) : vc (n + 1) d 6 12 L S M Q = (gR L 0 fun x => vc n d 6 13 L (.inr (.inr x) :: S) M Q) := nr rfl
set_option maxRecDepth 100000 in
theorem v6_13 (n d : Nat) (L : List (Option mL)) (S : List mV) (M : Mm) (Q : mQ) : vc (n + 1) d 6 13 L S M Q = (gI L 1 fun x => vc n d 6 14 L (.inl x :: S) M Q) := nr rfl
set_option maxRecDepth 100000 in
theorem v6_14 (n d : Nat) (L : List (Option mL)) (S : List mV) (M : Mm) (Q : mQ) : vc (n + 1) d 6 14 L S M Q = (pI S fun x S => pA S fun a S => shO M a 9 (vc n d 6 17 L S (M.si a 0 x) Q)) := nr rfl
set_option maxRecDepth 100000 in
theorem v6_17 (n d : Nat) (L : List (Option mL)) (S : List mV) (M : Mm) (Q : mQ) : vc (n + 1) d 6 17 L S M Q = (S = [] ∧ Q none M) := nr rfl
set_option maxRecDepth 100000 in
theorem v7_0 (n d : Nat) (L : List (Option mL)) (S : List mV) (M : Mm) (Q : mQ) : vc (n + 1) d 7 0 L S M Q = (gR L 0 fun x => vc n d 7 1 L (.inr (.inr x) :: S) M Q) := nr rfl
set_option maxRecDepth 100000 in
theorem v7_1 (n d : Nat) (L : List (Option mL)) (S : List mV) (M : Mm) (Q : mQ) : vc (n + 1) d 7 1 L S M Q = (pA S fun _ S => 1000 = 1000 ∧ 0 < d ∧ stk S ≤ 8 ∧ vc n d 7 4 L S M Q) := nr rfl
set_option maxRecDepth 100000 in
theorem v7_4 (n d : Nat) (L : List (Option mL)) (S : List mV) (M : Mm) (Q : mQ) : vc (n + 1) d 7 4 L S M Q = (gR L 0 fun x => vc n d 7 5 L (.inr (.inr x) :: S) M Q) := nr rfl
set_option maxRecDepth 100000 in
theorem v7_5 (n d : Nat) (L : List (Option mL)) (S : List mV) (M : Mm) (Q : mQ) : vc (n + 1) d 7 5 L S M Q = (vc n d 7 7 L (.inl 6 :: S) M Q) := nr rfl
set_option maxRecDepth 100000 in
theorem v7_7 (n d : Nat) (L : List (Option mL)) (S : List mV) (M : Mm) (Q : mQ) : vc (n + 1) d 7 7 L S M Q = (pI S fun k S => 0 ≤ k.toInt ∧ k.toInt ≤ 100000 ∧ vc n d 7 9 L (.inr (.inr (some M.sz)) :: S) (M.nw (41, k.toNatClampNeg) k.toNatClampNeg) Q) := nr rfl
set_option maxRecDepth 100000 in
theorem v7_9 (n d : Nat) (L : List (Option mL)) (S : List mV) (M : Mm) (Q : mQ) : vc (n + 1) d 7 9 L S M Q = (pR S fun x S => pA S fun a S => shO M a 2 (vc n d 7 12 L S (M.sr a 0 x) Q)) := nr rfl
set_option maxRecDepth 100000 in
theorem v7_12 (n d : Nat) (L : List (Option mL)) (S : List mV) (M : Mm) (Q : mQ) : vc (n + 1) d 7 12 L S M Q = (S = [] ∧ Q none M) := nr rfl
set_option maxRecDepth 100000 in
theorem v8_0 (n d : Nat) (L : List (Option mL)) (S : List mV) (M : Mm) (Q : mQ) : vc (n + 1) d 8 0 L S M Q = (gR L 0 fun x => vc n d 8 1 L (.inr (.inr x) :: S) M Q) := nr rfl
set_option maxRecDepth 100000 in
theorem v8_1 (n d : Nat) (L : List (Option mL)) (S : List mV) (M : Mm) (Q : mQ) : vc (n + 1) d 8 1 L S M Q = (pA S fun _ S => 1000 = 1000 ∧ 0 < d ∧ stk S ≤ 8 ∧ vc n d 8 4 L S M Q) := nr rfl
set_option maxRecDepth 100000 in
theorem v8_4 (n d : Nat) (L : List (Option mL)) (S : List mV) (M : Mm) (Q : mQ) : vc (n + 1) d 8 4 L S M Q = (gR L 0 fun x => vc n d 8 5 L (.inr (.inr x) :: S) M Q) := nr rfl
set_option maxRecDepth 100000 in
theorem v8_5 (n d : Nat) (L : List (Option mL)) (S : List mV) (M : Mm) (Q : mQ) : vc (n + 1) d 8 5 L S M Q = (vc n d 8 7 L (.inl 8 :: S) M Q) := nr rfl
set_option maxRecDepth 100000 in
theorem v8_7 (n d : Nat) (L : List (Option mL)) (S : List mV) (M : Mm) (Q : mQ) : vc (n + 1) d 8 7 L S M Q = (pI S fun k S => 0 ≤ k.toInt ∧ k.toInt ≤ 100000 ∧ vc n d 8 9 L (.inr (.inr (some M.sz)) :: S) (M.nw (41, k.toNatClampNeg) k.toNatClampNeg) Q) := nr rfl
set_option maxRecDepth 100000 in
theorem v8_9 (n d : Nat) (L : List (Option mL)) (S : List mV) (M : Mm) (Q : mQ) : vc (n + 1) d 8 9 L S M Q = (pR S fun x S => pA S fun a S => shO M a 6 (vc n d 8 12 L S (M.sr a 0 x) Q)) := nr rfl
set_option maxRecDepth 100000 in
theorem v8_12 (n d : Nat) (L : List (Option mL)) (S : List mV) (M : Mm) (Q : mQ) : vc (n + 1) d 8 12 L S M Q = (gR L 0 fun x => vc n d 8 13 L (.inr (.inr x) :: S) M Q) := nr rfl
set_option maxRecDepth 100000 in
theorem v8_13 (n d : Nat) (L : List (Option mL)) (S : List mV) (M : Mm) (Q : mQ) : vc (n + 1) d 8 13 L S M Q = (vc n d 8 14 L (.inl (-1) :: S) M Q) := nr rfl
set_option maxRecDepth 100000 in
theorem v8_14 (n d : Nat) (L : List (Option mL)) (S : List mV) (M : Mm) (Q : mQ) : vc (n + 1) d 8 14 L S M Q = (pI S fun x S => pA S fun a S => shO M a 6 (vc n d 8 17 L S (M.si a 1 x) Q)) := nr rfl
set_option maxRecDepth 100000 in
theorem v8_17 (n d : Nat) (L : List (Option mL)) (S : List mV) (M : Mm) (Q : mQ) : vc (n + 1) d 8 17 L S M Q = (S = [] ∧ Q none M) := nr rfl
set_option maxRecDepth 100000 in
theorem v9_0 (n d : Nat) (L : List (Option mL)) (S : List mV) (M : Mm) (Q : mQ) : vc (n + 1) d 9 0 L S M Q = (gR L 0 fun x => vc n d 9 1 L (.inr (.inr x) :: S) M Q) := nr rfl
set_option maxRecDepth 100000 in
theorem v9_1 (n d : Nat) (L : List (Option mL)) (S : List mV) (M : Mm) (Q : mQ) : vc (n + 1) d 9 1 L S M Q = (pA S fun _ S => 1000 = 1000 ∧ 0 < d ∧ stk S ≤ 8 ∧ vc n d 9 4 L S M Q) := nr rfl
set_option maxRecDepth 100000 in
theorem v9_4 (n d : Nat) (L : List (Option mL)) (S : List mV) (M : Mm) (Q : mQ) : vc (n + 1) d 9 4 L S M Q = (gR L 0 fun x => vc n d 9 5 L (.inr (.inr x) :: S) M Q) := nr rfl
set_option maxRecDepth 100000 in
theorem v9_5 (n d : Nat) (L : List (Option mL)) (S : List mV) (M : Mm) (Q : mQ) : vc (n + 1) d 9 5 L S M Q = (vc n d 9 8 L (.inr (.inr (some M.sz)) :: S) (M.nw (4, 0) 3) Q) := nr rfl
set_option maxRecDepth 100000 in
theorem v9_8 (n d : Nat) (L : List (Option mL)) (S : List mV) (M : Mm) (Q : mQ) : vc (n + 1) d 9 8 L S M Q = (pC S fun v S => vc n d 9 9 L (v :: v :: S) M Q) := nr rfl
set_option maxRecDepth 100000 in
theorem v9_9 (n d : Nat) (L : List (Option mL)) (S : List mV) (M : Mm) (Q : mQ) : vc (n + 1) d 9 9 L S M Q = (pAs 0 S fun as S => pA S fun a S => stk S ≤ 8 ∧ XC d 10 (.inr (some a) :: as) M (fun r M => r = none ∧ X d 9 12 L S M Q)) := nr rfl
set_option maxRecDepth 100000 in
theorem v9_12 (n d : Nat) (L : List (Option mL)) (S : List mV) (M : Mm) (Q : mQ) : vc (n + 1) d 9 12 L S M Q = (pR S fun x S => pA S fun a S => shO M a 5 (vc n d 9 15 L S (M.sr a 0 x) Q)) := nr rfl
set_option maxRecDepth 100000 in
theorem v9_15 (n d : Nat) (L : List (Option mL)) (S : List mV) (M : Mm) (Q : mQ) : vc (n + 1) d 9 15 L S M Q = (gR L 0 fun x => vc n d 9 16 L (.inr (.inr x) :: S) M Q) := nr rfl
set_option maxRecDepth 100000 in
theorem v9_16 (n d : Nat) (L : List (Option mL)) (S : List mV) (M : Mm) (Q : mQ) : vc (n + 1) d 9 16 L S M Q = (vc n d 9 17 L (.inl 3 :: S) M Q) := nr rfl
set_option maxRecDepth 100000 in
theorem v9_17 (n d : Nat) (L : List (Option mL)) (S : List mV) (M : Mm) (Q : mQ) : vc (n + 1) d 9 17 L S M Q = (pI S fun k S => 0 ≤ k.toInt ∧ k.toInt ≤ 100000 ∧ vc n d 9 20 L (.inr (.inr (some M.sz)) :: S) (M.nw (54, k.toNatClampNeg) k.toNatClampNeg) Q) := nr rfl
set_option maxRecDepth 100000 in
theorem v9_20 (n d : Nat) (L : List (Option mL)) (S : List mV) (M : Mm) (Q : mQ) : vc (n + 1) d 9 20 L S M Q = (pR S fun x S => pA S fun a S => shO M a 5 (vc n d 9 23 L S (M.sr a 1 x) Q)) := nr rfl
set_option maxRecDepth 100000 in
theorem v9_23 (n d : Nat) (L : List (Option mL)) (S : List mV) (M : Mm) (Q : mQ) : vc (n + 1) d 9 23 L S M Q = (gR L 0 fun x => vc n d 9 24 L (.inr (.inr x) :: S) M Q) := nr rfl
set_option maxRecDepth 100000 in
theorem v9_24 (n d : Nat) (L : List (Option mL)) (S : List mV) (M : Mm) (Q : mQ) : vc (n + 1) d 9 24 L S M Q = (vc n d 9 27 L (.inr (.inr (some M.sz)) :: S) (M.nw (4, 0) 3) Q) := nr rfl
set_option maxRecDepth 100000 in
theorem v9_27 (n d : Nat) (L : List (Option mL)) (S : List mV) (M : Mm) (Q : mQ) : vc (n + 1) d 9 27 L S M Q = (pC S fun v S => vc n d 9 28 L (v :: v :: S) M Q) := nr rfl
set_option maxRecDepth 100000 in
theorem v9_28 (n d : Nat) (L : List (Option mL)) (S : List mV) (M : Mm) (Q : mQ) : vc (n + 1) d 9 28 L S M Q = (pAs 0 S fun as S => pA S fun a S => stk S ≤ 8 ∧ XC d 10 (.inr (some a) :: as) M (fun r M => r = none ∧ X d 9 31 L S M Q)) := nr rfl
set_option maxRecDepth 100000 in
theorem v9_31 (n d : Nat) (L : List (Option mL)) (S : List mV) (M : Mm) (Q : mQ) : vc (n + 1) d 9 31 L S M Q = (pR S fun x S => pA S fun a S => shO M a 5 (vc n d 9 34 L S (M.sr a 3 x) Q)) := nr rfl
set_option maxRecDepth 100000 in
theorem v9_34 (n d : Nat) (L : List (Option mL)) (S : List mV) (M : Mm) (Q : mQ) : vc (n + 1) d 9 34 L S M Q = (vc n d 9 35 L (.inl 0 :: S) M Q) := nr rfl
set_option maxRecDepth 100000 in
theorem v9_35 (n d : Nat) (L : List (Option mL)) (S : List mV) (M : Mm) (Q : mQ) : vc (n + 1) d 9 35 L S M Q = (pI S fun x S => sL L 1 (some (.inl x)) fun L => X d 9 36 L S M Q) := nr rfl
set_option maxRecDepth 100000 in
theorem v9_36 (n d : Nat) (L : List (Option mL)) (S : List mV) (M : Mm) (Q : mQ) : vc (n + 1) d 9 36 L S M Q = (gI L 1 fun x => vc n d 9 37 L (.inl x :: S) M Q) := nr rfl
set_option maxRecDepth 100000 in
theorem v9_37 (n d : Nat) (L : List (Option mL)) (S : List mV) (M : Mm) (Q : mQ) : vc (n + 1) d 9 37 L S M Q = (vc n d 9 38 L (.inl 3 :: S) M Q) := nr rfl
set_option maxRecDepth 100000 in
theorem v9_38 (n d : Nat) (L : List (Option mL)) (S : List mV) (M : Mm) (Q : mQ) : vc (n + 1) d 9 38 L S M Q = (pI S fun y S => pI S fun x S => (y ≤ x → vc n d 9 60 L S M Q) ∧ (¬ (y ≤ x) → vc n d 9 41 L S M Q)) := nr rfl
set_option maxRecDepth 100000 in
theorem v9_41 (n d : Nat) (L : List (Option mL)) (S : List mV) (M : Mm) (Q : mQ) : vc (n + 1) d 9 41 L S M Q = (gR L 0 fun x => vc n d 9 42 L (.inr (.inr x) :: S) M Q) := nr rfl
set_option maxRecDepth 100000 in
theorem v9_42 (n d : Nat) (L : List (Option mL)) (S : List mV) (M : Mm) (Q : mQ) : vc (n + 1) d 9 42 L S M Q = (pA S fun a S => shO M a 5 (rrf M a 1 fun r => vc n d 9 45 L (.inr (.inr r) :: S) M Q)) := nr rfl
set_option maxRecDepth 100000 in
theorem v9_45 (n d : Nat) (L : List (Option mL)) (S : List mV) (M : Mm) (Q : mQ) : vc (n + 1) d 9 45 L S M Q = (gI L 1 fun x => vc n d 9 46 L (.inl x :: S) M Q) := nr rfl
set_option maxRecDepth 100000 in
theorem v9_46 (n d : Nat) (L : List (Option mL)) (S : List mV) (M : Mm) (Q : mQ) : vc (n + 1) d 9 46 L S M Q = (vc n d 9 49 L (.inr (.inr (some M.sz)) :: S) (M.nw (4, 0) 3) Q) := nr rfl
set_option maxRecDepth 100000 in
theorem v9_49 (n d : Nat) (L : List (Option mL)) (S : List mV) (M : Mm) (Q : mQ) : vc (n + 1) d 9 49 L S M Q = (pC S fun v S => vc n d 9 50 L (v :: v :: S) M Q) := nr rfl
set_option maxRecDepth 100000 in
theorem v9_50 (n d : Nat) (L : List (Option mL)) (S : List mV) (M : Mm) (Q : mQ) : vc (n + 1) d 9 50 L S M Q = (pAs 0 S fun as S => pA S fun a S => stk S ≤ 8 ∧ XC d 10 (.inr (some a) :: as) M (fun r M => r = none ∧ X d 9 53 L S M Q)) := nr rfl
set_option maxRecDepth 100000 in
theorem v9_53 (n d : Nat) (L : List (Option mL)) (S : List mV) (M : Mm) (Q : mQ) : vc (n + 1) d 9 53 L S M Q = (pR S fun x S => pI S fun i S => pA S fun a S => shA M a fun t k => rTyB t = true ∧ inB i k ∧ (∀ b : Nat, x = some b → M.sh b = some (t - 50, 0)) ∧ vc n d 9 54 L S (M.sr a i.toNatClampNeg x) Q) := nr rfl
set_option maxRecDepth 100000 in
theorem v9_54 (n d : Nat) (L : List (Option mL)) (S : List mV) (M : Mm) (Q : mQ) : vc (n + 1) d 9 54 L S M Q = (gI L 1 fun x => sL L 1 (some (.inl (x + 1))) fun L => vc n d 9 57 L S M Q) := nr rfl
set_option maxRecDepth 100000 in
theorem v9_57 (n d : Nat) (L : List (Option mL)) (S : List mV) (M : Mm) (Q : mQ) : vc (n + 1) d 9 57 L S M Q = (X d 9 36 L S M Q) := nr rfl
set_option maxRecDepth 100000 in
theorem v9_60 (n d : Nat) (L : List (Option mL)) (S : List mV) (M : Mm) (Q : mQ) : vc (n + 1) d 9 60 L S M Q = (S = [] ∧ Q none M) := nr rfl
set_option maxRecDepth 100000 in
theorem v10_0 (n d : Nat) (L : List (Option mL)) (S : List mV) (M : Mm) (Q : mQ) : vc (n + 1) d 10 0 L S M Q = (gR L 0 fun x => vc n d 10 1 L (.inr (.inr x) :: S) M Q) := nr rfl
set_option maxRecDepth 100000 in
theorem v10_1 (n d : Nat) (L : List (Option mL)) (S : List mV) (M : Mm) (Q : mQ) : vc (n + 1) d 10 1 L S M Q = (pA S fun _ S => 1000 = 1000 ∧ 0 < d ∧ stk S ≤ 8 ∧ vc n d 10 4 L S M Q) := nr rfl
set_option maxRecDepth 100000 in
theorem v10_4 (n d : Nat) (L : List (Option mL)) (S : List mV) (M : Mm) (Q : mQ) : vc (n + 1) d 10 4 L S M Q = (gR L 0 fun x => vc n d 10 5 L (.inr (.inr x) :: S) M Q) := nr rfl
set_option maxRecDepth 100000 in
theorem v10_5 (n d : Nat) (L : List (Option mL)) (S : List mV) (M : Mm) (Q : mQ) : vc (n + 1) d 10 5 L S M Q = (vc n d 10 7 L (.inl 48 :: S) M Q) := nr rfl
set_option maxRecDepth 100000 in
theorem v10_7 (n d : Nat) (L : List (Option mL)) (S : List mV) (M : Mm) (Q : mQ) : vc (n + 1) d 10 7 L S M Q = (pI S fun k S => 0 ≤ k.toInt ∧ k.toInt ≤ 100000 ∧ vc n d 10 9 L (.inr (.inr (some M.sz)) :: S) (M.nw (41, k.toNatClampNeg) k.toNatClampNeg) Q) := nr rfl
set_option maxRecDepth 100000 in
theorem v10_9 (n d : Nat) (L : List (Option mL)) (S : List mV) (M : Mm) (Q : mQ) : vc (n + 1) d 10 9 L S M Q = (pR S fun x S => pA S fun a S => shO M a 4 (vc n d 10 12 L S (M.sr a 0 x) Q)) := nr rfl
set_option maxRecDepth 100000 in
theorem v10_12 (n d : Nat) (L : List (Option mL)) (S : List mV) (M : Mm) (Q : mQ) : vc (n + 1) d 10 12 L S M Q = (gR L 0 fun x => vc n d 10 13 L (.inr (.inr x) :: S) M Q) := nr rfl
set_option maxRecDepth 100000 in
theorem v10_13 (n d : Nat) (L : List (Option mL)) (S : List mV) (M : Mm) (Q : mQ) : vc (n + 1) d 10 13 L S M Q = (vc n d 10 14 L (.inl (-1) :: S) M Q) := nr rfl
set_option maxRecDepth 100000 in
theorem v10_14 (n d : Nat) (L : List (Option mL)) (S : List mV) (M : Mm) (Q : mQ) : vc (n + 1) d 10 14 L S M Q = (pI S fun x S => pA S fun a S => shO M a 4 (vc n d 10 17 L S (M.si a 2 x) Q)) := nr rfl
set_option maxRecDepth 100000 in
theorem v10_17 (n d : Nat) (L : List (Option mL)) (S : List mV) (M : Mm) (Q : mQ) : vc (n + 1) d 10 17 L S M Q = (gR L 0 fun x => vc n d 10 18 L (.inr (.inr x) :: S) M Q) := nr rfl
set_option maxRecDepth 100000 in
theorem v10_18 (n d : Nat) (L : List (Option mL)) (S : List mV) (M : Mm) (Q : mQ) : vc (n + 1) d 10 18 L S M Q = (pAs 0 S fun as S => pA S fun a S => shO M a 4 (stk S ≤ 8 ∧ XC d 11 (.inr (some a) :: as) M (fun r M => r = none ∧ X d 10 21 L S M Q))) := nr rfl
set_option maxRecDepth 100000 in
theorem v10_21 (n d : Nat) (L : List (Option mL)) (S : List mV) (M : Mm) (Q : mQ) : vc (n + 1) d 10 21 L S M Q = (S = [] ∧ Q none M) := nr rfl
set_option maxRecDepth 100000 in
theorem v11_0 (n d : Nat) (L : List (Option mL)) (S : List mV) (M : Mm) (Q : mQ) : vc (n + 1) d 11 0 L S M Q = (gR L 0 fun x => vc n d 11 1 L (.inr (.inr x) :: S) M Q) := nr rfl
set_option maxRecDepth 100000 in
theorem v11_1 (n d : Nat) (L : List (Option mL)) (S : List mV) (M : Mm) (Q : mQ) : vc (n + 1) d 11 1 L S M Q = (pA S fun a S => shO M a 4 (rrf M a 0 fun r => vc n d 11 4 L (.inr (.inr r) :: S) M Q)) := nr rfl
set_option maxRecDepth 100000 in
theorem v11_4 (n d : Nat) (L : List (Option mL)) (S : List mV) (M : Mm) (Q : mQ) : vc (n + 1) d 11 4 L S M Q = (vc n d 11 5 L (.inl (-1) :: S) M Q) := nr rfl
set_option maxRecDepth 100000 in
theorem v11_5 (n d : Nat) (L : List (Option mL)) (S : List mV) (M : Mm) (Q : mQ) : vc (n + 1) d 11 5 L S M Q = (pAs 2 S fun as S => stk S ≤ 8 ∧ XC d 12 as M (fun r M => r = none ∧ X d 11 8 L S M Q)) := nr rfl
set_option maxRecDepth 100000 in
theorem v11_8 (n d : Nat) (L : List (Option mL)) (S : List mV) (M : Mm) (Q : mQ) : vc (n + 1) d 11 8 L S M Q = (gR L 0 fun x => vc n d 11 9 L (.inr (.inr x) :: S) M Q) := nr rfl
set_option maxRecDepth 100000 in
theorem v11_9 (n d : Nat) (L : List (Option mL)) (S : List mV) (M : Mm) (Q : mQ) : vc (n + 1) d 11 9 L S M Q = (vc n d 11 10 L (.inl 0 :: S) M Q) := nr rfl
set_option maxRecDepth 100000 in
theorem v11_10 (n d : Nat) (L : List (Option mL)) (S : List mV) (M : Mm) (Q : mQ) : vc (n + 1) d 11 10 L S M Q = (pI S fun x S => pA S fun a S => shO M a 4 (vc n d 11 13 L S (M.si a 1 x) Q)) := nr rfl
set_option maxRecDepth 100000 in
theorem v11_13 (n d : Nat) (L : List (Option mL)) (S : List mV) (M : Mm) (Q : mQ) : vc (n + 1) d 11 13 L S M Q = (gR L 0 fun x => vc n d 11 14 L (.inr (.inr x) :: S) M Q) := nr rfl
set_option maxRecDepth 100000 in
theorem v11_14 (n d : Nat) (L : List (Option mL)) (S : List mV) (M : Mm) (Q : mQ) : vc (n + 1) d 11 14 L S M Q = (vc n d 11 15 L (.inl (-1) :: S) M Q) := nr rfl
set_option maxRecDepth 100000 in
theorem v11_15 (n d : Nat) (L : List (Option mL)) (S : List mV) (M : Mm) (Q : mQ) : vc (n + 1) d 11 15 L S M Q = (pI S fun x S => pA S fun a S => shO M a 4 (vc n d 11 18 L S (M.si a 2 x) Q)) := nr rfl
set_option maxRecDepth 100000 in
theorem v11_18 (n d : Nat) (L : List (Option mL)) (S : List mV) (M : Mm) (Q : mQ) : vc (n + 1) d 11 18 L S M Q = (S = [] ∧ Q none M) := nr rfl
set_option maxRecDepth 100000 in
theorem v12_0 (n d : Nat) (L : List (Option mL)) (S : List mV) (M : Mm) (Q : mQ) : vc (n + 1) d 12 0 L S M Q = (vc n d 12 1 L (.inl 0 :: S) M Q) := nr rfl
set_option maxRecDepth 100000 in
theorem v12_1 (n d : Nat) (L : List (Option mL)) (S : List mV) (M : Mm) (Q : mQ) : vc (n + 1) d 12 1 L S M Q = (pI S fun x S => sL L 2 (some (.inl x)) fun L => vc n d 12 2 L S M Q) := nr rfl
set_option maxRecDepth 100000 in
theorem v12_2 (n d : Nat) (L : List (Option mL)) (S : List mV) (M : Mm) (Q : mQ) : vc (n + 1) d 12 2 L S M Q = (gR L 0 fun x => vc n d 12 3 L (.inr (.inr x) :: S) M Q) := nr rfl
set_option maxRecDepth 100000 in
theorem v12_3 (n d : Nat) (L : List (Option mL)) (S : List mV) (M : Mm) (Q : mQ) : vc (n + 1) d 12 3 L S M Q = (pA S fun a S => shA M a fun t k => aTyB t = true ∧ vc n d 12 4 L (.inl (nI k) :: S) M Q) := nr rfl
set_option maxRecDepth 100000 in
theorem v12_4 (n d : Nat) (L : List (Option mL)) (S : List mV) (M : Mm) (Q : mQ) : vc (n + 1) d 12 4 L S M Q = (pI S fun x S => sL L 3 (some (.inl x)) fun L => X d 12 5 L S M Q) := nr rfl
set_option maxRecDepth 100000 in
theorem v12_5 (n d : Nat) (L : List (Option mL)) (S : List mV) (M : Mm) (Q : mQ) : vc (n + 1) d 12 5 L S M Q = (gI L 2 fun x => vc n d 12 6 L (.inl x :: S) M Q) := nr rfl
set_option maxRecDepth 100000 in
theorem v12_6 (n d : Nat) (L : List (Option mL)) (S : List mV) (M : Mm) (Q : mQ) : vc (n + 1) d 12 6 L S M Q = (gI L 3 fun x => vc n d 12 7 L (.inl x :: S) M Q) := nr rfl
set_option maxRecDepth 100000 in
theorem v12_7 (n d : Nat) (L : List (Option mL)) (S : List mV) (M : Mm) (Q : mQ) : vc (n + 1) d 12 7 L S M Q = (pI S fun y S => pI S fun x S => (y ≤ x → vc n d 12 20 L S M Q) ∧ (¬ (y ≤ x) → vc n d 12 10 L S M Q)) := nr rfl
set_option maxRecDepth 100000 in
theorem v12_10 (n d : Nat) (L : List (Option mL)) (S : List mV) (M : Mm) (Q : mQ) : vc (n + 1) d 12 10 L S M Q = (gR L 0 fun x => vc n d 12 11 L (.inr (.inr x) :: S) M Q) := nr rfl
set_option maxRecDepth 100000 in
theorem v12_11 (n d : Nat) (L : List (Option mL)) (S : List mV) (M : Mm) (Q : mQ) : vc (n + 1) d 12 11 L S M Q = (gI L 2 fun x => vc n d 12 12 L (.inl x :: S) M Q) := nr rfl
set_option maxRecDepth 100000 in
theorem v12_12 (n d : Nat) (L : List (Option mL)) (S : List mV) (M : Mm) (Q : mQ) : vc (n + 1) d 12 12 L S M Q = (gI L 1 fun x => vc n d 12 13 L (.inl x :: S) M Q) := nr rfl
set_option maxRecDepth 100000 in
theorem v12_13 (n d : Nat) (L : List (Option mL)) (S : List mV) (M : Mm) (Q : mQ) : vc (n + 1) d 12 13 L S M Q = (pI S fun x S => pI S fun i S => pA S fun a S => shA M a fun t k => t = 41 ∧ inB i k ∧ vc n d 12 14 L S (M.si a i.toNatClampNeg x) Q) := nr rfl
set_option maxRecDepth 100000 in
theorem v12_14 (n d : Nat) (L : List (Option mL)) (S : List mV) (M : Mm) (Q : mQ) : vc (n + 1) d 12 14 L S M Q = (gI L 2 fun x => sL L 2 (some (.inl (x + 1))) fun L => vc n d 12 17 L S M Q) := nr rfl
set_option maxRecDepth 100000 in
theorem v12_17 (n d : Nat) (L : List (Option mL)) (S : List mV) (M : Mm) (Q : mQ) : vc (n + 1) d 12 17 L S M Q = (X d 12 5 L S M Q) := nr rfl
set_option maxRecDepth 100000 in
theorem v12_20 (n d : Nat) (L : List (Option mL)) (S : List mV) (M : Mm) (Q : mQ) : vc (n + 1) d 12 20 L S M Q = (S = [] ∧ Q none M) := nr rfl
set_option maxRecDepth 100000 in
theorem v13_0 (n d : Nat) (L : List (Option mL)) (S : List mV) (M : Mm) (Q : mQ) : vc (n + 1) d 13 0 L S M Q = (gR L 0 fun x => vc n d 13 1 L (.inr (.inr x) :: S) M Q) := nr rfl
set_option maxRecDepth 100000 in
theorem v13_1 (n d : Nat) (L : List (Option mL)) (S : List mV) (M : Mm) (Q : mQ) : vc (n + 1) d 13 1 L S M Q = (pA S fun _ S => 1000 = 1000 ∧ 0 < d ∧ stk S ≤ 8 ∧ vc n d 13 4 L S M Q) := nr rfl
set_option maxRecDepth 100000 in
theorem v13_4 (n d : Nat) (L : List (Option mL)) (S : List mV) (M : Mm) (Q : mQ) : vc (n + 1) d 13 4 L S M Q = (gR L 0 fun x => vc n d 13 5 L (.inr (.inr x) :: S) M Q) := nr rfl
set_option maxRecDepth 100000 in
theorem v13_5 (n d : Nat) (L : List (Option mL)) (S : List mV) (M : Mm) (Q : mQ) : vc (n + 1) d 13 5 L S M Q = (gI L 1 fun x => vc n d 13 6 L (.inl x :: S) M Q) := nr rfl
set_option maxRecDepth 100000 in
theorem v13_6 (n d : Nat) (L : List (Option mL)) (S : List mV) (M : Mm) (Q : mQ) : vc (n + 1) d 13 6 L S M Q = (vc n d 13 7 L (.inl 0 :: S) M Q) := nr rfl
set_option maxRecDepth 100000 in
theorem v13_7 (n d : Nat) (L : List (Option mL)) (S : List mV) (M : Mm) (Q : mQ) : vc (n + 1) d 13 7 L S M Q = (pI S fun y S => pI S fun x S => 0 < d ∧ stk S ≤ 8 ∧ vc n d 13 10 L (.inl (imax x y) :: S) M Q) := nr rfl
set_option maxRecDepth 100000 in
theorem v13_10 (n d : Nat) (L : List (Option mL)) (S : List mV) (M : Mm) (Q : mQ) : vc (n + 1) d 13 10 L S M Q = (pI S fun k S => 0 ≤ k.toInt ∧ k.toInt ≤ 100000 ∧ vc n d 13 12 L (.inr (.inr (some M.sz)) :: S) (M.nw (41, k.toNatClampNeg) k.toNatClampNeg) Q) := nr rfl
set_option maxRecDepth 100000 in
theorem v13_12 (n d : Nat) (L : List (Option mL)) (S : List mV) (M : Mm) (Q : mQ) : vc (n + 1) d 13 12 L S M Q = (pR S fun x S => pA S fun a S => shO M a 1 (vc n d 13 15 L S (M.sr a 0 x) Q)) := nr rfl
set_option maxRecDepth 100000 in
theorem v13_15 (n d : Nat) (L : List (Option mL)) (S : List mV) (M : Mm) (Q : mQ) : vc (n + 1) d 13 15 L S M Q = (S = [] ∧ Q none M) := nr rfl
set_option maxRecDepth 100000 in
theorem v14_0 (n d : Nat) (L : List (Option mL)) (S : List mV) (M : Mm) (Q : mQ) : vc (n + 1) d 14 0 L S M Q = (gI L 0 fun x => vc n d 14 1 L (.inl x :: S) M Q) := nr rfl
set_option maxRecDepth 100000 in
theorem v14_1 (n d : Nat) (L : List (Option mL)) (S : List mV) (M : Mm) (Q : mQ) : vc (n + 1) d 14 1 L S M Q = (gI L 1 fun x => vc n d 14 2 L (.inl x :: S) M Q) := nr rfl
set_option maxRecDepth 100000 in
theorem v14_2 (n d : Nat) (L : List (Option mL)) (S : List mV) (M : Mm) (Q : mQ) : vc (n + 1) d 14 2 L S M Q = (pI S fun y S => pI S fun x S => (x < y → vc n d 14 9 L S M Q) ∧ (¬ (x < y) → vc n d 14 5 L S M Q)) := nr rfl
set_option maxRecDepth 100000 in
theorem v14_5 (n d : Nat) (L : List (Option mL)) (S : List mV) (M : Mm) (Q : mQ) : vc (n + 1) d 14 5 L S M Q = (gI L 0 fun x => vc n d 14 6 L (.inl x :: S) M Q) := nr rfl
set_option maxRecDepth 100000 in
theorem v14_6 (n d : Nat) (L : List (Option mL)) (S : List mV) (M : Mm) (Q : mQ) : vc (n + 1) d 14 6 L S M Q = (vc n d 14 10 L S M Q) := nr rfl
set_option maxRecDepth 100000 in
theorem v14_9 (n d : Nat) (L : List (Option mL)) (S : List mV) (M : Mm) (Q : mQ) : vc (n + 1) d 14 9 L S M Q = (gI L 1 fun x => vc n d 14 10 L (.inl x :: S) M Q) := nr rfl
set_option maxRecDepth 100000 in
theorem v14_10 (n d : Nat) (L : List (Option mL)) (S : List mV) (M : Mm) (Q : mQ) : vc (n + 1) d 14 10 L S M Q = (pI S fun x S => S = [] ∧ (0 = 0 ∨ x = 0 ∨ x = 1) ∧ Q (some (.inl x)) M) := nr rfl
set_option maxRecDepth 100000 in
theorem v15_0 (n d : Nat) (L : List (Option mL)) (S : List mV) (M : Mm) (Q : mQ) : vc (n + 1) d 15 0 L S M Q = (gR L 0 fun x => vc n d 15 1 L (.inr (.inr x) :: S) M Q) := nr rfl
set_option maxRecDepth 100000 in
theorem v15_1 (n d : Nat) (L : List (Option mL)) (S : List mV) (M : Mm) (Q : mQ) : vc (n + 1) d 15 1 L S M Q = (gR L 0 fun x => vc n d 15 2 L (.inr (.inr x) :: S) M Q) := nr rfl
set_option maxRecDepth 100000 in
theorem v15_2 (n d : Nat) (L : List (Option mL)) (S : List mV) (M : Mm) (Q : mQ) : vc (n + 1) d 15 2 L S M Q = (pA S fun a S => shO M a 0 (rrf M a 0 fun r => vc n d 15 5 L (.inr (.inr r) :: S) M Q)) := nr rfl
set_option maxRecDepth 100000 in
theorem v15_5 (n d : Nat) (L : List (Option mL)) (S : List mV) (M : Mm) (Q : mQ) : vc (n + 1) d 15 5 L S M Q = (pAs 0 S fun as S => pA S fun a S => shO M a 3 (stk S ≤ 8 ∧ XC d 16 (.inr (some a) :: as) M (fun r M => ∃ x : Option Nat, r = some (.inr (.inr x)) ∧ X d 15 8 L (.inr (.inr x) :: S) M Q))) := nr rfl
set_option maxRecDepth 100000 in
theorem v15_8 (n d : Nat) (L : List (Option mL)) (S : List mV) (M : Mm) (Q : mQ) : vc (n + 1) d 15 8 L S M Q = (pR S fun x S => pA S fun a S => shO M a 0 (vc n d 15 11 L S (M.sr a 14 x) Q)) := nr rfl
set_option maxRecDepth 100000 in
theorem v15_11 (n d : Nat) (L : List (Option mL)) (S : List mV) (M : Mm) (Q : mQ) : vc (n + 1) d 15 11 L S M Q = (gR L 0 fun x => vc n d 15 12 L (.inr (.inr x) :: S) M Q) := nr rfl
set_option maxRecDepth 100000 in
theorem v15_12 (n d : Nat) (L : List (Option mL)) (S : List mV) (M : Mm) (Q : mQ) : vc (n + 1) d 15 12 L S M Q = (vc n d 15 13 L (.inl (-1) :: S) M Q) := nr rfl
set_option maxRecDepth 100000 in
theorem v15_13 (n d : Nat) (L : List (Option mL)) (S : List mV) (M : Mm) (Q : mQ) : vc (n + 1) d 15 13 L S M Q = (pI S fun x S => pA S fun a S => shO M a 0 (vc n d 15 16 L S (M.si a 15 x) Q)) := nr rfl
set_option maxRecDepth 100000 in
theorem v15_16 (n d : Nat) (L : List (Option mL)) (S : List mV) (M : Mm) (Q : mQ) : vc (n + 1) d 15 16 L S M Q = (gR L 0 fun x => vc n d 15 17 L (.inr (.inr x) :: S) M Q) := nr rfl
set_option maxRecDepth 100000 in
theorem v15_17 (n d : Nat) (L : List (Option mL)) (S : List mV) (M : Mm) (Q : mQ) : vc (n + 1) d 15 17 L S M Q = (gR L 0 fun x => vc n d 15 18 L (.inr (.inr x) :: S) M Q) := nr rfl
set_option maxRecDepth 100000 in
theorem v15_18 (n d : Nat) (L : List (Option mL)) (S : List mV) (M : Mm) (Q : mQ) : vc (n + 1) d 15 18 L S M Q = (pA S fun a S => shO M a 0 (rrf M a 14 fun r => vc n d 15 21 L (.inr (.inr r) :: S) M Q)) := nr rfl
set_option maxRecDepth 100000 in
theorem v15_21 (n d : Nat) (L : List (Option mL)) (S : List mV) (M : Mm) (Q : mQ) : vc (n + 1) d 15 21 L S M Q = (pA S fun a S => shO M a 8 (vc n d 15 24 L (.inl (M.it a 2) :: S) M Q)) := nr rfl
set_option maxRecDepth 100000 in
theorem v15_24 (n d : Nat) (L : List (Option mL)) (S : List mV) (M : Mm) (Q : mQ) : vc (n + 1) d 15 24 L S M Q = (pI S fun x S => pA S fun a S => shO M a 0 (vc n d 15 27 L S (M.si a 16 x) Q)) := nr rfl
set_option maxRecDepth 100000 in
theorem v15_27 (n d : Nat) (L : List (Option mL)) (S : List mV) (M : Mm) (Q : mQ) : vc (n + 1) d 15 27 L S M Q = (gR L 0 fun x => vc n d 15 28 L (.inr (.inr x) :: S) M Q) := nr rfl
set_option maxRecDepth 100000 in
theorem v15_28 (n d : Nat) (L : List (Option mL)) (S : List mV) (M : Mm) (Q : mQ) : vc (n + 1) d 15 28 L S M Q = (pA S fun a S => shO M a 0 (rrf M a 3 fun r => vc n d 15 31 L (.inr (.inr r) :: S) M Q)) := nr rfl
set_option maxRecDepth 100000 in
theorem v15_31 (n d : Nat) (L : List (Option mL)) (S : List mV) (M : Mm) (Q : mQ) : vc (n + 1) d 15 31 L S M Q = (gR L 0 fun x => vc n d 15 32 L (.inr (.inr x) :: S) M Q) := nr rfl
set_option maxRecDepth 100000 in
theorem v15_32 (n d : Nat) (L : List (Option mL)) (S : List mV) (M : Mm) (Q : mQ) : vc (n + 1) d 15 32 L S M Q = (pA S fun a S => shO M a 0 (rrf M a 14 fun r => vc n d 15 35 L (.inr (.inr r) :: S) M Q)) := nr rfl
set_option maxRecDepth 100000 in
theorem v15_35 (n d : Nat) (L : List (Option mL)) (S : List mV) (M : Mm) (Q : mQ) : vc (n + 1) d 15 35 L S M Q = (pAs 1 S fun as S => pA S fun a S => shO M a 6 (stk S ≤ 8 ∧ XC d 17 (.inr (some a) :: as) M (fun r M => r = none ∧ X d 15 38 L S M Q))) := nr rfl
set_option maxRecDepth 100000 in
theorem v15_38 (n d : Nat) (L : List (Option mL)) (S : List mV) (M : Mm) (Q : mQ) : vc (n + 1) d 15 38 L S M Q = (gR L 0 fun x => vc n d 15 39 L (.inr (.inr x) :: S) M Q) := nr rfl
set_option maxRecDepth 100000 in
theorem v15_39 (n d : Nat) (L : List (Option mL)) (S : List mV) (M : Mm) (Q : mQ) : vc (n + 1) d 15 39 L S M Q = (pA S fun a S => shO M a 0 (rrf M a 12 fun r => vc n d 15 42 L (.inr (.inr r) :: S) M Q)) := nr rfl
set_option maxRecDepth 100000 in
theorem v15_42 (n d : Nat) (L : List (Option mL)) (S : List mV) (M : Mm) (Q : mQ) : vc (n + 1) d 15 42 L S M Q = (vc n d 15 43 L (.inl (-1) :: S) M Q) := nr rfl
set_option maxRecDepth 100000 in
theorem v15_43 (n d : Nat) (L : List (Option mL)) (S : List mV) (M : Mm) (Q : mQ) : vc (n + 1) d 15 43 L S M Q = (pAs 2 S fun as S => stk S ≤ 8 ∧ XC d 12 as M (fun r M => r = none ∧ X d 15 46 L S M Q)) := nr rfl
set_option maxRecDepth 100000 in
theorem v15_46 (n d : Nat) (L : List (Option mL)) (S : List mV) (M : Mm) (Q : mQ) : vc (n + 1) d 15 46 L S M Q = (gR L 0 fun x => vc n d 15 47 L (.inr (.inr x) :: S) M Q) := nr rfl
set_option maxRecDepth 100000 in
theorem v15_47 (n d : Nat) (L : List (Option mL)) (S : List mV) (M : Mm) (Q : mQ) : vc (n + 1) d 15 47 L S M Q = (pA S fun a S => shO M a 0 (rrf M a 5 fun r => vc n d 15 50 L (.inr (.inr r) :: S) M Q)) := nr rfl
set_option maxRecDepth 100000 in
theorem v15_50 (n d : Nat) (L : List (Option mL)) (S : List mV) (M : Mm) (Q : mQ) : vc (n + 1) d 15 50 L S M Q = (pAs 0 S fun as S => pA S fun a S => shO M a 5 (stk S ≤ 8 ∧ XC d 19 (.inr (some a) :: as) M (fun r M => r = none ∧ X d 15 53 L S M Q))) := nr rfl
set_option maxRecDepth 100000 in
theorem v15_53 (n d : Nat) (L : List (Option mL)) (S : List mV) (M : Mm) (Q : mQ) : vc (n + 1) d 15 53 L S M Q = (vc n d 15 54 L (.inl 0 :: S) M Q) := nr rfl
set_option maxRecDepth 100000 in
theorem v15_54 (n d : Nat) (L : List (Option mL)) (S : List mV) (M : Mm) (Q : mQ) : vc (n + 1) d 15 54 L S M Q = (pI S fun x S => sL L 1 (some (.inl x)) fun L => X d 15 55 L S M Q) := nr rfl
set_option maxRecDepth 100000 in
theorem v15_55 (n d : Nat) (L : List (Option mL)) (S : List mV) (M : Mm) (Q : mQ) : vc (n + 1) d 15 55 L S M Q = (gI L 1 fun x => vc n d 15 56 L (.inl x :: S) M Q) := nr rfl
set_option maxRecDepth 100000 in
theorem v15_56 (n d : Nat) (L : List (Option mL)) (S : List mV) (M : Mm) (Q : mQ) : vc (n + 1) d 15 56 L S M Q = (gR L 0 fun x => vc n d 15 57 L (.inr (.inr x) :: S) M Q) := nr rfl
set_option maxRecDepth 100000 in
theorem v15_57 (n d : Nat) (L : List (Option mL)) (S : List mV) (M : Mm) (Q : mQ) : vc (n + 1) d 15 57 L S M Q = (pA S fun a S => shO M a 0 (rrf M a 14 fun r => vc n d 15 60 L (.inr (.inr r) :: S) M Q)) := nr rfl
set_option maxRecDepth 100000 in
theorem v15_60 (n d : Nat) (L : List (Option mL)) (S : List mV) (M : Mm) (Q : mQ) : vc (n + 1) d 15 60 L S M Q = (pAs 0 S fun as S => pA S fun a S => shO M a 8 (stk S ≤ 8 ∧ XC d 20 (.inr (some a) :: as) M (fun r M => ∃ x : Int32, r = some (.inl x) ∧ X d 15 63 L (.inl x :: S) M Q))) := nr rfl
set_option maxRecDepth 100000 in
theorem v15_63 (n d : Nat) (L : List (Option mL)) (S : List mV) (M : Mm) (Q : mQ) : vc (n + 1) d 15 63 L S M Q = (pI S fun y S => pI S fun x S => (y ≤ x → vc n d 15 107 L S M Q) ∧ (¬ (y ≤ x) → vc n d 15 66 L S M Q)) := nr rfl
set_option maxRecDepth 100000 in
theorem v15_66 (n d : Nat) (L : List (Option mL)) (S : List mV) (M : Mm) (Q : mQ) : vc (n + 1) d 15 66 L S M Q = (gR L 0 fun x => vc n d 15 67 L (.inr (.inr x) :: S) M Q) := nr rfl
set_option maxRecDepth 100000 in
theorem v15_67 (n d : Nat) (L : List (Option mL)) (S : List mV) (M : Mm) (Q : mQ) : vc (n + 1) d 15 67 L S M Q = (pA S fun a S => shO M a 0 (rrf M a 14 fun r => vc n d 15 70 L (.inr (.inr r) :: S) M Q)) := nr rfl
set_option maxRecDepth 100000 in
theorem v15_70 (n d : Nat) (L : List (Option mL)) (S : List mV) (M : Mm) (Q : mQ) : vc (n + 1) d 15 70 L S M Q = (gI L 1 fun x => vc n d 15 71 L (.inl x :: S) M Q) := nr rfl
set_option maxRecDepth 100000 in
theorem v15_71 (n d : Nat) (L : List (Option mL)) (S : List mV) (M : Mm) (Q : mQ) : vc (n + 1) d 15 71 L S M Q = (pAs 1 S fun as S => pA S fun a S => shO M a 8 (stk S ≤ 8 ∧ XC d 21 (.inr (some a) :: as) M (fun r M => ∃ x : Int32, r = some (.inl x) ∧ X d 15 74 L (.inl x :: S) M Q))) := nr rfl
set_option maxRecDepth 100000 in
theorem v15_74 (n d : Nat) (L : List (Option mL)) (S : List mV) (M : Mm) (Q : mQ) : vc (n + 1) d 15 74 L S M Q = (pI S fun x S => sL L 2 (some (.inl x)) fun L => vc n d 15 75 L S M Q) := nr rfl
set_option maxRecDepth 100000 in
theorem v15_75 (n d : Nat) (L : List (Option mL)) (S : List mV) (M : Mm) (Q : mQ) : vc (n + 1) d 15 75 L S M Q = (gR L 0 fun x => vc n d 15 76 L (.inr (.inr x) :: S) M Q) := nr rfl
set_option maxRecDepth 100000 in
theorem v15_76 (n d : Nat) (L : List (Option mL)) (S : List mV) (M : Mm) (Q : mQ) : vc (n + 1) d 15 76 L S M Q = (gI L 2 fun x => vc n d 15 77 L (.inl x :: S) M Q) := nr rfl
set_option maxRecDepth 100000 in
theorem v15_77 (n d : Nat) (L : List (Option mL)) (S : List mV) (M : Mm) (Q : mQ) : vc (n + 1) d 15 77 L S M Q = (pAs 1 S fun as S => pA S fun a S => shO M a 0 (stk S ≤ 8 ∧ XC d 22 (.inr (some a) :: as) M (fun r M => r = none ∧ X d 15 80 L S M Q))) := nr rfl
set_option maxRecDepth 100000 in
theorem v15_80 (n d : Nat) (L : List (Option mL)) (S : List mV) (M : Mm) (Q : mQ) : vc (n + 1) d 15 80 L S M Q = (gR L 0 fun x => vc n d 15 81 L (.inr (.inr x) :: S) M Q) := nr rfl
set_option maxRecDepth 100000 in
theorem v15_81 (n d : Nat) (L : List (Option mL)) (S : List mV) (M : Mm) (Q : mQ) : vc (n + 1) d 15 81 L S M Q = (gI L 2 fun x => vc n d 15 82 L (.inl x :: S) M Q) := nr rfl
set_option maxRecDepth 100000 in
theorem v15_82 (n d : Nat) (L : List (Option mL)) (S : List mV) (M : Mm) (Q : mQ) : vc (n + 1) d 15 82 L S M Q = (gR L 0 fun x => vc n d 15 83 L (.inr (.inr x) :: S) M Q) := nr rfl
set_option maxRecDepth 100000 in
theorem v15_83 (n d : Nat) (L : List (Option mL)) (S : List mV) (M : Mm) (Q : mQ) : vc (n + 1) d 15 83 L S M Q = (pA S fun a S => shO M a 0 (rrf M a 8 fun r => vc n d 15 86 L (.inr (.inr r) :: S) M Q)) := nr rfl
set_option maxRecDepth 100000 in
theorem v15_86 (n d : Nat) (L : List (Option mL)) (S : List mV) (M : Mm) (Q : mQ) : vc (n + 1) d 15 86 L S M Q = (pAs 2 S fun as S => pA S fun a S => shO M a 0 (stk S ≤ 8 ∧ XC d 31 (.inr (some a) :: as) M (fun r M => r = none ∧ X d 15 89 L S M Q))) := nr rfl
set_option maxRecDepth 100000 in
theorem v15_89 (n d : Nat) (L : List (Option mL)) (S : List mV) (M : Mm) (Q : mQ) : vc (n + 1) d 15 89 L S M Q = (gR L 0 fun x => vc n d 15 90 L (.inr (.inr x) :: S) M Q) := nr rfl
set_option maxRecDepth 100000 in
theorem v15_90 (n d : Nat) (L : List (Option mL)) (S : List mV) (M : Mm) (Q : mQ) : vc (n + 1) d 15 90 L S M Q = (pA S fun a S => shO M a 0 (rrf M a 5 fun r => vc n d 15 93 L (.inr (.inr r) :: S) M Q)) := nr rfl
set_option maxRecDepth 100000 in
theorem v15_93 (n d : Nat) (L : List (Option mL)) (S : List mV) (M : Mm) (Q : mQ) : vc (n + 1) d 15 93 L S M Q = (gR L 0 fun x => vc n d 15 94 L (.inr (.inr x) :: S) M Q) := nr rfl
set_option maxRecDepth 100000 in
theorem v15_94 (n d : Nat) (L : List (Option mL)) (S : List mV) (M : Mm) (Q : mQ) : vc (n + 1) d 15 94 L S M Q = (pA S fun a S => shO M a 0 (rrf M a 8 fun r => vc n d 15 97 L (.inr (.inr r) :: S) M Q)) := nr rfl
set_option maxRecDepth 100000 in
theorem v15_97 (n d : Nat) (L : List (Option mL)) (S : List mV) (M : Mm) (Q : mQ) : vc (n + 1) d 15 97 L S M Q = (gI L 2 fun x => vc n d 15 98 L (.inl x :: S) M Q) := nr rfl
set_option maxRecDepth 100000 in
theorem v15_98 (n d : Nat) (L : List (Option mL)) (S : List mV) (M : Mm) (Q : mQ) : vc (n + 1) d 15 98 L S M Q = (pAs 2 S fun as S => pA S fun a S => shO M a 5 (stk S ≤ 8 ∧ XC d 34 (.inr (some a) :: as) M (fun r M => r = none ∧ X d 15 101 L S M Q))) := nr rfl
set_option maxRecDepth 100000 in
theorem v15_101 (n d : Nat) (L : List (Option mL)) (S : List mV) (M : Mm) (Q : mQ) : vc (n + 1) d 15 101 L S M Q = (gI L 1 fun x => sL L 1 (some (.inl (x + 1))) fun L => vc n d 15 104 L S M Q) := nr rfl
set_option maxRecDepth 100000 in
theorem v15_104 (n d : Nat) (L : List (Option mL)) (S : List mV) (M : Mm) (Q : mQ) : vc (n + 1) d 15 104 L S M Q = (X d 15 55 L S M Q) := nr rfl
set_option maxRecDepth 100000 in
theorem v15_107 (n d : Nat) (L : List (Option mL)) (S : List mV) (M : Mm) (Q : mQ) : vc (n + 1) d 15 107 L S M Q = (gR L 0 fun x => vc n d 15 108 L (.inr (.inr x) :: S) M Q) := nr rfl
set_option maxRecDepth 100000 in
theorem v15_108 (n d : Nat) (L : List (Option mL)) (S : List mV) (M : Mm) (Q : mQ) : vc (n + 1) d 15 108 L S M Q = (vc n d 15 109 L (.inl 0 :: S) M Q) := nr rfl
set_option maxRecDepth 100000 in
theorem v15_109 (n d : Nat) (L : List (Option mL)) (S : List mV) (M : Mm) (Q : mQ) : vc (n + 1) d 15 109 L S M Q = (pI S fun x S => pA S fun a S => (x = 0 ∨ x = 1) ∧ shO M a 0 (vc n d 15 112 L S (M.si a 18 x) Q)) := nr rfl
set_option maxRecDepth 100000 in
theorem v15_112 (n d : Nat) (L : List (Option mL)) (S : List mV) (M : Mm) (Q : mQ) : vc (n + 1) d 15 112 L S M Q = (S = [] ∧ Q none M) := nr rfl
set_option maxRecDepth 100000 in
theorem v16_0 (n d : Nat) (L : List (Option mL)) (S : List mV) (M : Mm) (Q : mQ) : vc (n + 1) d 16 0 L S M Q = (gR L 0 fun x => vc n d 16 1 L (.inr (.inr x) :: S) M Q) := nr rfl
set_option maxRecDepth 100000 in
theorem v16_1 (n d : Nat) (L : List (Option mL)) (S : List mV) (M : Mm) (Q : mQ) : vc (n + 1) d 16 1 L S M Q = (pA S fun a S => shO M a 3 (rrf M a 1 fun r => vc n d 16 4 L (.inr (.inr r) :: S) M Q)) := nr rfl
set_option maxRecDepth 100000 in
theorem v16_4 (n d : Nat) (L : List (Option mL)) (S : List mV) (M : Mm) (Q : mQ) : vc (n + 1) d 16 4 L S M Q = (vc n d 16 5 L (.inl 1 :: S) M Q) := nr rfl
set_option maxRecDepth 100000 in
theorem v16_5 (n d : Nat) (L : List (Option mL)) (S : List mV) (M : Mm) (Q : mQ) : vc (n + 1) d 16 5 L S M Q = (pI S fun i S => pA S fun a S => shA M a fun t k => rTyB t = true ∧ inB i k ∧ rrf M a i.toNatClampNeg fun r => vc n d 16 6 L (.inr (.inr r) :: S) M Q) := nr rfl
set_option maxRecDepth 100000 in
theorem v16_6 (n d : Nat) (L : List (Option mL)) (S : List mV) (M : Mm) (Q : mQ) : vc (n + 1) d 16 6 L S M Q = (pR S fun x S => (x = none → vc n d 16 30 L S M Q) ∧ (¬ (x = none) → vc n d 16 9 L S M Q)) := nr rfl
set_option maxRecDepth 100000 in
theorem v16_9 (n d : Nat) (L : List (Option mL)) (S : List mV) (M : Mm) (Q : mQ) : vc (n + 1) d 16 9 L S M Q = (gR L 0 fun x => vc n d 16 10 L (.inr (.inr x) :: S) M Q) := nr rfl
set_option maxRecDepth 100000 in
theorem v16_10 (n d : Nat) (L : List (Option mL)) (S : List mV) (M : Mm) (Q : mQ) : vc (n + 1) d 16 10 L S M Q = (pA S fun a S => shO M a 3 (rrf M a 1 fun r => vc n d 16 13 L (.inr (.inr r) :: S) M Q)) := nr rfl
set_option maxRecDepth 100000 in
theorem v16_13 (n d : Nat) (L : List (Option mL)) (S : List mV) (M : Mm) (Q : mQ) : vc (n + 1) d 16 13 L S M Q = (vc n d 16 14 L (.inl 0 :: S) M Q) := nr rfl
set_option maxRecDepth 100000 in
theorem v16_14 (n d : Nat) (L : List (Option mL)) (S : List mV) (M : Mm) (Q : mQ) : vc (n + 1) d 16 14 L S M Q = (pI S fun i S => pA S fun a S => shA M a fun t k => rTyB t = true ∧ inB i k ∧ rrf M a i.toNatClampNeg fun r => vc n d 16 15 L (.inr (.inr r) :: S) M Q) := nr rfl
set_option maxRecDepth 100000 in
theorem v16_15 (n d : Nat) (L : List (Option mL)) (S : List mV) (M : Mm) (Q : mQ) : vc (n + 1) d 16 15 L S M Q = (pA S fun a S => shO M a 8 (vc n d 16 18 L (.inl (M.it a 0) :: S) M Q)) := nr rfl
set_option maxRecDepth 100000 in
theorem v16_18 (n d : Nat) (L : List (Option mL)) (S : List mV) (M : Mm) (Q : mQ) : vc (n + 1) d 16 18 L S M Q = (gR L 0 fun x => vc n d 16 19 L (.inr (.inr x) :: S) M Q) := nr rfl
set_option maxRecDepth 100000 in
theorem v16_19 (n d : Nat) (L : List (Option mL)) (S : List mV) (M : Mm) (Q : mQ) : vc (n + 1) d 16 19 L S M Q = (pA S fun a S => shO M a 3 (rrf M a 1 fun r => vc n d 16 22 L (.inr (.inr r) :: S) M Q)) := nr rfl
set_option maxRecDepth 100000 in
theorem v16_22 (n d : Nat) (L : List (Option mL)) (S : List mV) (M : Mm) (Q : mQ) : vc (n + 1) d 16 22 L S M Q = (vc n d 16 23 L (.inl 1 :: S) M Q) := nr rfl
set_option maxRecDepth 100000 in
theorem v16_23 (n d : Nat) (L : List (Option mL)) (S : List mV) (M : Mm) (Q : mQ) : vc (n + 1) d 16 23 L S M Q = (pI S fun i S => pA S fun a S => shA M a fun t k => rTyB t = true ∧ inB i k ∧ rrf M a i.toNatClampNeg fun r => vc n d 16 24 L (.inr (.inr r) :: S) M Q) := nr rfl
set_option maxRecDepth 100000 in
theorem v16_24 (n d : Nat) (L : List (Option mL)) (S : List mV) (M : Mm) (Q : mQ) : vc (n + 1) d 16 24 L S M Q = (pA S fun a S => shO M a 8 (vc n d 16 27 L (.inl (M.it a 0) :: S) M Q)) := nr rfl
set_option maxRecDepth 100000 in
theorem v16_27 (n d : Nat) (L : List (Option mL)) (S : List mV) (M : Mm) (Q : mQ) : vc (n + 1) d 16 27 L S M Q = (pI S fun y S => pI S fun x S => (x ≤ y → vc n d 16 37 L S M Q) ∧ (¬ (x ≤ y) → vc n d 16 30 L S M Q)) := nr rfl
set_option maxRecDepth 100000 in
theorem v16_30 (n d : Nat) (L : List (Option mL)) (S : List mV) (M : Mm) (Q : mQ) : vc (n + 1) d 16 30 L S M Q = (gR L 0 fun x => vc n d 16 31 L (.inr (.inr x) :: S) M Q) := nr rfl
set_option maxRecDepth 100000 in
theorem v16_31 (n d : Nat) (L : List (Option mL)) (S : List mV) (M : Mm) (Q : mQ) : vc (n + 1) d 16 31 L S M Q = (pA S fun a S => shO M a 3 (rrf M a 1 fun r => vc n d 16 34 L (.inr (.inr r) :: S) M Q)) := nr rfl
set_option maxRecDepth 100000 in
theorem v16_34 (n d : Nat) (L : List (Option mL)) (S : List mV) (M : Mm) (Q : mQ) : vc (n + 1) d 16 34 L S M Q = (vc n d 16 35 L (.inl 0 :: S) M Q) := nr rfl
set_option maxRecDepth 100000 in
theorem v16_35 (n d : Nat) (L : List (Option mL)) (S : List mV) (M : Mm) (Q : mQ) : vc (n + 1) d 16 35 L S M Q = (pI S fun i S => pA S fun a S => shA M a fun t k => rTyB t = true ∧ inB i k ∧ rrf M a i.toNatClampNeg fun r => vc n d 16 36 L (.inr (.inr r) :: S) M Q) := nr rfl
set_option maxRecDepth 100000 in
theorem v16_36 (n d : Nat) (L : List (Option mL)) (S : List mV) (M : Mm) (Q : mQ) : vc (n + 1) d 16 36 L S M Q = (pR S fun r S => S = [] ∧ Q (some (.inr (.inr r))) M) := nr rfl
set_option maxRecDepth 100000 in
theorem v16_37 (n d : Nat) (L : List (Option mL)) (S : List mV) (M : Mm) (Q : mQ) : vc (n + 1) d 16 37 L S M Q = (gR L 0 fun x => vc n d 16 38 L (.inr (.inr x) :: S) M Q) := nr rfl
set_option maxRecDepth 100000 in
theorem v16_38 (n d : Nat) (L : List (Option mL)) (S : List mV) (M : Mm) (Q : mQ) : vc (n + 1) d 16 38 L S M Q = (pA S fun a S => shO M a 3 (rrf M a 1 fun r => vc n d 16 41 L (.inr (.inr r) :: S) M Q)) := nr rfl
set_option maxRecDepth 100000 in
theorem v16_41 (n d : Nat) (L : List (Option mL)) (S : List mV) (M : Mm) (Q : mQ) : vc (n + 1) d 16 41 L S M Q = (vc n d 16 42 L (.inl 1 :: S) M Q) := nr rfl
set_option maxRecDepth 100000 in
theorem v16_42 (n d : Nat) (L : List (Option mL)) (S : List mV) (M : Mm) (Q : mQ) : vc (n + 1) d 16 42 L S M Q = (pI S fun i S => pA S fun a S => shA M a fun t k => rTyB t = true ∧ inB i k ∧ rrf M a i.toNatClampNeg fun r => vc n d 16 43 L (.inr (.inr r) :: S) M Q) := nr rfl
set_option maxRecDepth 100000 in
theorem v16_43 (n d : Nat) (L : List (Option mL)) (S : List mV) (M : Mm) (Q : mQ) : vc (n + 1) d 16 43 L S M Q = (pR S fun r S => S = [] ∧ Q (some (.inr (.inr r))) M) := nr rfl
set_option maxRecDepth 100000 in
theorem v17_0 (n d : Nat) (L : List (Option mL)) (S : List mV) (M : Mm) (Q : mQ) : vc (n + 1) d 17 0 L S M Q = (vc n d 17 1 L (.inl 0 :: S) M Q) := nr rfl
set_option maxRecDepth 100000 in
theorem v17_1 (n d : Nat) (L : List (Option mL)) (S : List mV) (M : Mm) (Q : mQ) : vc (n + 1) d 17 1 L S M Q = (pI S fun x S => sL L 2 (some (.inl x)) fun L => X d 17 2 L S M Q) := nr rfl
set_option maxRecDepth 100000 in
theorem v17_2 (n d : Nat) (L : List (Option mL)) (S : List mV) (M : Mm) (Q : mQ) : vc (n + 1) d 17 2 L S M Q = (gI L 2 fun x => vc n d 17 3 L (.inl x :: S) M Q) := nr rfl
set_option maxRecDepth 100000 in
theorem v17_3 (n d : Nat) (L : List (Option mL)) (S : List mV) (M : Mm) (Q : mQ) : vc (n + 1) d 17 3 L S M Q = (vc n d 17 5 L (.inl 8 :: S) M Q) := nr rfl
set_option maxRecDepth 100000 in
theorem v17_5 (n d : Nat) (L : List (Option mL)) (S : List mV) (M : Mm) (Q : mQ) : vc (n + 1) d 17 5 L S M Q = (pI S fun y S => pI S fun x S => (y ≤ x → vc n d 17 25 L S M Q) ∧ (¬ (y ≤ x) → vc n d 17 8 L S M Q)) := nr rfl
set_option maxRecDepth 100000 in
theorem v17_8 (n d : Nat) (L : List (Option mL)) (S : List mV) (M : Mm) (Q : mQ) : vc (n + 1) d 17 8 L S M Q = (gR L 0 fun x => vc n d 17 9 L (.inr (.inr x) :: S) M Q) := nr rfl
set_option maxRecDepth 100000 in
theorem v17_9 (n d : Nat) (L : List (Option mL)) (S : List mV) (M : Mm) (Q : mQ) : vc (n + 1) d 17 9 L S M Q = (pA S fun a S => shO M a 6 (rrf M a 0 fun r => vc n d 17 12 L (.inr (.inr r) :: S) M Q)) := nr rfl
set_option maxRecDepth 100000 in
theorem v17_12 (n d : Nat) (L : List (Option mL)) (S : List mV) (M : Mm) (Q : mQ) : vc (n + 1) d 17 12 L S M Q = (gI L 2 fun x => vc n d 17 13 L (.inl x :: S) M Q) := nr rfl
set_option maxRecDepth 100000 in
theorem v17_13 (n d : Nat) (L : List (Option mL)) (S : List mV) (M : Mm) (Q : mQ) : vc (n + 1) d 17 13 L S M Q = (gR L 1 fun x => vc n d 17 14 L (.inr (.inr x) :: S) M Q) := nr rfl
set_option maxRecDepth 100000 in
theorem v17_14 (n d : Nat) (L : List (Option mL)) (S : List mV) (M : Mm) (Q : mQ) : vc (n + 1) d 17 14 L S M Q = (gI L 2 fun x => vc n d 17 15 L (.inl x :: S) M Q) := nr rfl
set_option maxRecDepth 100000 in
theorem v17_15 (n d : Nat) (L : List (Option mL)) (S : List mV) (M : Mm) (Q : mQ) : vc (n + 1) d 17 15 L S M Q = (pAs 1 S fun as S => pA S fun a S => shO M a 8 (stk S ≤ 8 ∧ XC d 18 (.inr (some a) :: as) M (fun r M => ∃ x : Int32, r = some (.inl x) ∧ X d 17 18 L (.inl x :: S) M Q))) := nr rfl
set_option maxRecDepth 100000 in
theorem v17_18 (n d : Nat) (L : List (Option mL)) (S : List mV) (M : Mm) (Q : mQ) : vc (n + 1) d 17 18 L S M Q = (pI S fun x S => pI S fun i S => pA S fun a S => shA M a fun t k => t = 41 ∧ inB i k ∧ vc n d 17 19 L S (M.si a i.toNatClampNeg x) Q) := nr rfl
set_option maxRecDepth 100000 in
theorem v17_19 (n d : Nat) (L : List (Option mL)) (S : List mV) (M : Mm) (Q : mQ) : vc (n + 1) d 17 19 L S M Q = (gI L 2 fun x => sL L 2 (some (.inl (x + 1))) fun L => vc n d 17 22 L S M Q) := nr rfl
set_option maxRecDepth 100000 in
theorem v17_22 (n d : Nat) (L : List (Option mL)) (S : List mV) (M : Mm) (Q : mQ) : vc (n + 1) d 17 22 L S M Q = (X d 17 2 L S M Q) := nr rfl
set_option maxRecDepth 100000 in
theorem v17_25 (n d : Nat) (L : List (Option mL)) (S : List mV) (M : Mm) (Q : mQ) : vc (n + 1) d 17 25 L S M Q = (gR L 0 fun x => vc n d 17 26 L (.inr (.inr x) :: S) M Q) := nr rfl
set_option maxRecDepth 100000 in
theorem v17_26 (n d : Nat) (L : List (Option mL)) (S : List mV) (M : Mm) (Q : mQ) : vc (n + 1) d 17 26 L S M Q = (vc n d 17 27 L (.inl (-1) :: S) M Q) := nr rfl
set_option maxRecDepth 100000 in
theorem v17_27 (n d : Nat) (L : List (Option mL)) (S : List mV) (M : Mm) (Q : mQ) : vc (n + 1) d 17 27 L S M Q = (pI S fun x S => pA S fun a S => shO M a 6 (vc n d 17 30 L S (M.si a 1 x) Q)) := nr rfl
set_option maxRecDepth 100000 in
theorem v17_30 (n d : Nat) (L : List (Option mL)) (S : List mV) (M : Mm) (Q : mQ) : vc (n + 1) d 17 30 L S M Q = (S = [] ∧ Q none M) := nr rfl
set_option maxRecDepth 100000 in
theorem v18_0 (n d : Nat) (L : List (Option mL)) (S : List mV) (M : Mm) (Q : mQ) : vc (n + 1) d 18 0 L S M Q = (gI L 1 fun x => vc n d 18 1 L (.inl x :: S) M Q) := nr rfl
set_option maxRecDepth 100000 in
theorem v18_1 (n d : Nat) (L : List (Option mL)) (S : List mV) (M : Mm) (Q : mQ) : vc (n + 1) d 18 1 L S M Q = (pI S fun x S => (x < 0 → vc n d 18 22 L S M Q) ∧ (¬ (x < 0) → vc n d 18 4 L S M Q)) := nr rfl
set_option maxRecDepth 100000 in
theorem v18_4 (n d : Nat) (L : List (Option mL)) (S : List mV) (M : Mm) (Q : mQ) : vc (n + 1) d 18 4 L S M Q = (gI L 1 fun x => vc n d 18 5 L (.inl x :: S) M Q) := nr rfl
set_option maxRecDepth 100000 in
theorem v18_5 (n d : Nat) (L : List (Option mL)) (S : List mV) (M : Mm) (Q : mQ) : vc (n + 1) d 18 5 L S M Q = (gR L 0 fun x => vc n d 18 6 L (.inr (.inr x) :: S) M Q) := nr rfl
set_option maxRecDepth 100000 in
theorem v18_6 (n d : Nat) (L : List (Option mL)) (S : List mV) (M : Mm) (Q : mQ) : vc (n + 1) d 18 6 L S M Q = (pA S fun a S => shO M a 8 (rrf M a 3 fun r => vc n d 18 9 L (.inr (.inr r) :: S) M Q)) := nr rfl
set_option maxRecDepth 100000 in
theorem v18_9 (n d : Nat) (L : List (Option mL)) (S : List mV) (M : Mm) (Q : mQ) : vc (n + 1) d 18 9 L S M Q = (pA S fun a S => shA M a fun t k => aTyB t = true ∧ vc n d 18 10 L (.inl (nI k) :: S) M Q) := nr rfl
set_option maxRecDepth 100000 in
theorem v18_10 (n d : Nat) (L : List (Option mL)) (S : List mV) (M : Mm) (Q : mQ) : vc (n + 1) d 18 10 L S M Q = (pI S fun y S => pI S fun x S => (y ≤ x → vc n d 18 22 L S M Q) ∧ (¬ (y ≤ x) → vc n d 18 13 L S M Q)) := nr rfl
set_option maxRecDepth 100000 in
theorem v18_13 (n d : Nat) (L : List (Option mL)) (S : List mV) (M : Mm) (Q : mQ) : vc (n + 1) d 18 13 L S M Q = (gR L 0 fun x => vc n d 18 14 L (.inr (.inr x) :: S) M Q) := nr rfl
set_option maxRecDepth 100000 in
theorem v18_14 (n d : Nat) (L : List (Option mL)) (S : List mV) (M : Mm) (Q : mQ) : vc (n + 1) d 18 14 L S M Q = (pA S fun a S => shO M a 8 (rrf M a 3 fun r => vc n d 18 17 L (.inr (.inr r) :: S) M Q)) := nr rfl
set_option maxRecDepth 100000 in
theorem v18_17 (n d : Nat) (L : List (Option mL)) (S : List mV) (M : Mm) (Q : mQ) : vc (n + 1) d 18 17 L S M Q = (gI L 1 fun x => vc n d 18 18 L (.inl x :: S) M Q) := nr rfl
set_option maxRecDepth 100000 in
theorem v18_18 (n d : Nat) (L : List (Option mL)) (S : List mV) (M : Mm) (Q : mQ) : vc (n + 1) d 18 18 L S M Q = (pI S fun i S => pA S fun a S => shA M a fun t k => (t = 40 ∨ t = 41) ∧ inB i k ∧ vc n d 18 19 L (.inl (M.it a i.toNatClampNeg) :: S) M Q) := nr rfl
set_option maxRecDepth 100000 in
theorem v18_19 (n d : Nat) (L : List (Option mL)) (S : List mV) (M : Mm) (Q : mQ) : vc (n + 1) d 18 19 L S M Q = (vc n d 18 23 L S M Q) := nr rfl
set_option maxRecDepth 100000 in
theorem v18_22 (n d : Nat) (L : List (Option mL)) (S : List mV) (M : Mm) (Q : mQ) : vc (n + 1) d 18 22 L S M Q = (vc n d 18 23 L (.inl (-1) :: S) M Q) := nr rfl
set_option maxRecDepth 100000 in
theorem v18_23 (n d : Nat) (L : List (Option mL)) (S : List mV) (M : Mm) (Q : mQ) : vc (n + 1) d 18 23 L S M Q = (pI S fun x S => S = [] ∧ (0 = 0 ∨ x = 0 ∨ x = 1) ∧ Q (some (.inl x)) M) := nr rfl
set_option maxRecDepth 100000 in
theorem v19_0 (n d : Nat) (L : List (Option mL)) (S : List mV) (M : Mm) (Q : mQ) : vc (n + 1) d 19 0 L S M Q = (gR L 0 fun x => vc n d 19 1 L (.inr (.inr x) :: S) M Q) := nr rfl
set_option maxRecDepth 100000 in
theorem v19_1 (n d : Nat) (L : List (Option mL)) (S : List mV) (M : Mm) (Q : mQ) : vc (n + 1) d 19 1 L S M Q = (pA S fun a S => shO M a 5 (rrf M a 0 fun r => vc n d 19 4 L (.inr (.inr r) :: S) M Q)) := nr rfl
set_option maxRecDepth 100000 in
theorem v19_4 (n d : Nat) (L : List (Option mL)) (S : List mV) (M : Mm) (Q : mQ) : vc (n + 1) d 19 4 L S M Q = (pAs 0 S fun as S => pA S fun a S => shO M a 4 (stk S ≤ 8 ∧ XC d 11 (.inr (some a) :: as) M (fun r M => r = none ∧ X d 19 7 L S M Q))) := nr rfl
set_option maxRecDepth 100000 in
theorem v19_7 (n d : Nat) (L : List (Option mL)) (S : List mV) (M : Mm) (Q : mQ) : vc (n + 1) d 19 7 L S M Q = (gR L 0 fun x => vc n d 19 8 L (.inr (.inr x) :: S) M Q) := nr rfl
set_option maxRecDepth 100000 in
theorem v19_8 (n d : Nat) (L : List (Option mL)) (S : List mV) (M : Mm) (Q : mQ) : vc (n + 1) d 19 8 L S M Q = (vc n d 19 9 L (.inl 0 :: S) M Q) := nr rfl
set_option maxRecDepth 100000 in
theorem v19_9 (n d : Nat) (L : List (Option mL)) (S : List mV) (M : Mm) (Q : mQ) : vc (n + 1) d 19 9 L S M Q = (pI S fun x S => pA S fun a S => shO M a 5 (vc n d 19 12 L S (M.si a 2 x) Q)) := nr rfl
set_option maxRecDepth 100000 in
theorem v19_12 (n d : Nat) (L : List (Option mL)) (S : List mV) (M : Mm) (Q : mQ) : vc (n + 1) d 19 12 L S M Q = (S = [] ∧ Q none M) := nr rfl
set_option maxRecDepth 100000 in
theorem v20_0 (n d : Nat) (L : List (Option mL)) (S : List mV) (M : Mm) (Q : mQ) : vc (n + 1) d 20 0 L S M Q = (gR L 0 fun x => vc n d 20 1 L (.inr (.inr x) :: S) M Q) := nr rfl
set_option maxRecDepth 100000 in
theorem v20_1 (n d : Nat) (L : List (Option mL)) (S : List mV) (M : Mm) (Q : mQ) : vc (n + 1) d 20 1 L S M Q = (pA S fun a S => shO M a 8 (rrf M a 4 fun r => vc n d 20 4 L (.inr (.inr r) :: S) M Q)) := nr rfl
set_option maxRecDepth 100000 in
theorem v20_4 (n d : Nat) (L : List (Option mL)) (S : List mV) (M : Mm) (Q : mQ) : vc (n + 1) d 20 4 L S M Q = (pA S fun a S => shA M a fun t k => aTyB t = true ∧ vc n d 20 5 L (.inl (nI k) :: S) M Q) := nr rfl
set_option maxRecDepth 100000 in
theorem v20_5 (n d : Nat) (L : List (Option mL)) (S : List mV) (M : Mm) (Q : mQ) : vc (n + 1) d 20 5 L S M Q = (pI S fun x S => S = [] ∧ (0 = 0 ∨ x = 0 ∨ x = 1) ∧ Q (some (.inl x)) M) := nr rfl
set_option maxRecDepth 100000 in
theorem v21_0 (n d : Nat) (L : List (Option mL)) (S : List mV) (M : Mm) (Q : mQ) : vc (n + 1) d 21 0 L S M Q = (gI L 1 fun x => vc n d 21 1 L (.inl x :: S) M Q) := nr rfl
set_option maxRecDepth 100000 in
theorem v21_1 (n d : Nat) (L : List (Option mL)) (S : List mV) (M : Mm) (Q : mQ) : vc (n + 1) d 21 1 L S M Q = (pI S fun x S => (x < 0 → vc n d 21 22 L S M Q) ∧ (¬ (x < 0) → vc n d 21 4 L S M Q)) := nr rfl
set_option maxRecDepth 100000 in
theorem v21_4 (n d : Nat) (L : List (Option mL)) (S : List mV) (M : Mm) (Q : mQ) : vc (n + 1) d 21 4 L S M Q = (gI L 1 fun x => vc n d 21 5 L (.inl x :: S) M Q) := nr rfl
set_option maxRecDepth 100000 in
theorem v21_5 (n d : Nat) (L : List (Option mL)) (S : List mV) (M : Mm) (Q : mQ) : vc (n + 1) d 21 5 L S M Q = (gR L 0 fun x => vc n d 21 6 L (.inr (.inr x) :: S) M Q) := nr rfl
set_option maxRecDepth 100000 in
theorem v21_6 (n d : Nat) (L : List (Option mL)) (S : List mV) (M : Mm) (Q : mQ) : vc (n + 1) d 21 6 L S M Q = (pA S fun a S => shO M a 8 (rrf M a 4 fun r => vc n d 21 9 L (.inr (.inr r) :: S) M Q)) := nr rfl
set_option maxRecDepth 100000 in
theorem v21_9 (n d : Nat) (L : List (Option mL)) (S : List mV) (M : Mm) (Q : mQ) : vc (n + 1) d 21 9 L S M Q = (pA S fun a S => shA M a fun t k => aTyB t = true ∧ vc n d 21 10 L (.inl (nI k) :: S) M Q) := nr rfl
set_option maxRecDepth 100000 in
theorem v21_10 (n d : Nat) (L : List (Option mL)) (S : List mV) (M : Mm) (Q : mQ) : vc (n + 1) d 21 10 L S M Q = (pI S fun y S => pI S fun x S => (y ≤ x → vc n d 21 22 L S M Q) ∧ (¬ (y ≤ x) → vc n d 21 13 L S M Q)) := nr rfl
set_option maxRecDepth 100000 in
theorem v21_13 (n d : Nat) (L : List (Option mL)) (S : List mV) (M : Mm) (Q : mQ) : vc (n + 1) d 21 13 L S M Q = (gR L 0 fun x => vc n d 21 14 L (.inr (.inr x) :: S) M Q) := nr rfl
set_option maxRecDepth 100000 in
theorem v21_14 (n d : Nat) (L : List (Option mL)) (S : List mV) (M : Mm) (Q : mQ) : vc (n + 1) d 21 14 L S M Q = (pA S fun a S => shO M a 8 (rrf M a 4 fun r => vc n d 21 17 L (.inr (.inr r) :: S) M Q)) := nr rfl
set_option maxRecDepth 100000 in
theorem v21_17 (n d : Nat) (L : List (Option mL)) (S : List mV) (M : Mm) (Q : mQ) : vc (n + 1) d 21 17 L S M Q = (gI L 1 fun x => vc n d 21 18 L (.inl x :: S) M Q) := nr rfl
set_option maxRecDepth 100000 in
theorem v21_18 (n d : Nat) (L : List (Option mL)) (S : List mV) (M : Mm) (Q : mQ) : vc (n + 1) d 21 18 L S M Q = (pI S fun i S => pA S fun a S => shA M a fun t k => (t = 40 ∨ t = 41) ∧ inB i k ∧ vc n d 21 19 L (.inl (M.it a i.toNatClampNeg) :: S) M Q) := nr rfl
set_option maxRecDepth 100000 in
theorem v21_19 (n d : Nat) (L : List (Option mL)) (S : List mV) (M : Mm) (Q : mQ) : vc (n + 1) d 21 19 L S M Q = (vc n d 21 23 L S M Q) := nr rfl
set_option maxRecDepth 100000 in
theorem v21_22 (n d : Nat) (L : List (Option mL)) (S : List mV) (M : Mm) (Q : mQ) : vc (n + 1) d 21 22 L S M Q = (vc n d 21 23 L (.inl (-1) :: S) M Q) := nr rfl
set_option maxRecDepth 100000 in
theorem v21_23 (n d : Nat) (L : List (Option mL)) (S : List mV) (M : Mm) (Q : mQ) : vc (n + 1) d 21 23 L S M Q = (pI S fun x S => S = [] ∧ (0 = 0 ∨ x = 0 ∨ x = 1) ∧ Q (some (.inl x)) M) := nr rfl
set_option maxRecDepth 100000 in
theorem v22_0 (n d : Nat) (L : List (Option mL)) (S : List mV) (M : Mm) (Q : mQ) : vc (n + 1) d 22 0 L S M Q = (gR L 0 fun x => vc n d 22 1 L (.inr (.inr x) :: S) M Q) := nr rfl
set_option maxRecDepth 100000 in
theorem v22_1 (n d : Nat) (L : List (Option mL)) (S : List mV) (M : Mm) (Q : mQ) : vc (n + 1) d 22 1 L S M Q = (gI L 1 fun x => vc n d 22 2 L (.inl x :: S) M Q) := nr rfl
set_option maxRecDepth 100000 in
theorem v22_2 (n d : Nat) (L : List (Option mL)) (S : List mV) (M : Mm) (Q : mQ) : vc (n + 1) d 22 2 L S M Q = (pAs 1 S fun as S => pA S fun a S => shO M a 0 (stk S ≤ 8 ∧ XC d 23 (.inr (some a) :: as) M (fun r M => ∃ x : Int32, r = some (.inl x) ∧ X d 22 5 L (.inl x :: S) M Q))) := nr rfl
set_option maxRecDepth 100000 in
theorem v22_5 (n d : Nat) (L : List (Option mL)) (S : List mV) (M : Mm) (Q : mQ) : vc (n + 1) d 22 5 L S M Q = (pI S fun x S => sL L 2 (some (.inl x)) fun L => vc n d 22 6 L S M Q) := nr rfl
set_option maxRecDepth 100000 in
theorem v22_6 (n d : Nat) (L : List (Option mL)) (S : List mV) (M : Mm) (Q : mQ) : vc (n + 1) d 22 6 L S M Q = (gI L 1 fun x => vc n d 22 7 L (.inl x :: S) M Q) := nr rfl
set_option maxRecDepth 100000 in
theorem v22_7 (n d : Nat) (L : List (Option mL)) (S : List mV) (M : Mm) (Q : mQ) : vc (n + 1) d 22 7 L S M Q = (pI S fun x S => sL L 3 (some (.inl x)) fun L => X d 22 8 L S M Q) := nr rfl
set_option maxRecDepth 100000 in
theorem v22_8 (n d : Nat) (L : List (Option mL)) (S : List mV) (M : Mm) (Q : mQ) : vc (n + 1) d 22 8 L S M Q = (gI L 3 fun x => vc n d 22 9 L (.inl x :: S) M Q) := nr rfl
set_option maxRecDepth 100000 in
theorem v22_9 (n d : Nat) (L : List (Option mL)) (S : List mV) (M : Mm) (Q : mQ) : vc (n + 1) d 22 9 L S M Q = (gI L 1 fun x => vc n d 22 10 L (.inl x :: S) M Q) := nr rfl
set_option maxRecDepth 100000 in
theorem v22_10 (n d : Nat) (L : List (Option mL)) (S : List mV) (M : Mm) (Q : mQ) : vc (n + 1) d 22 10 L S M Q = (gI L 2 fun x => vc n d 22 11 L (.inl x :: S) M Q) := nr rfl
set_option maxRecDepth 100000 in
theorem v22_11 (n d : Nat) (L : List (Option mL)) (S : List mV) (M : Mm) (Q : mQ) : vc (n + 1) d 22 11 L S M Q = (pI S fun y S => pI S fun x S => vc n d 22 12 L (.inl (x + y) :: S) M Q) := nr rfl
set_option maxRecDepth 100000 in
theorem v22_12 (n d : Nat) (L : List (Option mL)) (S : List mV) (M : Mm) (Q : mQ) : vc (n + 1) d 22 12 L S M Q = (pI S fun y S => pI S fun x S => (y ≤ x → vc n d 22 40 L S M Q) ∧ (¬ (y ≤ x) → vc n d 22 15 L S M Q)) := nr rfl
set_option maxRecDepth 100000 in
theorem v22_15 (n d : Nat) (L : List (Option mL)) (S : List mV) (M : Mm) (Q : mQ) : vc (n + 1) d 22 15 L S M Q = (gR L 0 fun x => vc n d 22 16 L (.inr (.inr x) :: S) M Q) := nr rfl
set_option maxRecDepth 100000 in
theorem v22_16 (n d : Nat) (L : List (Option mL)) (S : List mV) (M : Mm) (Q : mQ) : vc (n + 1) d 22 16 L S M Q = (pA S fun a S => shO M a 0 (rrf M a 1 fun r => vc n d 22 19 L (.inr (.inr r) :: S) M Q)) := nr rfl
set_option maxRecDepth 100000 in
theorem v22_19 (n d : Nat) (L : List (Option mL)) (S : List mV) (M : Mm) (Q : mQ) : vc (n + 1) d 22 19 L S M Q = (gI L 3 fun x => vc n d 22 20 L (.inl x :: S) M Q) := nr rfl
set_option maxRecDepth 100000 in
theorem v22_20 (n d : Nat) (L : List (Option mL)) (S : List mV) (M : Mm) (Q : mQ) : vc (n + 1) d 22 20 L S M Q = (pAs 1 S fun as S => pA S fun a S => shO M a 7 (stk S ≤ 8 ∧ XC d 25 (.inr (some a) :: as) M (fun r M => ∃ x : Option Nat, r = some (.inr (.inr x)) ∧ X d 22 23 L (.inr (.inr x) :: S) M Q))) := nr rfl
set_option maxRecDepth 100000 in
theorem v22_23 (n d : Nat) (L : List (Option mL)) (S : List mV) (M : Mm) (Q : mQ) : vc (n + 1) d 22 23 L S M Q = (pR S fun x S => (x = none → vc n d 22 26 L S M Q) ∧ (¬ (x = none) → X d 22 34 L S M Q)) := nr rfl
set_option maxRecDepth 100000 in
theorem v22_26 (n d : Nat) (L : List (Option mL)) (S : List mV) (M : Mm) (Q : mQ) : vc (n + 1) d 22 26 L S M Q = (gR L 0 fun x => vc n d 22 27 L (.inr (.inr x) :: S) M Q) := nr rfl
set_option maxRecDepth 100000 in
theorem v22_27 (n d : Nat) (L : List (Option mL)) (S : List mV) (M : Mm) (Q : mQ) : vc (n + 1) d 22 27 L S M Q = (pA S fun a S => shO M a 0 (rrf M a 2 fun r => vc n d 22 30 L (.inr (.inr r) :: S) M Q)) := nr rfl
set_option maxRecDepth 100000 in
theorem v22_30 (n d : Nat) (L : List (Option mL)) (S : List mV) (M : Mm) (Q : mQ) : vc (n + 1) d 22 30 L S M Q = (gI L 3 fun x => vc n d 22 31 L (.inl x :: S) M Q) := nr rfl
set_option maxRecDepth 100000 in
theorem v22_31 (n d : Nat) (L : List (Option mL)) (S : List mV) (M : Mm) (Q : mQ) : vc (n + 1) d 22 31 L S M Q = (pAs 1 S fun as S => pA S fun a S => shO M a 2 (stk S ≤ 8 ∧ XC d 30 (.inr (some a) :: as) M (fun r M => r = none ∧ X d 22 34 L S M Q))) := nr rfl
set_option maxRecDepth 100000 in
theorem v22_34 (n d : Nat) (L : List (Option mL)) (S : List mV) (M : Mm) (Q : mQ) : vc (n + 1) d 22 34 L S M Q = (gI L 3 fun x => sL L 3 (some (.inl (x + 1))) fun L => vc n d 22 37 L S M Q) := nr rfl
set_option maxRecDepth 100000 in
theorem v22_37 (n d : Nat) (L : List (Option mL)) (S : List mV) (M : Mm) (Q : mQ) : vc (n + 1) d 22 37 L S M Q = (X d 22 8 L S M Q) := nr rfl
set_option maxRecDepth 100000 in
theorem v22_40 (n d : Nat) (L : List (Option mL)) (S : List mV) (M : Mm) (Q : mQ) : vc (n + 1) d 22 40 L S M Q = (S = [] ∧ Q none M) := nr rfl
set_option maxRecDepth 100000 in
theorem v23_0 (n d : Nat) (L : List (Option mL)) (S : List mV) (M : Mm) (Q : mQ) : vc (n + 1) d 23 0 L S M Q = (gR L 0 fun x => vc n d 23 1 L (.inr (.inr x) :: S) M Q) := nr rfl
set_option maxRecDepth 100000 in
theorem v23_1 (n d : Nat) (L : List (Option mL)) (S : List mV) (M : Mm) (Q : mQ) : vc (n + 1) d 23 1 L S M Q = (gI L 1 fun x => vc n d 23 2 L (.inl x :: S) M Q) := nr rfl
set_option maxRecDepth 100000 in
theorem v23_2 (n d : Nat) (L : List (Option mL)) (S : List mV) (M : Mm) (Q : mQ) : vc (n + 1) d 23 2 L S M Q = (pAs 1 S fun as S => pA S fun a S => shO M a 0 (stk S ≤ 8 ∧ XC d 24 (.inr (some a) :: as) M (fun r M => ∃ x : Int32, r = some (.inl x) ∧ X d 23 5 L (.inl x :: S) M Q))) := nr rfl
set_option maxRecDepth 100000 in
theorem v23_5 (n d : Nat) (L : List (Option mL)) (S : List mV) (M : Mm) (Q : mQ) : vc (n + 1) d 23 5 L S M Q = (pAs 1 S fun as S => stk S ≤ 8 ∧ XC d 29 as M (fun r M => ∃ x : Int32, r = some (.inl x) ∧ X d 23 8 L (.inl x :: S) M Q)) := nr rfl
set_option maxRecDepth 100000 in
theorem v23_8 (n d : Nat) (L : List (Option mL)) (S : List mV) (M : Mm) (Q : mQ) : vc (n + 1) d 23 8 L S M Q = (pI S fun x S => S = [] ∧ (0 = 0 ∨ x = 0 ∨ x = 1) ∧ Q (some (.inl x)) M) := nr rfl
set_option maxRecDepth 100000 in
theorem v24_0 (n d : Nat) (L : List (Option mL)) (S : List mV) (M : Mm) (Q : mQ) : vc (n + 1) d 24 0 L S M Q = (gR L 0 fun x => vc n d 24 1 L (.inr (.inr x) :: S) M Q) := nr rfl
set_option maxRecDepth 100000 in
theorem v24_1 (n d : Nat) (L : List (Option mL)) (S : List mV) (M : Mm) (Q : mQ) : vc (n + 1) d 24 1 L S M Q = (pA S fun a S => shO M a 0 (rrf M a 1 fun r => vc n d 24 4 L (.inr (.inr r) :: S) M Q)) := nr rfl
set_option maxRecDepth 100000 in
theorem v24_4 (n d : Nat) (L : List (Option mL)) (S : List mV) (M : Mm) (Q : mQ) : vc (n + 1) d 24 4 L S M Q = (gI L 1 fun x => vc n d 24 5 L (.inl x :: S) M Q) := nr rfl
set_option maxRecDepth 100000 in
theorem v24_5 (n d : Nat) (L : List (Option mL)) (S : List mV) (M : Mm) (Q : mQ) : vc (n + 1) d 24 5 L S M Q = (pAs 1 S fun as S => pA S fun a S => shO M a 7 (stk S ≤ 8 ∧ XC d 25 (.inr (some a) :: as) M (fun r M => ∃ x : Option Nat, r = some (.inr (.inr x)) ∧ X d 24 8 L (.inr (.inr x) :: S) M Q))) := nr rfl
set_option maxRecDepth 100000 in
theorem v24_8 (n d : Nat) (L : List (Option mL)) (S : List mV) (M : Mm) (Q : mQ) : vc (n + 1) d 24 8 L S M Q = (pR S fun x S => sL L 2 (some (.inr x)) fun L => vc n d 24 9 L S M Q) := nr rfl
set_option maxRecDepth 100000 in
theorem v24_9 (n d : Nat) (L : List (Option mL)) (S : List mV) (M : Mm) (Q : mQ) : vc (n + 1) d 24 9 L S M Q = (gR L 2 fun x => vc n d 24 10 L (.inr (.inr x) :: S) M Q) := nr rfl
set_option maxRecDepth 100000 in
theorem v24_10 (n d : Nat) (L : List (Option mL)) (S : List mV) (M : Mm) (Q : mQ) : vc (n + 1) d 24 10 L S M Q = (pR S fun x S => (x = none → vc n d 24 21 L S M Q) ∧ (¬ (x = none) → vc n d 24 13 L S M Q)) := nr rfl
set_option maxRecDepth 100000 in
theorem v24_13 (n d : Nat) (L : List (Option mL)) (S : List mV) (M : Mm) (Q : mQ) : vc (n + 1) d 24 13 L S M Q = (gR L 2 fun x => vc n d 24 14 L (.inr (.inr x) :: S) M Q) := nr rfl
set_option maxRecDepth 100000 in
theorem v24_14 (n d : Nat) (L : List (Option mL)) (S : List mV) (M : Mm) (Q : mQ) : vc (n + 1) d 24 14 L S M Q = (vc n d 24 15 L (.inl 3 :: S) M Q) := nr rfl
set_option maxRecDepth 100000 in
theorem v24_15 (n d : Nat) (L : List (Option mL)) (S : List mV) (M : Mm) (Q : mQ) : vc (n + 1) d 24 15 L S M Q = (pAs 1 S fun as S => pA S fun a S => shO M a 9 (stk S ≤ 8 ∧ XC d 27 (.inr (some a) :: as) M (fun r M => ∃ x : Int32, r = some (.inl x) ∧ X d 24 18 L (.inl x :: S) M Q))) := nr rfl
set_option maxRecDepth 100000 in
theorem v24_18 (n d : Nat) (L : List (Option mL)) (S : List mV) (M : Mm) (Q : mQ) : vc (n + 1) d 24 18 L S M Q = (X d 24 30 L S M Q) := nr rfl
set_option maxRecDepth 100000 in
theorem v24_21 (n d : Nat) (L : List (Option mL)) (S : List mV) (M : Mm) (Q : mQ) : vc (n + 1) d 24 21 L S M Q = (gR L 0 fun x => vc n d 24 22 L (.inr (.inr x) :: S) M Q) := nr rfl
set_option maxRecDepth 100000 in
theorem v24_22 (n d : Nat) (L : List (Option mL)) (S : List mV) (M : Mm) (Q : mQ) : vc (n + 1) d 24 22 L S M Q = (pA S fun a S => shO M a 0 (rrf M a 0 fun r => vc n d 24 25 L (.inr (.inr r) :: S) M Q)) := nr rfl
set_option maxRecDepth 100000 in
theorem v24_25 (n d : Nat) (L : List (Option mL)) (S : List mV) (M : Mm) (Q : mQ) : vc (n + 1) d 24 25 L S M Q = (gI L 1 fun x => vc n d 24 26 L (.inl x :: S) M Q) := nr rfl
set_option maxRecDepth 100000 in
theorem v24_26 (n d : Nat) (L : List (Option mL)) (S : List mV) (M : Mm) (Q : mQ) : vc (n + 1) d 24 26 L S M Q = (vc n d 24 27 L (.inl 3 :: S) M Q) := nr rfl
set_option maxRecDepth 100000 in
theorem v24_27 (n d : Nat) (L : List (Option mL)) (S : List mV) (M : Mm) (Q : mQ) : vc (n + 1) d 24 27 L S M Q = (pAs 2 S fun as S => pA S fun a S => shO M a 3 (stk S ≤ 8 ∧ XC d 28 (.inr (some a) :: as) M (fun r M => ∃ x : Int32, r = some (.inl x) ∧ X d 24 30 L (.inl x :: S) M Q))) := nr rfl
set_option maxRecDepth 100000 in
theorem v24_30 (n d : Nat) (L : List (Option mL)) (S : List mV) (M : Mm) (Q : mQ) : vc (n + 1) d 24 30 L S M Q = (pI S fun x S => sL L 3 (some (.inl x)) fun L => vc n d 24 31 L S M Q) := nr rfl
set_option maxRecDepth 100000 in
theorem v24_31 (n d : Nat) (L : List (Option mL)) (S : List mV) (M : Mm) (Q : mQ) : vc (n + 1) d 24 31 L S M Q = (gI L 3 fun x => vc n d 24 32 L (.inl x :: S) M Q) := nr rfl
set_option maxRecDepth 100000 in
theorem v24_32 (n d : Nat) (L : List (Option mL)) (S : List mV) (M : Mm) (Q : mQ) : vc (n + 1) d 24 32 L S M Q = (vc n d 24 33 L (.inl 0 :: S) M Q) := nr rfl
set_option maxRecDepth 100000 in
theorem v24_33 (n d : Nat) (L : List (Option mL)) (S : List mV) (M : Mm) (Q : mQ) : vc (n + 1) d 24 33 L S M Q = (pI S fun y S => pI S fun x S => 0 < d ∧ stk S ≤ 8 ∧ vc n d 24 36 L (.inl (imax x y) :: S) M Q) := nr rfl
set_option maxRecDepth 100000 in
theorem v24_36 (n d : Nat) (L : List (Option mL)) (S : List mV) (M : Mm) (Q : mQ) : vc (n + 1) d 24 36 L S M Q = (pI S fun x S => S = [] ∧ (0 = 0 ∨ x = 0 ∨ x = 1) ∧ Q (some (.inl x)) M) := nr rfl
set_option maxRecDepth 100000 in
theorem v25_0 (n d : Nat) (L : List (Option mL)) (S : List mV) (M : Mm) (Q : mQ) : vc (n + 1) d 25 0 L S M Q = (gR L 0 fun x => vc n d 25 1 L (.inr (.inr x) :: S) M Q) := nr rfl
set_option maxRecDepth 100000 in
theorem v25_1 (n d : Nat) (L : List (Option mL)) (S : List mV) (M : Mm) (Q : mQ) : vc (n + 1) d 25 1 L S M Q = (pA S fun a S => shO M a 7 (vc n d 25 4 L (.inl (M.it a 1) :: S) M Q)) := nr rfl
set_option maxRecDepth 100000 in
theorem v25_4 (n d : Nat) (L : List (Option mL)) (S : List mV) (M : Mm) (Q : mQ) : vc (n + 1) d 25 4 L S M Q = (vc n d 25 5 L (.inl 1 :: S) M Q) := nr rfl
set_option maxRecDepth 100000 in
theorem v25_5 (n d : Nat) (L : List (Option mL)) (S : List mV) (M : Mm) (Q : mQ) : vc (n + 1) d 25 5 L S M Q = (pI S fun y S => pI S fun x S => vc n d 25 6 L (.inl (x - y) :: S) M Q) := nr rfl
set_option maxRecDepth 100000 in
theorem v25_6 (n d : Nat) (L : List (Option mL)) (S : List mV) (M : Mm) (Q : mQ) : vc (n + 1) d 25 6 L S M Q = (pI S fun x S => sL L 2 (some (.inl x)) fun L => X d 25 7 L S M Q) := nr rfl
set_option maxRecDepth 100000 in
theorem v25_7 (n d : Nat) (L : List (Option mL)) (S : List mV) (M : Mm) (Q : mQ) : vc (n + 1) d 25 7 L S M Q = (gI L 2 fun x => vc n d 25 8 L (.inl x :: S) M Q) := nr rfl
set_option maxRecDepth 100000 in
theorem v25_8 (n d : Nat) (L : List (Option mL)) (S : List mV) (M : Mm) (Q : mQ) : vc (n + 1) d 25 8 L S M Q = (pI S fun x S => (x < 0 → vc n d 25 37 L S M Q) ∧ (¬ (x < 0) → vc n d 25 11 L S M Q)) := nr rfl
set_option maxRecDepth 100000 in
theorem v25_11 (n d : Nat) (L : List (Option mL)) (S : List mV) (M : Mm) (Q : mQ) : vc (n + 1) d 25 11 L S M Q = (gR L 0 fun x => vc n d 25 12 L (.inr (.inr x) :: S) M Q) := nr rfl
set_option maxRecDepth 100000 in
theorem v25_12 (n d : Nat) (L : List (Option mL)) (S : List mV) (M : Mm) (Q : mQ) : vc (n + 1) d 25 12 L S M Q = (pA S fun a S => shO M a 7 (rrf M a 0 fun r => vc n d 25 15 L (.inr (.inr r) :: S) M Q)) := nr rfl
set_option maxRecDepth 100000 in
theorem v25_15 (n d : Nat) (L : List (Option mL)) (S : List mV) (M : Mm) (Q : mQ) : vc (n + 1) d 25 15 L S M Q = (gI L 2 fun x => vc n d 25 16 L (.inl x :: S) M Q) := nr rfl
set_option maxRecDepth 100000 in
theorem v25_16 (n d : Nat) (L : List (Option mL)) (S : List mV) (M : Mm) (Q : mQ) : vc (n + 1) d 25 16 L S M Q = (pI S fun i S => pA S fun a S => shA M a fun t k => rTyB t = true ∧ inB i k ∧ rrf M a i.toNatClampNeg fun r => vc n d 25 17 L (.inr (.inr r) :: S) M Q) := nr rfl
set_option maxRecDepth 100000 in
theorem v25_17 (n d : Nat) (L : List (Option mL)) (S : List mV) (M : Mm) (Q : mQ) : vc (n + 1) d 25 17 L S M Q = (pA S fun a S => shO M a 9 (vc n d 25 20 L (.inl (M.it a 3) :: S) M Q)) := nr rfl
set_option maxRecDepth 100000 in
theorem v25_20 (n d : Nat) (L : List (Option mL)) (S : List mV) (M : Mm) (Q : mQ) : vc (n + 1) d 25 20 L S M Q = (gI L 1 fun x => vc n d 25 21 L (.inl x :: S) M Q) := nr rfl
set_option maxRecDepth 100000 in
theorem v25_21 (n d : Nat) (L : List (Option mL)) (S : List mV) (M : Mm) (Q : mQ) : vc (n + 1) d 25 21 L S M Q = (pI S fun y S => pI S fun x S => (¬ x = y → vc n d 25 31 L S M Q) ∧ (¬ (¬ x = y) → vc n d 25 24 L S M Q)) := nr rfl
set_option maxRecDepth 100000 in
theorem v25_24 (n d : Nat) (L : List (Option mL)) (S : List mV) (M : Mm) (Q : mQ) : vc (n + 1) d 25 24 L S M Q = (gR L 0 fun x => vc n d 25 25 L (.inr (.inr x) :: S) M Q) := nr rfl
set_option maxRecDepth 100000 in
theorem v25_25 (n d : Nat) (L : List (Option mL)) (S : List mV) (M : Mm) (Q : mQ) : vc (n + 1) d 25 25 L S M Q = (pA S fun a S => shO M a 7 (rrf M a 0 fun r => vc n d 25 28 L (.inr (.inr r) :: S) M Q)) := nr rfl
set_option maxRecDepth 100000 in
theorem v25_28 (n d : Nat) (L : List (Option mL)) (S : List mV) (M : Mm) (Q : mQ) : vc (n + 1) d 25 28 L S M Q = (gI L 2 fun x => vc n d 25 29 L (.inl x :: S) M Q) := nr rfl
set_option maxRecDepth 100000 in
theorem v25_29 (n d : Nat) (L : List (Option mL)) (S : List mV) (M : Mm) (Q : mQ) : vc (n + 1) d 25 29 L S M Q = (pI S fun i S => pA S fun a S => shA M a fun t k => rTyB t = true ∧ inB i k ∧ rrf M a i.toNatClampNeg fun r => vc n d 25 30 L (.inr (.inr r) :: S) M Q) := nr rfl
set_option maxRecDepth 100000 in
theorem v25_30 (n d : Nat) (L : List (Option mL)) (S : List mV) (M : Mm) (Q : mQ) : vc (n + 1) d 25 30 L S M Q = (pR S fun r S => S = [] ∧ Q (some (.inr (.inr r))) M) := nr rfl
set_option maxRecDepth 100000 in
theorem v25_31 (n d : Nat) (L : List (Option mL)) (S : List mV) (M : Mm) (Q : mQ) : vc (n + 1) d 25 31 L S M Q = (gI L 2 fun x => sL L 2 (some (.inl (x + (-1)))) fun L => vc n d 25 34 L S M Q) := nr rfl
set_option maxRecDepth 100000 in
theorem v25_34 (n d : Nat) (L : List (Option mL)) (S : List mV) (M : Mm) (Q : mQ) : vc (n + 1) d 25 34 L S M Q = (X d 25 7 L S M Q) := nr rfl
set_option maxRecDepth 100000 in
theorem v25_37 (n d : Nat) (L : List (Option mL)) (S : List mV) (M : Mm) (Q : mQ) : vc (n + 1) d 25 37 L S M Q = (vc n d 25 38 L (.inr (.inr none) :: S) M Q) := nr rfl
set_option maxRecDepth 100000 in
theorem v25_38 (n d : Nat) (L : List (Option mL)) (S : List mV) (M : Mm) (Q : mQ) : vc (n + 1) d 25 38 L S M Q = (pR S fun r S => S = [] ∧ Q (some (.inr (.inr r))) M) := nr rfl
set_option maxRecDepth 100000 in
theorem v27_0 (n d : Nat) (L : List (Option mL)) (S : List mV) (M : Mm) (Q : mQ) : vc (n + 1) d 27 0 L S M Q = (gI L 1 fun x => vc n d 27 1 L (.inl x :: S) M Q) := nr rfl
set_option maxRecDepth 100000 in
theorem v27_1 (n d : Nat) (L : List (Option mL)) (S : List mV) (M : Mm) (Q : mQ) : vc (n + 1) d 27 1 L S M Q = (pI S fun x S => (x < 0 → vc n d 27 19 L S M Q) ∧ (¬ (x < 0) → vc n d 27 4 L S M Q)) := nr rfl
set_option maxRecDepth 100000 in
theorem v27_4 (n d : Nat) (L : List (Option mL)) (S : List mV) (M : Mm) (Q : mQ) : vc (n + 1) d 27 4 L S M Q = (gI L 1 fun x => vc n d 27 5 L (.inl x :: S) M Q) := nr rfl
set_option maxRecDepth 100000 in
theorem v27_5 (n d : Nat) (L : List (Option mL)) (S : List mV) (M : Mm) (Q : mQ) : vc (n + 1) d 27 5 L S M Q = (vc n d 27 7 L (.inl 16 :: S) M Q) := nr rfl
set_option maxRecDepth 100000 in
theorem v27_7 (n d : Nat) (L : List (Option mL)) (S : List mV) (M : Mm) (Q : mQ) : vc (n + 1) d 27 7 L S M Q = (pI S fun y S => pI S fun x S => (y ≤ x → vc n d 27 19 L S M Q) ∧ (¬ (y ≤ x) → vc n d 27 10 L S M Q)) := nr rfl
set_option maxRecDepth 100000 in
theorem v27_10 (n d : Nat) (L : List (Option mL)) (S : List mV) (M : Mm) (Q : mQ) : vc (n + 1) d 27 10 L S M Q = (gR L 0 fun x => vc n d 27 11 L (.inr (.inr x) :: S) M Q) := nr rfl
set_option maxRecDepth 100000 in
theorem v27_11 (n d : Nat) (L : List (Option mL)) (S : List mV) (M : Mm) (Q : mQ) : vc (n + 1) d 27 11 L S M Q = (pA S fun a S => shO M a 9 (rrf M a 1 fun r => vc n d 27 14 L (.inr (.inr r) :: S) M Q)) := nr rfl
set_option maxRecDepth 100000 in
theorem v27_14 (n d : Nat) (L : List (Option mL)) (S : List mV) (M : Mm) (Q : mQ) : vc (n + 1) d 27 14 L S M Q = (gI L 1 fun x => vc n d 27 15 L (.inl x :: S) M Q) := nr rfl
set_option maxRecDepth 100000 in
theorem v27_15 (n d : Nat) (L : List (Option mL)) (S : List mV) (M : Mm) (Q : mQ) : vc (n + 1) d 27 15 L S M Q = (pI S fun i S => pA S fun a S => shA M a fun t k => (t = 40 ∨ t = 41) ∧ inB i k ∧ vc n d 27 16 L (.inl (M.it a i.toNatClampNeg) :: S) M Q) := nr rfl
set_option maxRecDepth 100000 in
theorem v27_16 (n d : Nat) (L : List (Option mL)) (S : List mV) (M : Mm) (Q : mQ) : vc (n + 1) d 27 16 L S M Q = (vc n d 27 20 L S M Q) := nr rfl
set_option maxRecDepth 100000 in
theorem v27_19 (n d : Nat) (L : List (Option mL)) (S : List mV) (M : Mm) (Q : mQ) : vc (n + 1) d 27 19 L S M Q = (vc n d 27 20 L (.inl (-1) :: S) M Q) := nr rfl
set_option maxRecDepth 100000 in
theorem v27_20 (n d : Nat) (L : List (Option mL)) (S : List mV) (M : Mm) (Q : mQ) : vc (n + 1) d 27 20 L S M Q = (pI S fun x S => S = [] ∧ (0 = 0 ∨ x = 0 ∨ x = 1) ∧ Q (some (.inl x)) M) := nr rfl
set_option maxRecDepth 100000 in
theorem v28_0 (n d : Nat) (L : List (Option mL)) (S : List mV) (M : Mm) (Q : mQ) : vc (n + 1) d 28 0 L S M Q = (gI L 1 fun x => vc n d 28 1 L (.inl x :: S) M Q) := nr rfl
set_option maxRecDepth 100000 in
theorem v28_1 (n d : Nat) (L : List (Option mL)) (S : List mV) (M : Mm) (Q : mQ) : vc (n + 1) d 28 1 L S M Q = (pI S fun x S => (x < 0 → vc n d 28 21 L S M Q) ∧ (¬ (x < 0) → vc n d 28 4 L S M Q)) := nr rfl
set_option maxRecDepth 100000 in
theorem v28_4 (n d : Nat) (L : List (Option mL)) (S : List mV) (M : Mm) (Q : mQ) : vc (n + 1) d 28 4 L S M Q = (gI L 1 fun x => vc n d 28 5 L (.inl x :: S) M Q) := nr rfl
set_option maxRecDepth 100000 in
theorem v28_5 (n d : Nat) (L : List (Option mL)) (S : List mV) (M : Mm) (Q : mQ) : vc (n + 1) d 28 5 L S M Q = (vc n d 28 8 L (.inl 128 :: S) M Q) := nr rfl
set_option maxRecDepth 100000 in
theorem v28_8 (n d : Nat) (L : List (Option mL)) (S : List mV) (M : Mm) (Q : mQ) : vc (n + 1) d 28 8 L S M Q = (pI S fun y S => pI S fun x S => (y ≤ x → vc n d 28 21 L S M Q) ∧ (¬ (y ≤ x) → vc n d 28 11 L S M Q)) := nr rfl
set_option maxRecDepth 100000 in
theorem v28_11 (n d : Nat) (L : List (Option mL)) (S : List mV) (M : Mm) (Q : mQ) : vc (n + 1) d 28 11 L S M Q = (gI L 2 fun x => vc n d 28 12 L (.inl x :: S) M Q) := nr rfl
set_option maxRecDepth 100000 in
theorem v28_12 (n d : Nat) (L : List (Option mL)) (S : List mV) (M : Mm) (Q : mQ) : vc (n + 1) d 28 12 L S M Q = (pI S fun x S => (x < 0 → vc n d 28 21 L S M Q) ∧ (¬ (x < 0) → vc n d 28 15 L S M Q)) := nr rfl
set_option maxRecDepth 100000 in
theorem v28_15 (n d : Nat) (L : List (Option mL)) (S : List mV) (M : Mm) (Q : mQ) : vc (n + 1) d 28 15 L S M Q = (gI L 2 fun x => vc n d 28 16 L (.inl x :: S) M Q) := nr rfl
set_option maxRecDepth 100000 in
theorem v28_16 (n d : Nat) (L : List (Option mL)) (S : List mV) (M : Mm) (Q : mQ) : vc (n + 1) d 28 16 L S M Q = (vc n d 28 18 L (.inl 16 :: S) M Q) := nr rfl
set_option maxRecDepth 100000 in
theorem v28_18 (n d : Nat) (L : List (Option mL)) (S : List mV) (M : Mm) (Q : mQ) : vc (n + 1) d 28 18 L S M Q = (pI S fun y S => pI S fun x S => (x < y → vc n d 28 23 L S M Q) ∧ (¬ (x < y) → vc n d 28 21 L S M Q)) := nr rfl
set_option maxRecDepth 100000 in
theorem v28_21 (n d : Nat) (L : List (Option mL)) (S : List mV) (M : Mm) (Q : mQ) : vc (n + 1) d 28 21 L S M Q = (vc n d 28 22 L (.inl (-1) :: S) M Q) := nr rfl
set_option maxRecDepth 100000 in
theorem v28_22 (n d : Nat) (L : List (Option mL)) (S : List mV) (M : Mm) (Q : mQ) : vc (n + 1) d 28 22 L S M Q = (pI S fun x S => S = [] ∧ (0 = 0 ∨ x = 0 ∨ x = 1) ∧ Q (some (.inl x)) M) := nr rfl
set_option maxRecDepth 100000 in
theorem v28_23 (n d : Nat) (L : List (Option mL)) (S : List mV) (M : Mm) (Q : mQ) : vc (n + 1) d 28 23 L S M Q = (gR L 0 fun x => vc n d 28 24 L (.inr (.inr x) :: S) M Q) := nr rfl
set_option maxRecDepth 100000 in
theorem v28_24 (n d : Nat) (L : List (Option mL)) (S : List mV) (M : Mm) (Q : mQ) : vc (n + 1) d 28 24 L S M Q = (pA S fun a S => shO M a 3 (rrf M a 0 fun r => vc n d 28 27 L (.inr (.inr r) :: S) M Q)) := nr rfl
set_option maxRecDepth 100000 in
theorem v28_27 (n d : Nat) (L : List (Option mL)) (S : List mV) (M : Mm) (Q : mQ) : vc (n + 1) d 28 27 L S M Q = (gI L 1 fun x => vc n d 28 28 L (.inl x :: S) M Q) := nr rfl
set_option maxRecDepth 100000 in
theorem v28_28 (n d : Nat) (L : List (Option mL)) (S : List mV) (M : Mm) (Q : mQ) : vc (n + 1) d 28 28 L S M Q = (vc n d 28 30 L (.inl 16 :: S) M Q) := nr rfl
set_option maxRecDepth 100000 in
theorem v28_30 (n d : Nat) (L : List (Option mL)) (S : List mV) (M : Mm) (Q : mQ) : vc (n + 1) d 28 30 L S M Q = (pI S fun y S => pI S fun x S => vc n d 28 31 L (.inl (x * y) :: S) M Q) := nr rfl
set_option maxRecDepth 100000 in
theorem v28_31 (n d : Nat) (L : List (Option mL)) (S : List mV) (M : Mm) (Q : mQ) : vc (n + 1) d 28 31 L S M Q = (gI L 2 fun x => vc n d 28 32 L (.inl x :: S) M Q) := nr rfl
set_option maxRecDepth 100000 in
theorem v28_32 (n d : Nat) (L : List (Option mL)) (S : List mV) (M : Mm) (Q : mQ) : vc (n + 1) d 28 32 L S M Q = (pI S fun y S => pI S fun x S => vc n d 28 33 L (.inl (x + y) :: S) M Q) := nr rfl
set_option maxRecDepth 100000 in
theorem v28_33 (n d : Nat) (L : List (Option mL)) (S : List mV) (M : Mm) (Q : mQ) : vc (n + 1) d 28 33 L S M Q = (pI S fun i S => pA S fun a S => shA M a fun t k => (t = 40 ∨ t = 41) ∧ inB i k ∧ vc n d 28 34 L (.inl (M.it a i.toNatClampNeg) :: S) M Q) := nr rfl
set_option maxRecDepth 100000 in
theorem v28_34 (n d : Nat) (L : List (Option mL)) (S : List mV) (M : Mm) (Q : mQ) : vc (n + 1) d 28 34 L S M Q = (pI S fun x S => S = [] ∧ (0 = 0 ∨ x = 0 ∨ x = 1) ∧ Q (some (.inl x)) M) := nr rfl
set_option maxRecDepth 100000 in
theorem v29_0 (n d : Nat) (L : List (Option mL)) (S : List mV) (M : Mm) (Q : mQ) : vc (n + 1) d 29 0 L S M Q = (gI L 0 fun x => vc n d 29 1 L (.inl x :: S) M Q) := nr rfl
set_option maxRecDepth 100000 in
theorem v29_1 (n d : Nat) (L : List (Option mL)) (S : List mV) (M : Mm) (Q : mQ) : vc (n + 1) d 29 1 L S M Q = (vc n d 29 3 L (.inl 8 :: S) M Q) := nr rfl
set_option maxRecDepth 100000 in
theorem v29_3 (n d : Nat) (L : List (Option mL)) (S : List mV) (M : Mm) (Q : mQ) : vc (n + 1) d 29 3 L S M Q = (pI S fun y S => pI S fun x S => vc n d 29 4 L (.inl (x + y) :: S) M Q) := nr rfl
set_option maxRecDepth 100000 in
theorem v29_4 (n d : Nat) (L : List (Option mL)) (S : List mV) (M : Mm) (Q : mQ) : vc (n + 1) d 29 4 L S M Q = (vc n d 29 6 L (.inl 16 :: S) M Q) := nr rfl
set_option maxRecDepth 100000 in
theorem v29_6 (n d : Nat) (L : List (Option mL)) (S : List mV) (M : Mm) (Q : mQ) : vc (n + 1) d 29 6 L S M Q = (pI S fun y S => pI S fun x S => vc n d 29 7 L (.inl (x + y) :: S) M Q) := nr rfl
set_option maxRecDepth 100000 in
theorem v29_7 (n d : Nat) (L : List (Option mL)) (S : List mV) (M : Mm) (Q : mQ) : vc (n + 1) d 29 7 L S M Q = (vc n d 29 8 L (.inl 1 :: S) M Q) := nr rfl
set_option maxRecDepth 100000 in
theorem v29_8 (n d : Nat) (L : List (Option mL)) (S : List mV) (M : Mm) (Q : mQ) : vc (n + 1) d 29 8 L S M Q = (pI S fun y S => pI S fun x S => vc n d 29 9 L (.inl (x - y) :: S) M Q) := nr rfl
set_option maxRecDepth 100000 in
theorem v29_9 (n d : Nat) (L : List (Option mL)) (S : List mV) (M : Mm) (Q : mQ) : vc (n + 1) d 29 9 L S M Q = (vc n d 29 11 L (.inl 16 :: S) M Q) := nr rfl
set_option maxRecDepth 100000 in
theorem v29_11 (n d : Nat) (L : List (Option mL)) (S : List mV) (M : Mm) (Q : mQ) : vc (n + 1) d 29 11 L S M Q = (pI S fun y S => pI S fun x S => ¬ y = 0 ∧ vc n d 29 12 L (.inl (x / y) :: S) M Q) := nr rfl
set_option maxRecDepth 100000 in
theorem v29_12 (n d : Nat) (L : List (Option mL)) (S : List mV) (M : Mm) (Q : mQ) : vc (n + 1) d 29 12 L S M Q = (pI S fun x S => S = [] ∧ (0 = 0 ∨ x = 0 ∨ x = 1) ∧ Q (some (.inl x)) M) := nr rfl
set_option maxRecDepth 100000 in
theorem v30_0 (n d : Nat) (L : List (Option mL)) (S : List mV) (M : Mm) (Q : mQ) : vc (n + 1) d 30 0 L S M Q = (vc n d 30 1 L (.inl 0 :: S) M Q) := nr rfl
set_option maxRecDepth 100000 in
theorem v30_1 (n d : Nat) (L : List (Option mL)) (S : List mV) (M : Mm) (Q : mQ) : vc (n + 1) d 30 1 L S M Q = (pI S fun x S => sL L 2 (some (.inl x)) fun L => X d 30 2 L S M Q) := nr rfl
set_option maxRecDepth 100000 in
theorem v30_2 (n d : Nat) (L : List (Option mL)) (S : List mV) (M : Mm) (Q : mQ) : vc (n + 1) d 30 2 L S M Q = (gI L 2 fun x => vc n d 30 3 L (.inl x :: S) M Q) := nr rfl
set_option maxRecDepth 100000 in
theorem v30_3 (n d : Nat) (L : List (Option mL)) (S : List mV) (M : Mm) (Q : mQ) : vc (n + 1) d 30 3 L S M Q = (gR L 0 fun x => vc n d 30 4 L (.inr (.inr x) :: S) M Q) := nr rfl
set_option maxRecDepth 100000 in
theorem v30_4 (n d : Nat) (L : List (Option mL)) (S : List mV) (M : Mm) (Q : mQ) : vc (n + 1) d 30 4 L S M Q = (pA S fun a S => shO M a 2 (vc n d 30 7 L (.inl (M.it a 1) :: S) M Q)) := nr rfl
set_option maxRecDepth 100000 in
theorem v30_7 (n d : Nat) (L : List (Option mL)) (S : List mV) (M : Mm) (Q : mQ) : vc (n + 1) d 30 7 L S M Q = (pI S fun y S => pI S fun x S => (y ≤ x → X d 30 26 L S M Q) ∧ (¬ (y ≤ x) → vc n d 30 10 L S M Q)) := nr rfl
set_option maxRecDepth 100000 in
theorem v30_10 (n d : Nat) (L : List (Option mL)) (S : List mV) (M : Mm) (Q : mQ) : vc (n + 1) d 30 10 L S M Q = (gR L 0 fun x => vc n d 30 11 L (.inr (.inr x) :: S) M Q) := nr rfl
set_option maxRecDepth 100000 in
theorem v30_11 (n d : Nat) (L : List (Option mL)) (S : List mV) (M : Mm) (Q : mQ) : vc (n + 1) d 30 11 L S M Q = (pA S fun a S => shO M a 2 (rrf M a 0 fun r => vc n d 30 14 L (.inr (.inr r) :: S) M Q)) := nr rfl
set_option maxRecDepth 100000 in
theorem v30_14 (n d : Nat) (L : List (Option mL)) (S : List mV) (M : Mm) (Q : mQ) : vc (n + 1) d 30 14 L S M Q = (gI L 2 fun x => vc n d 30 15 L (.inl x :: S) M Q) := nr rfl
set_option maxRecDepth 100000 in
theorem v30_15 (n d : Nat) (L : List (Option mL)) (S : List mV) (M : Mm) (Q : mQ) : vc (n + 1) d 30 15 L S M Q = (pI S fun i S => pA S fun a S => shA M a fun t k => (t = 40 ∨ t = 41) ∧ inB i k ∧ vc n d 30 16 L (.inl (M.it a i.toNatClampNeg) :: S) M Q) := nr rfl
set_option maxRecDepth 100000 in
theorem v30_16 (n d : Nat) (L : List (Option mL)) (S : List mV) (M : Mm) (Q : mQ) : vc (n + 1) d 30 16 L S M Q = (gI L 1 fun x => vc n d 30 17 L (.inl x :: S) M Q) := nr rfl
set_option maxRecDepth 100000 in
theorem v30_17 (n d : Nat) (L : List (Option mL)) (S : List mV) (M : Mm) (Q : mQ) : vc (n + 1) d 30 17 L S M Q = (pI S fun y S => pI S fun x S => (x = y → X d 30 26 L S M Q) ∧ (¬ (x = y) → vc n d 30 20 L S M Q)) := nr rfl
set_option maxRecDepth 100000 in
theorem v30_20 (n d : Nat) (L : List (Option mL)) (S : List mV) (M : Mm) (Q : mQ) : vc (n + 1) d 30 20 L S M Q = (gI L 2 fun x => sL L 2 (some (.inl (x + 1))) fun L => vc n d 30 23 L S M Q) := nr rfl
set_option maxRecDepth 100000 in
theorem v30_23 (n d : Nat) (L : List (Option mL)) (S : List mV) (M : Mm) (Q : mQ) : vc (n + 1) d 30 23 L S M Q = (X d 30 2 L S M Q) := nr rfl
set_option maxRecDepth 100000 in
theorem v30_26 (n d : Nat) (L : List (Option mL)) (S : List mV) (M : Mm) (Q : mQ) : vc (n + 1) d 30 26 L S M Q = (gI L 2 fun x => vc n d 30 27 L (.inl x :: S) M Q) := nr rfl
set_option maxRecDepth 100000 in
theorem v30_27 (n d : Nat) (L : List (Option mL)) (S : List mV) (M : Mm) (Q : mQ) : vc (n + 1) d 30 27 L S M Q = (gR L 0 fun x => vc n d 30 28 L (.inr (.inr x) :: S) M Q) := nr rfl
set_option maxRecDepth 100000 in
theorem v30_28 (n d : Nat) (L : List (Option mL)) (S : List mV) (M : Mm) (Q : mQ) : vc (n + 1) d 30 28 L S M Q = (pA S fun a S => shO M a 2 (vc n d 30 31 L (.inl (M.it a 1) :: S) M Q)) := nr rfl
set_option maxRecDepth 100000 in
theorem v30_31 (n d : Nat) (L : List (Option mL)) (S : List mV) (M : Mm) (Q : mQ) : vc (n + 1) d 30 31 L S M Q = (pI S fun y S => pI S fun x S => (¬ x = y → vc n d 30 68 L S M Q) ∧ (¬ (¬ x = y) → vc n d 30 34 L S M Q)) := nr rfl
set_option maxRecDepth 100000 in
theorem v30_34 (n d : Nat) (L : List (Option mL)) (S : List mV) (M : Mm) (Q : mQ) : vc (n + 1) d 30 34 L S M Q = (gR L 0 fun x => vc n d 30 35 L (.inr (.inr x) :: S) M Q) := nr rfl
set_option maxRecDepth 100000 in
theorem v30_35 (n d : Nat) (L : List (Option mL)) (S : List mV) (M : Mm) (Q : mQ) : vc (n + 1) d 30 35 L S M Q = (pC S fun v S => vc n d 30 36 L (v :: v :: S) M Q) := nr rfl
set_option maxRecDepth 100000 in
theorem v30_36 (n d : Nat) (L : List (Option mL)) (S : List mV) (M : Mm) (Q : mQ) : vc (n + 1) d 30 36 L S M Q = (pA S fun a S => shO M a 2 (vc n d 30 39 L (.inl (M.it a 2) :: S) M Q)) := nr rfl
set_option maxRecDepth 100000 in
theorem v30_39 (n d : Nat) (L : List (Option mL)) (S : List mV) (M : Mm) (Q : mQ) : vc (n + 1) d 30 39 L S M Q = (vc n d 30 40 L (.inl 1 :: S) M Q) := nr rfl
set_option maxRecDepth 100000 in
theorem v30_40 (n d : Nat) (L : List (Option mL)) (S : List mV) (M : Mm) (Q : mQ) : vc (n + 1) d 30 40 L S M Q = (pI S fun y S => pI S fun x S => vc n d 30 41 L (.inl (x + y) :: S) M Q) := nr rfl
set_option maxRecDepth 100000 in
theorem v30_41 (n d : Nat) (L : List (Option mL)) (S : List mV) (M : Mm) (Q : mQ) : vc (n + 1) d 30 41 L S M Q = (pI S fun x S => pA S fun a S => shO M a 2 (vc n d 30 44 L S (M.si a 2 x) Q)) := nr rfl
set_option maxRecDepth 100000 in
theorem v30_44 (n d : Nat) (L : List (Option mL)) (S : List mV) (M : Mm) (Q : mQ) : vc (n + 1) d 30 44 L S M Q = (gR L 0 fun x => vc n d 30 45 L (.inr (.inr x) :: S) M Q) := nr rfl
set_option maxRecDepth 100000 in
theorem v30_45 (n d : Nat) (L : List (Option mL)) (S : List mV) (M : Mm) (Q : mQ) : vc (n + 1) d 30 45 L S M Q = (pA S fun a S => shO M a 2 (vc n d 30 48 L (.inl (M.it a 1) :: S) M Q)) := nr rfl
set_option maxRecDepth 100000 in
theorem v30_48 (n d : Nat) (L : List (Option mL)) (S : List mV) (M : Mm) (Q : mQ) : vc (n + 1) d 30 48 L S M Q = (vc n d 30 50 L (.inl 6 :: S) M Q) := nr rfl
set_option maxRecDepth 100000 in
theorem v30_50 (n d : Nat) (L : List (Option mL)) (S : List mV) (M : Mm) (Q : mQ) : vc (n + 1) d 30 50 L S M Q = (pI S fun y S => pI S fun x S => (y ≤ x → vc n d 30 66 L S M Q) ∧ (¬ (y ≤ x) → vc n d 30 53 L S M Q)) := nr rfl
set_option maxRecDepth 100000 in
theorem v30_53 (n d : Nat) (L : List (Option mL)) (S : List mV) (M : Mm) (Q : mQ) : vc (n + 1) d 30 53 L S M Q = (gR L 0 fun x => vc n d 30 54 L (.inr (.inr x) :: S) M Q) := nr rfl
set_option maxRecDepth 100000 in
theorem v30_54 (n d : Nat) (L : List (Option mL)) (S : List mV) (M : Mm) (Q : mQ) : vc (n + 1) d 30 54 L S M Q = (pC S fun v S => vc n d 30 55 L (v :: v :: S) M Q) := nr rfl
set_option maxRecDepth 100000 in
theorem v30_55 (n d : Nat) (L : List (Option mL)) (S : List mV) (M : Mm) (Q : mQ) : vc (n + 1) d 30 55 L S M Q = (pA S fun a S => shO M a 2 (vc n d 30 58 L (.inl (M.it a 1) :: S) M Q)) := nr rfl
set_option maxRecDepth 100000 in
theorem v30_58 (n d : Nat) (L : List (Option mL)) (S : List mV) (M : Mm) (Q : mQ) : vc (n + 1) d 30 58 L S M Q = (vc n d 30 59 L (.inl 1 :: S) M Q) := nr rfl
set_option maxRecDepth 100000 in
theorem v30_59 (n d : Nat) (L : List (Option mL)) (S : List mV) (M : Mm) (Q : mQ) : vc (n + 1) d 30 59 L S M Q = (pI S fun y S => pI S fun x S => vc n d 30 60 L (.inl (x + y) :: S) M Q) := nr rfl
set_option maxRecDepth 100000 in
theorem v30_60 (n d : Nat) (L : List (Option mL)) (S : List mV) (M : Mm) (Q : mQ) : vc (n + 1) d 30 60 L S M Q = (pI S fun x S => pA S fun a S => shO M a 2 (vc n d 30 63 L S (M.si a 1 x) Q)) := nr rfl
set_option maxRecDepth 100000 in
theorem v30_63 (n d : Nat) (L : List (Option mL)) (S : List mV) (M : Mm) (Q : mQ) : vc (n + 1) d 30 63 L S M Q = (vc n d 30 68 L S M Q) := nr rfl
set_option maxRecDepth 100000 in
theorem v30_66 (n d : Nat) (L : List (Option mL)) (S : List mV) (M : Mm) (Q : mQ) : vc (n + 1) d 30 66 L S M Q = (vc n d 30 67 L (.inl 5 :: S) M Q) := nr rfl
set_option maxRecDepth 100000 in
theorem v30_67 (n d : Nat) (L : List (Option mL)) (S : List mV) (M : Mm) (Q : mQ) : vc (n + 1) d 30 67 L S M Q = (pI S fun x S => sL L 2 (some (.inl x)) fun L => vc n d 30 68 L S M Q) := nr rfl
set_option maxRecDepth 100000 in
theorem v30_68 (n d : Nat) (L : List (Option mL)) (S : List mV) (M : Mm) (Q : mQ) : vc (n + 1) d 30 68 L S M Q = (gI L 2 fun x => vc n d 30 69 L (.inl x :: S) M Q) := nr rfl
set_option maxRecDepth 100000 in
theorem v30_69 (n d : Nat) (L : List (Option mL)) (S : List mV) (M : Mm) (Q : mQ) : vc (n + 1) d 30 69 L S M Q = (pI S fun x S => sL L 3 (some (.inl x)) fun L => X d 30 70 L S M Q) := nr rfl
set_option maxRecDepth 100000 in
theorem v30_70 (n d : Nat) (L : List (Option mL)) (S : List mV) (M : Mm) (Q : mQ) : vc (n + 1) d 30 70 L S M Q = (gI L 3 fun x => vc n d 30 71 L (.inl x :: S) M Q) := nr rfl
set_option maxRecDepth 100000 in
theorem v30_71 (n d : Nat) (L : List (Option mL)) (S : List mV) (M : Mm) (Q : mQ) : vc (n + 1) d 30 71 L S M Q = (pI S fun x S => (x ≤ 0 → vc n d 30 94 L S M Q) ∧ (¬ (x ≤ 0) → vc n d 30 74 L S M Q)) := nr rfl
set_option maxRecDepth 100000 in
theorem v30_74 (n d : Nat) (L : List (Option mL)) (S : List mV) (M : Mm) (Q : mQ) : vc (n + 1) d 30 74 L S M Q = (gR L 0 fun x => vc n d 30 75 L (.inr (.inr x) :: S) M Q) := nr rfl
set_option maxRecDepth 100000 in
theorem v30_75 (n d : Nat) (L : List (Option mL)) (S : List mV) (M : Mm) (Q : mQ) : vc (n + 1) d 30 75 L S M Q = (pA S fun a S => shO M a 2 (rrf M a 0 fun r => vc n d 30 78 L (.inr (.inr r) :: S) M Q)) := nr rfl
set_option maxRecDepth 100000 in
theorem v30_78 (n d : Nat) (L : List (Option mL)) (S : List mV) (M : Mm) (Q : mQ) : vc (n + 1) d 30 78 L S M Q = (gI L 3 fun x => vc n d 30 79 L (.inl x :: S) M Q) := nr rfl
set_option maxRecDepth 100000 in
theorem v30_79 (n d : Nat) (L : List (Option mL)) (S : List mV) (M : Mm) (Q : mQ) : vc (n + 1) d 30 79 L S M Q = (gR L 0 fun x => vc n d 30 80 L (.inr (.inr x) :: S) M Q) := nr rfl
set_option maxRecDepth 100000 in
theorem v30_80 (n d : Nat) (L : List (Option mL)) (S : List mV) (M : Mm) (Q : mQ) : vc (n + 1) d 30 80 L S M Q = (pA S fun a S => shO M a 2 (rrf M a 0 fun r => vc n d 30 83 L (.inr (.inr r) :: S) M Q)) := nr rfl
set_option maxRecDepth 100000 in
theorem v30_83 (n d : Nat) (L : List (Option mL)) (S : List mV) (M : Mm) (Q : mQ) : vc (n + 1) d 30 83 L S M Q = (gI L 3 fun x => vc n d 30 84 L (.inl x :: S) M Q) := nr rfl
set_option maxRecDepth 100000 in
theorem v30_84 (n d : Nat) (L : List (Option mL)) (S : List mV) (M : Mm) (Q : mQ) : vc (n + 1) d 30 84 L S M Q = (vc n d 30 85 L (.inl 1 :: S) M Q) := nr rfl
set_option maxRecDepth 100000 in
theorem v30_85 (n d : Nat) (L : List (Option mL)) (S : List mV) (M : Mm) (Q : mQ) : vc (n + 1) d 30 85 L S M Q = (pI S fun y S => pI S fun x S => vc n d 30 86 L (.inl (x - y) :: S) M Q) := nr rfl
set_option maxRecDepth 100000 in
theorem v30_86 (n d : Nat) (L : List (Option mL)) (S : List mV) (M : Mm) (Q : mQ) : vc (n + 1) d 30 86 L S M Q = (pI S fun i S => pA S fun a S => shA M a fun t k => (t = 40 ∨ t = 41) ∧ inB i k ∧ vc n d 30 87 L (.inl (M.it a i.toNatClampNeg) :: S) M Q) := nr rfl
set_option maxRecDepth 100000 in
theorem v30_87 (n d : Nat) (L : List (Option mL)) (S : List mV) (M : Mm) (Q : mQ) : vc (n + 1) d 30 87 L S M Q = (pI S fun x S => pI S fun i S => pA S fun a S => shA M a fun t k => t = 41 ∧ inB i k ∧ vc n d 30 88 L S (M.si a i.toNatClampNeg x) Q) := nr rfl
set_option maxRecDepth 100000 in
theorem v30_88 (n d : Nat) (L : List (Option mL)) (S : List mV) (M : Mm) (Q : mQ) : vc (n + 1) d 30 88 L S M Q = (gI L 3 fun x => sL L 3 (some (.inl (x + (-1)))) fun L => vc n d 30 91 L S M Q) := nr rfl
set_option maxRecDepth 100000 in
theorem v30_91 (n d : Nat) (L : List (Option mL)) (S : List mV) (M : Mm) (Q : mQ) : vc (n + 1) d 30 91 L S M Q = (X d 30 70 L S M Q) := nr rfl
set_option maxRecDepth 100000 in
theorem v30_94 (n d : Nat) (L : List (Option mL)) (S : List mV) (M : Mm) (Q : mQ) : vc (n + 1) d 30 94 L S M Q = (gR L 0 fun x => vc n d 30 95 L (.inr (.inr x) :: S) M Q) := nr rfl
set_option maxRecDepth 100000 in
theorem v30_95 (n d : Nat) (L : List (Option mL)) (S : List mV) (M : Mm) (Q : mQ) : vc (n + 1) d 30 95 L S M Q = (pA S fun a S => shO M a 2 (rrf M a 0 fun r => vc n d 30 98 L (.inr (.inr r) :: S) M Q)) := nr rfl
set_option maxRecDepth 100000 in
theorem v30_98 (n d : Nat) (L : List (Option mL)) (S : List mV) (M : Mm) (Q : mQ) : vc (n + 1) d 30 98 L S M Q = (vc n d 30 99 L (.inl 0 :: S) M Q) := nr rfl
set_option maxRecDepth 100000 in
theorem v30_99 (n d : Nat) (L : List (Option mL)) (S : List mV) (M : Mm) (Q : mQ) : vc (n + 1) d 30 99 L S M Q = (gI L 1 fun x => vc n d 30 100 L (.inl x :: S) M Q) := nr rfl
set_option maxRecDepth 100000 in
theorem v30_100 (n d : Nat) (L : List (Option mL)) (S : List mV) (M : Mm) (Q : mQ) : vc (n + 1) d 30 100 L S M Q = (pI S fun x S => pI S fun i S => pA S fun a S => shA M a fun t k => t = 41 ∧ inB i k ∧ vc n d 30 101 L S (M.si a i.toNatClampNeg x) Q) := nr rfl
set_option maxRecDepth 100000 in
theorem v30_101 (n d : Nat) (L : List (Option mL)) (S : List mV) (M : Mm) (Q : mQ) : vc (n + 1) d 30 101 L S M Q = (S = [] ∧ Q none M) := nr rfl
set_option maxRecDepth 100000 in
theorem v31_0 (n d : Nat) (L : List (Option mL)) (S : List mV) (M : Mm) (Q : mQ) : vc (n + 1) d 31 0 L S M Q = (gR L 2 fun x => vc n d 31 1 L (.inr (.inr x) :: S) M Q) := nr rfl
set_option maxRecDepth 100000 in
theorem v31_1 (n d : Nat) (L : List (Option mL)) (S : List mV) (M : Mm) (Q : mQ) : vc (n + 1) d 31 1 L S M Q = (pAs 0 S fun as S => pA S fun a S => shO M a 1 (stk S ≤ 8 ∧ XC d 32 (.inr (some a) :: as) M (fun r M => r = none ∧ X d 31 4 L S M Q))) := nr rfl
set_option maxRecDepth 100000 in
theorem v31_4 (n d : Nat) (L : List (Option mL)) (S : List mV) (M : Mm) (Q : mQ) : vc (n + 1) d 31 4 L S M Q = (vc n d 31 6 L (.inl 6 :: S) M Q) := nr rfl
set_option maxRecDepth 100000 in
theorem v31_6 (n d : Nat) (L : List (Option mL)) (S : List mV) (M : Mm) (Q : mQ) : vc (n + 1) d 31 6 L S M Q = (gR L 0 fun x => vc n d 31 7 L (.inr (.inr x) :: S) M Q) := nr rfl
set_option maxRecDepth 100000 in
theorem v31_7 (n d : Nat) (L : List (Option mL)) (S : List mV) (M : Mm) (Q : mQ) : vc (n + 1) d 31 7 L S M Q = (gI L 1 fun x => vc n d 31 8 L (.inl x :: S) M Q) := nr rfl
set_option maxRecDepth 100000 in
theorem v31_8 (n d : Nat) (L : List (Option mL)) (S : List mV) (M : Mm) (Q : mQ) : vc (n + 1) d 31 8 L S M Q = (pAs 1 S fun as S => pA S fun a S => shO M a 0 (stk S ≤ 8 ∧ XC d 24 (.inr (some a) :: as) M (fun r M => ∃ x : Int32, r = some (.inl x) ∧ X d 31 11 L (.inl x :: S) M Q))) := nr rfl
set_option maxRecDepth 100000 in
theorem v31_11 (n d : Nat) (L : List (Option mL)) (S : List mV) (M : Mm) (Q : mQ) : vc (n + 1) d 31 11 L S M Q = (pI S fun y S => pI S fun x S => vc n d 31 12 L (.inl (x + y) :: S) M Q) := nr rfl
set_option maxRecDepth 100000 in
theorem v31_12 (n d : Nat) (L : List (Option mL)) (S : List mV) (M : Mm) (Q : mQ) : vc (n + 1) d 31 12 L S M Q = (pI S fun x S => sL L 3 (some (.inl x)) fun L => vc n d 31 13 L S M Q) := nr rfl
set_option maxRecDepth 100000 in
theorem v31_13 (n d : Nat) (L : List (Option mL)) (S : List mV) (M : Mm) (Q : mQ) : vc (n + 1) d 31 13 L S M Q = (vc n d 31 14 L (.inl 0 :: S) M Q) := nr rfl
set_option maxRecDepth 100000 in
theorem v31_14 (n d : Nat) (L : List (Option mL)) (S : List mV) (M : Mm) (Q : mQ) : vc (n + 1) d 31 14 L S M Q = (pI S fun x S => sL L 4 (some (.inl x)) fun L => X d 31 16 L S M Q) := nr rfl
set_option maxRecDepth 100000 in
theorem v31_16 (n d : Nat) (L : List (Option mL)) (S : List mV) (M : Mm) (Q : mQ) : vc (n + 1) d 31 16 L S M Q = (gI L 4 fun x => vc n d 31 18 L (.inl x :: S) M Q) := nr rfl
set_option maxRecDepth 100000 in
theorem v31_18 (n d : Nat) (L : List (Option mL)) (S : List mV) (M : Mm) (Q : mQ) : vc (n + 1) d 31 18 L S M Q = (vc n d 31 20 L (.inl 16 :: S) M Q) := nr rfl
set_option maxRecDepth 100000 in
theorem v31_20 (n d : Nat) (L : List (Option mL)) (S : List mV) (M : Mm) (Q : mQ) : vc (n + 1) d 31 20 L S M Q = (pI S fun y S => pI S fun x S => vc n d 31 21 L (.inl (x * y) :: S) M Q) := nr rfl
set_option maxRecDepth 100000 in
theorem v31_21 (n d : Nat) (L : List (Option mL)) (S : List mV) (M : Mm) (Q : mQ) : vc (n + 1) d 31 21 L S M Q = (gI L 3 fun x => vc n d 31 22 L (.inl x :: S) M Q) := nr rfl
set_option maxRecDepth 100000 in
theorem v31_22 (n d : Nat) (L : List (Option mL)) (S : List mV) (M : Mm) (Q : mQ) : vc (n + 1) d 31 22 L S M Q = (pI S fun y S => pI S fun x S => (y ≤ x → vc n d 31 115 L S M Q) ∧ (¬ (y ≤ x) → vc n d 31 25 L S M Q)) := nr rfl
set_option maxRecDepth 100000 in
theorem v31_25 (n d : Nat) (L : List (Option mL)) (S : List mV) (M : Mm) (Q : mQ) : vc (n + 1) d 31 25 L S M Q = (gR L 0 fun x => vc n d 31 26 L (.inr (.inr x) :: S) M Q) := nr rfl
set_option maxRecDepth 100000 in
theorem v31_26 (n d : Nat) (L : List (Option mL)) (S : List mV) (M : Mm) (Q : mQ) : vc (n + 1) d 31 26 L S M Q = (pA S fun a S => shO M a 0 (rrf M a 1 fun r => vc n d 31 29 L (.inr (.inr r) :: S) M Q)) := nr rfl
set_option maxRecDepth 100000 in
theorem v31_29 (n d : Nat) (L : List (Option mL)) (S : List mV) (M : Mm) (Q : mQ) : vc (n + 1) d 31 29 L S M Q = (gI L 1 fun x => vc n d 31 30 L (.inl x :: S) M Q) := nr rfl
set_option maxRecDepth 100000 in
theorem v31_30 (n d : Nat) (L : List (Option mL)) (S : List mV) (M : Mm) (Q : mQ) : vc (n + 1) d 31 30 L S M Q = (gI L 4 fun x => vc n d 31 32 L (.inl x :: S) M Q) := nr rfl
set_option maxRecDepth 100000 in
theorem v31_32 (n d : Nat) (L : List (Option mL)) (S : List mV) (M : Mm) (Q : mQ) : vc (n + 1) d 31 32 L S M Q = (pI S fun y S => pI S fun x S => vc n d 31 33 L (.inl (x + y) :: S) M Q) := nr rfl
set_option maxRecDepth 100000 in
theorem v31_33 (n d : Nat) (L : List (Option mL)) (S : List mV) (M : Mm) (Q : mQ) : vc (n + 1) d 31 33 L S M Q = (pAs 1 S fun as S => pA S fun a S => shO M a 7 (stk S ≤ 8 ∧ XC d 25 (.inr (some a) :: as) M (fun r M => ∃ x : Option Nat, r = some (.inr (.inr x)) ∧ X d 31 36 L (.inr (.inr x) :: S) M Q))) := nr rfl
set_option maxRecDepth 100000 in
theorem v31_36 (n d : Nat) (L : List (Option mL)) (S : List mV) (M : Mm) (Q : mQ) : vc (n + 1) d 31 36 L S M Q = (pR S fun x S => sL L 5 (some (.inr x)) fun L => vc n d 31 38 L S M Q) := nr rfl
set_option maxRecDepth 100000 in
theorem v31_38 (n d : Nat) (L : List (Option mL)) (S : List mV) (M : Mm) (Q : mQ) : vc (n + 1) d 31 38 L S M Q = (vc n d 31 39 L (.inl 0 :: S) M Q) := nr rfl
set_option maxRecDepth 100000 in
theorem v31_39 (n d : Nat) (L : List (Option mL)) (S : List mV) (M : Mm) (Q : mQ) : vc (n + 1) d 31 39 L S M Q = (pI S fun x S => sL L 6 (some (.inl x)) fun L => X d 31 41 L S M Q) := nr rfl
set_option maxRecDepth 100000 in
theorem v31_41 (n d : Nat) (L : List (Option mL)) (S : List mV) (M : Mm) (Q : mQ) : vc (n + 1) d 31 41 L S M Q = (gI L 6 fun x => vc n d 31 43 L (.inl x :: S) M Q) := nr rfl
set_option maxRecDepth 100000 in
theorem v31_43 (n d : Nat) (L : List (Option mL)) (S : List mV) (M : Mm) (Q : mQ) : vc (n + 1) d 31 43 L S M Q = (vc n d 31 45 L (.inl 16 :: S) M Q) := nr rfl
set_option maxRecDepth 100000 in
theorem v31_45 (n d : Nat) (L : List (Option mL)) (S : List mV) (M : Mm) (Q : mQ) : vc (n + 1) d 31 45 L S M Q = (pI S fun y S => pI S fun x S => (y ≤ x → vc n d 31 109 L S M Q) ∧ (¬ (y ≤ x) → vc n d 31 48 L S M Q)) := nr rfl
set_option maxRecDepth 100000 in
theorem v31_48 (n d : Nat) (L : List (Option mL)) (S : List mV) (M : Mm) (Q : mQ) : vc (n + 1) d 31 48 L S M Q = (gI L 4 fun x => vc n d 31 50 L (.inl x :: S) M Q) := nr rfl
set_option maxRecDepth 100000 in
theorem v31_50 (n d : Nat) (L : List (Option mL)) (S : List mV) (M : Mm) (Q : mQ) : vc (n + 1) d 31 50 L S M Q = (vc n d 31 52 L (.inl 16 :: S) M Q) := nr rfl
set_option maxRecDepth 100000 in
theorem v31_52 (n d : Nat) (L : List (Option mL)) (S : List mV) (M : Mm) (Q : mQ) : vc (n + 1) d 31 52 L S M Q = (pI S fun y S => pI S fun x S => vc n d 31 53 L (.inl (x * y) :: S) M Q) := nr rfl
set_option maxRecDepth 100000 in
theorem v31_53 (n d : Nat) (L : List (Option mL)) (S : List mV) (M : Mm) (Q : mQ) : vc (n + 1) d 31 53 L S M Q = (gI L 6 fun x => vc n d 31 55 L (.inl x :: S) M Q) := nr rfl
set_option maxRecDepth 100000 in
theorem v31_55 (n d : Nat) (L : List (Option mL)) (S : List mV) (M : Mm) (Q : mQ) : vc (n + 1) d 31 55 L S M Q = (pI S fun y S => pI S fun x S => vc n d 31 56 L (.inl (x + y) :: S) M Q) := nr rfl
set_option maxRecDepth 100000 in
theorem v31_56 (n d : Nat) (L : List (Option mL)) (S : List mV) (M : Mm) (Q : mQ) : vc (n + 1) d 31 56 L S M Q = (pI S fun x S => sL L 7 (some (.inl x)) fun L => vc n d 31 58 L S M Q) := nr rfl
set_option maxRecDepth 100000 in
theorem v31_58 (n d : Nat) (L : List (Option mL)) (S : List mV) (M : Mm) (Q : mQ) : vc (n + 1) d 31 58 L S M Q = (gI L 7 fun x => vc n d 31 60 L (.inl x :: S) M Q) := nr rfl
set_option maxRecDepth 100000 in
theorem v31_60 (n d : Nat) (L : List (Option mL)) (S : List mV) (M : Mm) (Q : mQ) : vc (n + 1) d 31 60 L S M Q = (vc n d 31 62 L (.inl 6 :: S) M Q) := nr rfl
set_option maxRecDepth 100000 in
theorem v31_62 (n d : Nat) (L : List (Option mL)) (S : List mV) (M : Mm) (Q : mQ) : vc (n + 1) d 31 62 L S M Q = (pI S fun y S => pI S fun x S => (x < y → X d 31 103 L S M Q) ∧ (¬ (x < y) → vc n d 31 65 L S M Q)) := nr rfl
set_option maxRecDepth 100000 in
theorem v31_65 (n d : Nat) (L : List (Option mL)) (S : List mV) (M : Mm) (Q : mQ) : vc (n + 1) d 31 65 L S M Q = (gI L 7 fun x => vc n d 31 67 L (.inl x :: S) M Q) := nr rfl
set_option maxRecDepth 100000 in
theorem v31_67 (n d : Nat) (L : List (Option mL)) (S : List mV) (M : Mm) (Q : mQ) : vc (n + 1) d 31 67 L S M Q = (gI L 3 fun x => vc n d 31 68 L (.inl x :: S) M Q) := nr rfl
set_option maxRecDepth 100000 in
theorem v31_68 (n d : Nat) (L : List (Option mL)) (S : List mV) (M : Mm) (Q : mQ) : vc (n + 1) d 31 68 L S M Q = (pI S fun y S => pI S fun x S => (y ≤ x → X d 31 103 L S M Q) ∧ (¬ (y ≤ x) → vc n d 31 71 L S M Q)) := nr rfl
set_option maxRecDepth 100000 in
theorem v31_71 (n d : Nat) (L : List (Option mL)) (S : List mV) (M : Mm) (Q : mQ) : vc (n + 1) d 31 71 L S M Q = (gR L 2 fun x => vc n d 31 72 L (.inr (.inr x) :: S) M Q) := nr rfl
set_option maxRecDepth 100000 in
theorem v31_72 (n d : Nat) (L : List (Option mL)) (S : List mV) (M : Mm) (Q : mQ) : vc (n + 1) d 31 72 L S M Q = (gR L 5 fun x => vc n d 31 74 L (.inr (.inr x) :: S) M Q) := nr rfl
set_option maxRecDepth 100000 in
theorem v31_74 (n d : Nat) (L : List (Option mL)) (S : List mV) (M : Mm) (Q : mQ) : vc (n + 1) d 31 74 L S M Q = (pR S fun x S => (x = none → vc n d 31 87 L S M Q) ∧ (¬ (x = none) → vc n d 31 77 L S M Q)) := nr rfl
set_option maxRecDepth 100000 in
theorem v31_77 (n d : Nat) (L : List (Option mL)) (S : List mV) (M : Mm) (Q : mQ) : vc (n + 1) d 31 77 L S M Q = (gR L 5 fun x => vc n d 31 79 L (.inr (.inr x) :: S) M Q) := nr rfl
set_option maxRecDepth 100000 in
theorem v31_79 (n d : Nat) (L : List (Option mL)) (S : List mV) (M : Mm) (Q : mQ) : vc (n + 1) d 31 79 L S M Q = (gI L 6 fun x => vc n d 31 81 L (.inl x :: S) M Q) := nr rfl
set_option maxRecDepth 100000 in
theorem v31_81 (n d : Nat) (L : List (Option mL)) (S : List mV) (M : Mm) (Q : mQ) : vc (n + 1) d 31 81 L S M Q = (pAs 1 S fun as S => pA S fun a S => shO M a 9 (stk S ≤ 8 ∧ XC d 27 (.inr (some a) :: as) M (fun r M => ∃ x : Int32, r = some (.inl x) ∧ X d 31 84 L (.inl x :: S) M Q))) := nr rfl
set_option maxRecDepth 100000 in
theorem v31_84 (n d : Nat) (L : List (Option mL)) (S : List mV) (M : Mm) (Q : mQ) : vc (n + 1) d 31 84 L S M Q = (X d 31 100 L S M Q) := nr rfl
set_option maxRecDepth 100000 in
theorem v31_87 (n d : Nat) (L : List (Option mL)) (S : List mV) (M : Mm) (Q : mQ) : vc (n + 1) d 31 87 L S M Q = (gR L 0 fun x => vc n d 31 88 L (.inr (.inr x) :: S) M Q) := nr rfl
set_option maxRecDepth 100000 in
theorem v31_88 (n d : Nat) (L : List (Option mL)) (S : List mV) (M : Mm) (Q : mQ) : vc (n + 1) d 31 88 L S M Q = (pA S fun a S => shO M a 0 (rrf M a 0 fun r => vc n d 31 91 L (.inr (.inr r) :: S) M Q)) := nr rfl
set_option maxRecDepth 100000 in
theorem v31_91 (n d : Nat) (L : List (Option mL)) (S : List mV) (M : Mm) (Q : mQ) : vc (n + 1) d 31 91 L S M Q = (gI L 1 fun x => vc n d 31 92 L (.inl x :: S) M Q) := nr rfl
set_option maxRecDepth 100000 in
theorem v31_92 (n d : Nat) (L : List (Option mL)) (S : List mV) (M : Mm) (Q : mQ) : vc (n + 1) d 31 92 L S M Q = (gI L 4 fun x => vc n d 31 94 L (.inl x :: S) M Q) := nr rfl
set_option maxRecDepth 100000 in
theorem v31_94 (n d : Nat) (L : List (Option mL)) (S : List mV) (M : Mm) (Q : mQ) : vc (n + 1) d 31 94 L S M Q = (pI S fun y S => pI S fun x S => vc n d 31 95 L (.inl (x + y) :: S) M Q) := nr rfl
set_option maxRecDepth 100000 in
theorem v31_95 (n d : Nat) (L : List (Option mL)) (S : List mV) (M : Mm) (Q : mQ) : vc (n + 1) d 31 95 L S M Q = (gI L 6 fun x => vc n d 31 97 L (.inl x :: S) M Q) := nr rfl
set_option maxRecDepth 100000 in
theorem v31_97 (n d : Nat) (L : List (Option mL)) (S : List mV) (M : Mm) (Q : mQ) : vc (n + 1) d 31 97 L S M Q = (pAs 2 S fun as S => pA S fun a S => shO M a 3 (stk S ≤ 8 ∧ XC d 28 (.inr (some a) :: as) M (fun r M => ∃ x : Int32, r = some (.inl x) ∧ X d 31 100 L (.inl x :: S) M Q))) := nr rfl
set_option maxRecDepth 100000 in
theorem v31_100 (n d : Nat) (L : List (Option mL)) (S : List mV) (M : Mm) (Q : mQ) : vc (n + 1) d 31 100 L S M Q = (pAs 1 S fun as S => pA S fun a S => shO M a 1 (stk S ≤ 8 ∧ XC d 33 (.inr (some a) :: as) M (fun r M => r = none ∧ X d 31 103 L S M Q))) := nr rfl
set_option maxRecDepth 100000 in
theorem v31_103 (n d : Nat) (L : List (Option mL)) (S : List mV) (M : Mm) (Q : mQ) : vc (n + 1) d 31 103 L S M Q = (gI L 6 fun x => sL L 6 (some (.inl (x + 1))) fun L => vc n d 31 106 L S M Q) := nr rfl
set_option maxRecDepth 100000 in
theorem v31_106 (n d : Nat) (L : List (Option mL)) (S : List mV) (M : Mm) (Q : mQ) : vc (n + 1) d 31 106 L S M Q = (X d 31 41 L S M Q) := nr rfl
set_option maxRecDepth 100000 in
theorem v31_109 (n d : Nat) (L : List (Option mL)) (S : List mV) (M : Mm) (Q : mQ) : vc (n + 1) d 31 109 L S M Q = (gI L 4 fun x => sL L 4 (some (.inl (x + 1))) fun L => vc n d 31 112 L S M Q) := nr rfl
set_option maxRecDepth 100000 in
theorem v31_112 (n d : Nat) (L : List (Option mL)) (S : List mV) (M : Mm) (Q : mQ) : vc (n + 1) d 31 112 L S M Q = (X d 31 16 L S M Q) := nr rfl
set_option maxRecDepth 100000 in
theorem v31_115 (n d : Nat) (L : List (Option mL)) (S : List mV) (M : Mm) (Q : mQ) : vc (n + 1) d 31 115 L S M Q = (S = [] ∧ Q none M) := nr rfl
