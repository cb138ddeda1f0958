/-! Long.bitCount counts bits. The rows wb_ began as the kit's laws/BITS.to-paste -/
theorem wb_tb (n : Nat) : (lN n).toBitVec = BitVec.ofNat 64 n := rfl
theorem wb_inj {a b : Int64} (h : a.toBitVec = b.toBitVec) : a = b := Int64.toBitVec_inj.mp h
theorem wb_tn {n : Nat} (h : n < 2 ^ 64) : (lN n).toBitVec.toNat = n := by rw [wb_tb, BitVec.toNat_ofNat, Nat.mod_eq_of_lt h]
theorem wb_of (x : Int64) : ∃ n, n < 2 ^ 64 ∧ x = lN n := ⟨x.toBitVec.toNat, x.toBitVec.isLt, wb_inj (by rw [wb_tb]; simp)⟩
theorem wb_of32 (x : Int32) : ∃ n, n < 2 ^ 32 ∧ x = nI n := ⟨x.toBitVec.toNat, x.toBitVec.isLt, Int32.toBitVec_inj.mp (by show _ = BitVec.ofNat 32 _; simp)⟩
theorem wb_c : ∀ k, k < 64 → ((nI k).toInt64 &&& 63) = lN k := by decide +kernel
theorem wb_cu : ∀ k, k < 64 → ((nI k).toInt64.toUInt64 &&& Int64.toUInt64 63) = UInt64.ofNat k := by decide +kernel
theorem wb_sm : ∀ k, k < 64 → (BitVec.ofNat 64 k).smod 64 = BitVec.ofNat 64 k := by decide +kernel
theorem wb_pw {a b : Nat} (h : a ≤ b) : 2 ^ b = 2 ^ a * 2 ^ (b - a) := by rw [← Nat.pow_add]; congr 1; omega
theorem wb_lt2 {a b : Nat} (h : a < b) : 2 ^ a < 2 ^ b := Nat.pow_lt_pow_right (by decide) h
theorem wb_mod (n : Nat) : lN n = lN (n % 2 ^ 64) := wb_inj (by rw [wb_tb, wb_tb]; apply BitVec.eq_of_toNat_eq; rw [BitVec.toNat_ofNat, BitVec.toNat_ofNat, Nat.mod_mod])
theorem wb_shr {n k : Nat} (hn : n < 2 ^ 64) (hk : k < 64) : ((lN n).toUInt64 >>> ((nI k).toInt64.toUInt64 &&& Int64.toUInt64 63)).toInt64 = lN (n / 2 ^ k) := by
  rw [wb_cu k hk]
  apply wb_inj
  apply BitVec.eq_of_toNat_eq
  show ((lN n).toUInt64 >>> UInt64.ofNat k).toNat = (BitVec.ofNat 64 _).toNat
  have h1 : (UInt64.ofNat k).toNat = k := by
    show (BitVec.ofNat 64 k).toNat = k
    rw [BitVec.toNat_ofNat, Nat.mod_eq_of_lt (by omega)]
  have h2 : (lN n).toUInt64.toNat = n := wb_tn hn
  rw [UInt64.toNat_shiftRight, h1, h2, Nat.mod_eq_of_lt hk, Nat.shiftRight_eq_div_pow, BitVec.toNat_ofNat, Nat.mod_eq_of_lt (Nat.lt_of_le_of_lt (Nat.div_le_self _ _) hn)]
theorem wb_shl (n : Nat) {k : Nat} (hk : k < 64) : lN n <<< ((nI k).toInt64 &&& 63) = lN (n * 2 ^ k) := by
  rw [wb_c k hk]
  apply wb_inj
  rw [Int64.toBitVec_shiftLeft, wb_tb, wb_tb, wb_tb, wb_sm k hk]
  apply BitVec.eq_of_toNat_eq
  rw [BitVec.shiftLeft_eq', BitVec.toNat_shiftLeft, BitVec.toNat_ofNat, BitVec.toNat_ofNat, BitVec.toNat_ofNat, Nat.mod_eq_of_lt (show k < 2 ^ 64 by omega), Nat.shiftLeft_eq, Nat.mul_mod, Nat.mod_mod, ← Nat.mul_mod]
theorem wb_and {a b : Nat} (ha : a < 2 ^ 64) (hb : b < 2 ^ 64) : lN a &&& lN b = lN (a &&& b) := by
  apply wb_inj
  rw [Int64.toBitVec_and, wb_tb, wb_tb, wb_tb]
  apply BitVec.eq_of_toNat_eq
  rw [BitVec.toNat_and, BitVec.toNat_ofNat, BitVec.toNat_ofNat, BitVec.toNat_ofNat, Nat.mod_eq_of_lt ha, Nat.mod_eq_of_lt hb, Nat.mod_eq_of_lt (Nat.and_lt_two_pow _ hb)]
def ln (f : Nat → Nat) : Nat → Nat → Nat
  | 0, _ => 0
  | k + 1, n => f (n % 256) + 256 * ln f k (n / 256)
def mk (m : Nat) : Nat → Nat
  | 0 => 0
  | k + 1 => m + 256 * mk m k
theorem and_split {a b c d : Nat} (hb : b < 256) (hd : d < 256) : (b + 256 * a) &&& (d + 256 * c) = (b &&& d) + 256 * (a &&& c) := by
  have hbd : b &&& d < 2 ^ 8 := Nat.lt_of_le_of_lt Nat.and_le_left hb
  apply Nat.eq_of_testBit_eq
  intro i
  rw [show b + 256 * a = 2 ^ 8 * a + b by omega, show d + 256 * c = 2 ^ 8 * c + d by omega, show (b &&& d) + 256 * (a &&& c) = 2 ^ 8 * (a &&& c) + (b &&& d) by omega]
  rw [Nat.testBit_and, Nat.testBit_two_pow_mul_add _ (show b < 2 ^ 8 from hb), Nat.testBit_two_pow_mul_add _ (show d < 2 ^ 8 from hd), Nat.testBit_two_pow_mul_add _ hbd]
  by_cases hi : i < 8
  · rw [if_pos hi, if_pos hi, if_pos hi, Nat.testBit_and]
  · rw [if_neg hi, if_neg hi, if_neg hi, Nat.testBit_and]
theorem ln_id : ∀ k n, n < 256 ^ k → ln (fun b => b) k n = n
  | 0, n, h => by simp at h; simp [ln, h]
  | k + 1, n, h => by
    show n % 256 + 256 * ln (fun b => b) k (n / 256) = n
    rw [ln_id k (n / 256) (by rw [Nat.pow_succ] at h; omega)]
    omega
theorem ln_sub {f g : Nat → Nat} (h : ∀ b, b < 256 → g b ≤ f b) : ∀ k n, ln g k n ≤ ln f k n ∧ ln f k n - ln g k n = ln (fun b => f b - g b) k n
  | 0, n => ⟨Nat.le_refl _, rfl⟩
  | k + 1, n => by
    obtain ⟨h1, h2⟩ := ln_sub h k (n / 256)
    have h3 := h (n % 256) (by omega)
    show g (n % 256) + 256 * ln g k (n / 256) ≤ f (n % 256) + 256 * ln f k (n / 256) ∧ f (n % 256) + 256 * ln f k (n / 256) - (g (n % 256) + 256 * ln g k (n / 256)) = (f (n % 256) - g (n % 256)) + 256 * ln (fun b => f b - g b) k (n / 256)
    rw [← h2]
    omega
theorem ln_add {f g : Nat → Nat} : ∀ k n, ln f k n + ln g k n = ln (fun b => f b + g b) k n
  | 0, n => rfl
  | k + 1, n => by
    show f (n % 256) + 256 * ln f k (n / 256) + (g (n % 256) + 256 * ln g k (n / 256)) = (f (n % 256) + g (n % 256)) + 256 * ln (fun b => f b + g b) k (n / 256)
    rw [← ln_add k (n / 256)]
    omega
theorem ln_and {g : Nat → Nat} {m : Nat} (hm : m < 256) (hg : ∀ b, b < 256 → g b < 256) : ∀ k n, ln g k n &&& mk m k = ln (fun b => g b &&& m) k n
  | 0, n => by simp [ln, mk]
  | k + 1, n => by
    show (g (n % 256) + 256 * ln g k (n / 256)) &&& (m + 256 * mk m k) = (g (n % 256) &&& m) + 256 * ln (fun b => g b &&& m) k (n / 256)
    rw [and_split (hg _ (by omega)) hm, ln_and hm hg k]
theorem a85 : ∀ c, c < 2 → ∀ y, y < 128 → (y + 128 * c) &&& 85 = y &&& 85 := by decide +kernel
theorem a51 : ∀ c, c < 4 → ∀ y, y < 64 → (y + 64 * c) &&& 51 = y &&& 51 := by decide +kernel
theorem ln_h1 {g : Nat → Nat} (hg : ∀ b, b < 256 → g b < 256) : ∀ k n, ln g k n / 2 &&& mk 85 k = ln (fun b => g b / 2 &&& 85) k n
  | 0, n => by simp [ln, mk]
  | k + 1, n => by
    have h1 := hg (n % 256) (by omega)
    show (g (n % 256) + 256 * ln g k (n / 256)) / 2 &&& (85 + 256 * mk 85 k) = (g (n % 256) / 2 &&& 85) + 256 * ln (fun b => g b / 2 &&& 85) k (n / 256)
    rw [show (g (n % 256) + 256 * ln g k (n / 256)) / 2 = (g (n % 256) / 2 + 128 * (ln g k (n / 256) % 2)) + 256 * (ln g k (n / 256) / 2) by omega, and_split (by omega) (by omega), a85 _ (by omega) _ (by omega), ln_h1 hg k]
theorem ln_h2 {g : Nat → Nat} (hg : ∀ b, b < 256 → g b < 256) : ∀ k n, ln g k n / 4 &&& mk 51 k = ln (fun b => g b / 4 &&& 51) k n
  | 0, n => by simp [ln, mk]
  | k + 1, n => by
    have h1 := hg (n % 256) (by omega)
    show (g (n % 256) + 256 * ln g k (n / 256)) / 4 &&& (51 + 256 * mk 51 k) = (g (n % 256) / 4 &&& 51) + 256 * ln (fun b => g b / 4 &&& 51) k (n / 256)
    rw [show (g (n % 256) + 256 * ln g k (n / 256)) / 4 = (g (n % 256) / 4 + 64 * (ln g k (n / 256) % 4)) + 256 * (ln g k (n / 256) / 4) by omega, and_split (by omega) (by omega), a51 _ (by omega) _ (by omega), ln_h2 hg k]
theorem ln_m {g : Nat → Nat} (hg : ∀ b, b < 256 → g b % 16 ≤ 4) : ∀ k n, ln g k n % 16 ≤ 4
  | 0, n => by simp [ln]
  | k + 1, n => by
    have h1 := hg (n % 256) (by omega)
    show (g (n % 256) + 256 * ln g k (n / 256)) % 16 ≤ 4
    omega
theorem ln_h4 {g : Nat → Nat} (hg : ∀ b, b < 256 → g b % 16 ≤ 4 ∧ g b ≤ 68) : ∀ k n, (ln g k n + ln g k n / 16) &&& mk 15 k = ln (fun b => (g b + g b / 16) &&& 15) k n
  | 0, n => by simp [ln, mk]
  | k + 1, n => by
    have h1 := hg (n % 256) (by omega)
    have h2 := ln_m (fun b hb => (hg b hb).1) k (n / 256)
    show ((g (n % 256) + 256 * ln g k (n / 256)) + (g (n % 256) + 256 * ln g k (n / 256)) / 16) &&& (15 + 256 * mk 15 k) = ((g (n % 256) + g (n % 256) / 16) &&& 15) + 256 * ln (fun b => (g b + g b / 16) &&& 15) k (n / 256)
    rw [show (g (n % 256) + 256 * ln g k (n / 256)) + (g (n % 256) + 256 * ln g k (n / 256)) / 16 = (g (n % 256) + g (n % 256) / 16 + 16 * (ln g k (n / 256) % 16)) + 256 * (ln g k (n / 256) + ln g k (n / 256) / 16) by omega, and_split (by omega) (by omega), ln_h4 hg k]
    congr 1
    rw [show (15 : Nat) = 2 ^ 4 - 1 from rfl, Nat.and_two_pow_sub_one_eq_mod, Nat.and_two_pow_sub_one_eq_mod]
    omega
def pc8 (b : Nat) : Nat := cnt (fun i => b.testBit i) 8
def pg1 (b : Nat) : Nat := b - (b / 2 &&& 85)
def pg2 (b : Nat) : Nat := (pg1 b &&& 51) + (pg1 b / 4 &&& 51)
theorem pg1_lt : ∀ b, b < 256 → pg1 b < 256 ∧ (b / 2 &&& 85) ≤ b := by decide +kernel
theorem pg2_ok : ∀ b, b < 256 → (pg2 b % 16 ≤ 4 ∧ pg2 b ≤ 68) ∧ (pg2 b + pg2 b / 16) &&& 15 = pc8 b ∧ pc8 b ≤ 8 := by decide +kernel
theorem ln_congr {f g : Nat → Nat} (h : ∀ b, b < 256 → f b = g b) : ∀ k n, ln f k n = ln g k n
  | 0, n => rfl
  | k + 1, n => by
    show f (n % 256) + _ = g (n % 256) + _
    rw [h _ (by omega), ln_congr h k]
def sumL : Nat → Nat → Nat
  | 0, _ => 0
  | k + 1, n => pc8 (n % 256) + sumL k (n / 256)
theorem cnt_add (p : Nat → Bool) (m : Nat) : ∀ n, cnt p (m + n) = cnt p m + cnt (fun i => p (m + i)) n
  | 0 => rfl
  | n + 1 => by
    show cnt p (m + n) + (if p (m + n) then 1 else 0) = cnt p m + (cnt (fun i => p (m + i)) n + (if p (m + n) then 1 else 0))
    rw [cnt_add p m n]
    omega
theorem sumL_cnt : ∀ k n, cnt (fun i => n.testBit i) (8 * k) = sumL k n
  | 0, n => rfl
  | k + 1, n => by
    rw [show 8 * (k + 1) = 8 + 8 * k by omega, cnt_add]
    show _ = pc8 (n % 256) + sumL k (n / 256)
    rw [← sumL_cnt k]
    congr 1
    · refine cnt_congr 8 (fun i hi => ?_)
      rw [show (256 : Nat) = 2 ^ 8 from rfl, Nat.testBit_mod_two_pow]
      simp [hi]
    · refine cnt_congr _ (fun i _ => ?_)
      rw [show (256 : Nat) = 2 ^ 8 from rfl, Nat.testBit_div_two_pow, Nat.add_comm]
theorem pc_nat {n : Nat} (hn : n < 2 ^ 64) : let n1 := n - (n / 2 &&& 0x5555555555555555); let n2 := (n1 &&& 0x3333333333333333) + (n1 / 4 &&& 0x3333333333333333); let n3 := (n2 + n2 / 16) &&& 0x0f0f0f0f0f0f0f0f; (n / 2 &&& 0x5555555555555555) ≤ n ∧ n3 = ln pc8 8 n ∧ n1 < 2 ^ 64 ∧ n2 < 2 ^ 63 := by
  intro n1 n2 n3
  have e0 : ln (fun b => b) 8 n = n := ln_id 8 n hn
  have m1 : mk 85 8 = 0x5555555555555555 := by decide
  have m2 : mk 51 8 = 0x3333333333333333 := by decide
  have m3 : mk 15 8 = 0x0f0f0f0f0f0f0f0f := by decide
  have e1 : n / 2 &&& 0x5555555555555555 = ln (fun b => b / 2 &&& 85) 8 n := by
    have := ln_h1 (g := fun b => b) (fun b hb => hb) 8 n
    rw [e0, m1] at this
    exact this
  obtain ⟨s1, s2⟩ := ln_sub (f := fun b => b) (g := fun b => b / 2 &&& 85) (fun b hb => (pg1_lt b hb).2) 8 n
  have e2 : n1 = ln pg1 8 n := by
    show n - (n / 2 &&& 0x5555555555555555) = _
    rw [e1]
    rw [e0] at s2
    exact s2
  have e3 : n2 = ln pg2 8 n := by
    show (n1 &&& 0x3333333333333333) + (n1 / 4 &&& 0x3333333333333333) = _
    rw [e2, ← m2, ln_and (by omega) (fun b hb => (pg1_lt b hb).1), ln_h2 (fun b hb => (pg1_lt b hb).1), ln_add]
    rfl
  have e4 : n3 = ln pc8 8 n := by
    show (n2 + n2 / 16) &&& 0x0f0f0f0f0f0f0f0f = _
    rw [e3, ← m3, ln_h4 (fun b hb => (pg2_ok b hb).1)]
    exact ln_congr (fun b hb => (pg2_ok b hb).2.1) 8 n
  refine ⟨by rw [e1]; rw [e0] at s1; exact s1, e4, by show n - _ < _; omega, ?_⟩
  have h1 : (n1 &&& 0x3333333333333333) ≤ 0x3333333333333333 := Nat.and_le_right
  have h2 : (n1 / 4 &&& 0x3333333333333333) ≤ 0x3333333333333333 := Nat.and_le_right
  show (n1 &&& 0x3333333333333333) + (n1 / 4 &&& 0x3333333333333333) < 2 ^ 63
  omega
theorem pc_sum {n : Nat} : let n3 := ln pc8 8 n; let n4 := n3 + n3 / 256; let n5 := n4 + n4 / 65536; let n6 := n5 + n5 / 4294967296; n6 % 128 = sumL 8 n ∧ n3 < 2 ^ 60 := by
  intro n3 n4 n5 n6
  have p0 := (pg2_ok (n % 256) (by omega)).2.2
  have p1 := (pg2_ok (n / 256 % 256) (by omega)).2.2
  have p2 := (pg2_ok (n / 256 / 256 % 256) (by omega)).2.2
  have p3 := (pg2_ok (n / 256 / 256 / 256 % 256) (by omega)).2.2
  have p4 := (pg2_ok (n / 256 / 256 / 256 / 256 % 256) (by omega)).2.2
  have p5 := (pg2_ok (n / 256 / 256 / 256 / 256 / 256 % 256) (by omega)).2.2
  have p6 := (pg2_ok (n / 256 / 256 / 256 / 256 / 256 / 256 % 256) (by omega)).2.2
  have p7 := (pg2_ok (n / 256 / 256 / 256 / 256 / 256 / 256 / 256 % 256) (by omega)).2.2
  have e3 : n3 = pc8 (n % 256) + 256 * (pc8 (n / 256 % 256) + 256 * (pc8 (n / 256 / 256 % 256) + 256 * (pc8 (n / 256 / 256 / 256 % 256) + 256 * (pc8 (n / 256 / 256 / 256 / 256 % 256) + 256 * (pc8 (n / 256 / 256 / 256 / 256 / 256 % 256) + 256 * (pc8 (n / 256 / 256 / 256 / 256 / 256 / 256 % 256) + 256 * (pc8 (n / 256 / 256 / 256 / 256 / 256 / 256 / 256 % 256) + 256 * 0))))))) := rfl
  have eS : sumL 8 n = pc8 (n % 256) + (pc8 (n / 256 % 256) + (pc8 (n / 256 / 256 % 256) + (pc8 (n / 256 / 256 / 256 % 256) + (pc8 (n / 256 / 256 / 256 / 256 % 256) + (pc8 (n / 256 / 256 / 256 / 256 / 256 % 256) + (pc8 (n / 256 / 256 / 256 / 256 / 256 / 256 % 256) + (pc8 (n / 256 / 256 / 256 / 256 / 256 / 256 / 256 % 256) + 0))))))) := rfl
  rw [eS]
  have e4 : n4 = n3 + n3 / 256 := rfl
  have e5 : n5 = n4 + n4 / 65536 := rfl
  have e6 : n6 = n5 + n5 / 4294967296 := rfl
  clear_value n3 n4 n5 n6
  generalize pc8 (n % 256) = q0 at *
  generalize pc8 (n / 256 % 256) = q1 at *
  generalize pc8 (n / 256 / 256 % 256) = q2 at *
  generalize pc8 (n / 256 / 256 / 256 % 256) = q3 at *
  generalize pc8 (n / 256 / 256 / 256 / 256 % 256) = q4 at *
  generalize pc8 (n / 256 / 256 / 256 / 256 / 256 % 256) = q5 at *
  generalize pc8 (n / 256 / 256 / 256 / 256 / 256 / 256 % 256) = q6 at *
  generalize pc8 (n / 256 / 256 / 256 / 256 / 256 / 256 / 256 % 256) = q7 at *
  clear eS
  have f4 : n4 = (q0 + q1) + 256 * ((q1 + q2) + 256 * ((q2 + q3) + 256 * ((q3 + q4) + 256 * ((q4 + q5) + 256 * ((q5 + q6) + 256 * ((q6 + q7) + 256 * q7)))))) := by omega
  have f5 : n5 = (q0 + q1 + q2 + q3) + 256 * ((q1 + q2 + q3 + q4) + 256 * ((q2 + q3 + q4 + q5) + 256 * ((q3 + q4 + q5 + q6) + 256 * ((q4 + q5 + q6 + q7) + 256 * ((q5 + q6 + q7) + 256 * ((q6 + q7) + 256 * q7)))))) := by omega
  refine ⟨?_, by omega⟩
  have f6 : n5 / 4294967296 = (q4 + q5 + q6 + q7) + 256 * ((q5 + q6 + q7) + 256 * ((q6 + q7) + 256 * q7)) := by omega
  omega
theorem bcl_cnt (x : Int64) : bcl x = nI (cnt (fun i => x.toBitVec.getLsbD i) 64) := by
  obtain ⟨n, hn, rfl⟩ := wb_of x
  obtain ⟨h1, h2, h3, h4⟩ := pc_nat hn
  obtain ⟨h5, h6⟩ := pc_sum (n := n)
  have hbits : cnt (fun i => (lN n).toBitVec.getLsbD i) 64 = sumL 8 n := by
    rw [← sumL_cnt 8 n]
    refine cnt_congr _ (fun i hi => ?_)
    rw [wb_tb, BitVec.getLsbD_ofNat]
    simp
    omega
  rw [hbits, ← h5]
  have s1 : ((lN n).toUInt64 >>> ((1 : Int32).toInt64.toUInt64 &&& Int64.toUInt64 63)).toInt64 = lN (n / 2) := wb_shr (k := 1) hn (by omega)
  unfold bcl
  dsimp only
  rw [s1]
  rw [show (0x5555555555555555 : Int64) = lN 0x5555555555555555 from rfl, wb_and (by omega) (by omega), lN_sub h1]
  generalize hn1 : n - (n / 2 &&& 0x5555555555555555) = n1 at h2 h3 h4 ⊢
  have s2 : ((lN n1).toUInt64 >>> ((2 : Int32).toInt64.toUInt64 &&& Int64.toUInt64 63)).toInt64 = lN (n1 / 4) := wb_shr (k := 2) h3 (by omega)
  rw [s2, show (0x3333333333333333 : Int64) = lN 0x3333333333333333 from rfl, wb_and h3 (by omega), wb_and (by omega) (by omega), lN_add]
  generalize hn2 : (n1 &&& 0x3333333333333333) + (n1 / 4 &&& 0x3333333333333333) = n2 at h2 h4 ⊢
  have s3 : ((lN n2).toUInt64 >>> ((4 : Int32).toInt64.toUInt64 &&& Int64.toUInt64 63)).toInt64 = lN (n2 / 16) := wb_shr (k := 4) (by omega) (by omega)
  rw [s3, lN_add, show (0x0f0f0f0f0f0f0f0f : Int64) = lN 0x0f0f0f0f0f0f0f0f from rfl, wb_and (by omega) (by omega)]
  have h2' : (n2 + n2 / 16) &&& 0x0f0f0f0f0f0f0f0f = ln pc8 8 n := h2
  rw [h2']
  generalize ln pc8 8 n = n3 at h5 h6 ⊢
  have s4 : ((lN n3).toUInt64 >>> ((8 : Int32).toInt64.toUInt64 &&& Int64.toUInt64 63)).toInt64 = lN (n3 / 256) := wb_shr (k := 8) (by omega) (by omega)
  rw [s4, lN_add]
  generalize hn4 : n3 + n3 / 256 = n4 at h5 ⊢
  have s5 : ((lN n4).toUInt64 >>> ((16 : Int32).toInt64.toUInt64 &&& Int64.toUInt64 63)).toInt64 = lN (n4 / 65536) := wb_shr (k := 16) (by omega) (by omega)
  rw [s5, lN_add]
  generalize hn5 : n4 + n4 / 65536 = n5 at h5 ⊢
  have s6 : ((lN n5).toUInt64 >>> ((32 : Int32).toInt64.toUInt64 &&& Int64.toUInt64 63)).toInt64 = lN (n5 / 4294967296) := wb_shr (k := 32) (by omega) (by omega)
  rw [s6, lN_add, lN_i]
  rw [pk_and _ 7 (by decide)]
  congr 1
  have : (nI (n5 + n5 / 4294967296)).toBitVec.toNat = (n5 + n5 / 4294967296) % 2 ^ 32 := by
    show (BitVec.ofNat 32 _).toNat = _
    rw [BitVec.toNat_ofNat]
  rw [this]
  have h5 : (n5 + n5 / 4294967296) % 128 = sumL 8 n := h5
  omega
theorem cnt_bits (lo hi : Int64) : nI (cnt (fun i => lo.toBitVec.getLsbD i) 64) + nI (cnt (fun i => hi.toBitVec.getLsbD i) 64) = nI (cnt (bitOf lo hi) 128) := by
  rw [nI_add, show (128 : Nat) = 64 + 64 from rfl, cnt_add (bitOf lo hi) 64 64]
  have e1 : cnt (fun i => lo.toBitVec.getLsbD i) 64 = cnt (bitOf lo hi) 64 := cnt_congr 64 (fun i h => by unfold bitOf; rw [if_pos h])
  have e2 : cnt (fun i => hi.toBitVec.getLsbD i) 64 = cnt (fun i => bitOf lo hi (64 + i)) 64 := cnt_congr 64 (fun i h => by unfold bitOf; rw [if_neg (by omega), show 64 + i - 64 = i by omega])
  rw [e1, e2]
/-- for how many it still waits -/
theorem k94 {d : Nat} {M : Mm} {k : mQ} {w : Nat} {x : WT} (h : WrC M w x) (hk : k (some (.inl (nI (cnt x.2.2.2.2.2 128)))) M) : XC (d + 2) 94 [.inr (some w)] M k := by
  obtain ⟨⟨b1, b2, b3, b4, b5⟩, g1, g2, g3, g4, g5, g6, g7⟩ := h
  refine xc ?_
  show X (d + 1) 94 0 [some (.inr (some w))] [] M k
  refine vc_X 30 _ _ _ _ _ _ _ ?_
  simp only [↓v94_0, ↓v94_1, ↓v94_4, ↓v94_7, ↓v94_8, ↓v94_11, ↓v94_14, ↓v94_15, ↓qI_c, ↓qL_c, ↓qR_c, ↓pA_o, ↓qC_i, ↓qC_r, ↓oA_s, ↓gI_0, ↓gI_1, ↓gI_2, ↓gI_3, ↓gI_4, ↓gI_5, ↓gI_6, ↓gI_7, ↓gI_8, ↓gI_9, ↓gI_10, ↓gR_0, ↓gR_1, ↓gR_2, ↓gR_3, ↓gR_4, ↓gR_5, ↓gR_6, ↓gR_7, ↓gR_8, ↓gR_9, ↓gR_10, ↓sL_0, ↓sL_1, ↓sL_2, ↓sL_3, ↓sL_4, ↓sL_5, ↓sL_6, ↓sL_7, ↓sL_8, ↓sL_9, ↓sL_10, ↓rrf_si, ↓rrf_sg, ↓shO_si, ↓shO_sg, ↓shO_sr, ↓shA_si, ↓shA_sg, ↓shA_sr, ↓pAs_0, ↓pAs_i, ↓pAs_r, stk_n, stk_i, stk_l, stk_r, List.nil_append, List.cons_append, true_and, and_true, true_or, or_true, Nat.zero_add, dp_s, Nat.reduceAdd, le8_0, le8_1, le8_2, le8_3, le8_4, le8_5, le8_6, le8_7, le8_8, Classical.not_not, aT40, aT41, aT42, aT44, aT54, aT58, aT59, rT54, rT58, rT59, reduceIte, Nat.reduceEqDiff, qn_42, qn_44, true_implies, not_true_eq_false, not_false_eq_true, false_implies, ↓shO_of b1, bcl_cnt, cnt_bits]
  rw [cnt_congr 128 (fun s hs => g5 s hs)]
  exact hk
