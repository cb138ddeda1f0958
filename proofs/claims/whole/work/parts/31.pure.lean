/-! steps on stack and locals alone (printed by gen_pure.py) -/
theorem tr_iconst {d i pc : Nat} {L : List (Option mL)} {S : List mV} {M : Mm} {n : Int} (hd : decode (mB i) pc = .ok (.iconst n, 1)) : Tr d i pc L (S) M (pc + 1) L (.inl (Int32.ofInt n) :: S) M := by
  refine Tr.pure ?_
  intro D dA lo p l e R s m args below meth c Qf H ls locs cells slots C hL hR hS hc hs k
  obtain ⟨hx, hb, -⟩ := id C
  exact lv_iconst hx hb hd rfl (k ls hL)
theorem tr_bipush {d i pc : Nat} {L : List (Option mL)} {S : List mV} {M : Mm} {n : Int} (hd : decode (mB i) pc = .ok (.bipush n, 2)) : Tr d i pc L (S) M (pc + 2) L (.inl ((Int8.ofInt n).toInt32) :: S) M := by
  refine Tr.pure ?_
  intro D dA lo p l e R s m args below meth c Qf H ls locs cells slots C hL hR hS hc hs k
  obtain ⟨hx, hb, -⟩ := id C
  exact lv_bipush hx hb hd rfl (k ls hL)
theorem tr_sipush {d i pc : Nat} {L : List (Option mL)} {S : List mV} {M : Mm} {n : Int} (hd : decode (mB i) pc = .ok (.sipush n, 3)) : Tr d i pc L (S) M (pc + 3) L (.inl ((Int16.ofInt n).toInt32) :: S) M := by
  refine Tr.pure ?_
  intro D dA lo p l e R s m args below meth c Qf H ls locs cells slots C hL hR hS hc hs k
  obtain ⟨hx, hb, -⟩ := id C
  exact lv_sipush hx hb hd rfl (k ls hL)
theorem tr_lconst {d i pc : Nat} {L : List (Option mL)} {S : List mV} {M : Mm} {n : Fin 2} (hd : decode (mB i) pc = .ok (.lconst n, 1)) : Tr d i pc L (S) M (pc + 1) L (.inr (.inl (Int64.ofNat (n : Nat))) :: S) M := by
  refine Tr.pure ?_
  intro D dA lo p l e R s m args below meth c Qf H ls locs cells slots C hL hR hS hc hs k
  obtain ⟨hx, hb, -⟩ := id C
  exact lv_lconst hx hb hd rfl (k ls hL)
theorem tr_null {d i pc : Nat} {L : List (Option mL)} {S : List mV} {M : Mm}  (hd : decode (mB i) pc = .ok (.aconst_null, 1)) : Tr d i pc L (S) M (pc + 1) L (.inr (.inr none) :: S) M := by
  refine Tr.pure ?_
  intro D dA lo p l e R s m args below meth c Qf H ls locs cells slots C hL hR hS hc hs k
  obtain ⟨hx, hb, -⟩ := id C
  exact lv_null hx hb hd (k ls hL)
theorem tr_iadd {d i pc : Nat} {L : List (Option mL)} {S : List mV} {M : Mm} {x y : Int32} (hd : decode (mB i) pc = .ok (.iadd, 1)) : Tr d i pc L (.inl y :: .inl x :: S) M (pc + 1) L (.inl (x + y) :: S) M := by
  refine Tr.pure ?_
  intro D dA lo p l e R s m args below meth c Qf H ls locs cells slots C hL hR hS hc hs k
  obtain ⟨hx, hb, -⟩ := id C
  exact lv_iadd hx hb hd (k ls hL)
theorem tr_isub {d i pc : Nat} {L : List (Option mL)} {S : List mV} {M : Mm} {x y : Int32} (hd : decode (mB i) pc = .ok (.isub, 1)) : Tr d i pc L (.inl y :: .inl x :: S) M (pc + 1) L (.inl (x - y) :: S) M := by
  refine Tr.pure ?_
  intro D dA lo p l e R s m args below meth c Qf H ls locs cells slots C hL hR hS hc hs k
  obtain ⟨hx, hb, -⟩ := id C
  exact lv_isub hx hb hd (k ls hL)
theorem tr_imul {d i pc : Nat} {L : List (Option mL)} {S : List mV} {M : Mm} {x y : Int32} (hd : decode (mB i) pc = .ok (.imul, 1)) : Tr d i pc L (.inl y :: .inl x :: S) M (pc + 1) L (.inl (x * y) :: S) M := by
  refine Tr.pure ?_
  intro D dA lo p l e R s m args below meth c Qf H ls locs cells slots C hL hR hS hc hs k
  obtain ⟨hx, hb, -⟩ := id C
  exact lv_imul hx hb hd (k ls hL)
theorem tr_iand {d i pc : Nat} {L : List (Option mL)} {S : List mV} {M : Mm} {x y : Int32} (hd : decode (mB i) pc = .ok (.iand, 1)) : Tr d i pc L (.inl y :: .inl x :: S) M (pc + 1) L (.inl (x &&& y) :: S) M := by
  refine Tr.pure ?_
  intro D dA lo p l e R s m args below meth c Qf H ls locs cells slots C hL hR hS hc hs k
  obtain ⟨hx, hb, -⟩ := id C
  exact lv_iand hx hb hd (k ls hL)
theorem tr_ior {d i pc : Nat} {L : List (Option mL)} {S : List mV} {M : Mm} {x y : Int32} (hd : decode (mB i) pc = .ok (.ior, 1)) : Tr d i pc L (.inl y :: .inl x :: S) M (pc + 1) L (.inl (x ||| y) :: S) M := by
  refine Tr.pure ?_
  intro D dA lo p l e R s m args below meth c Qf H ls locs cells slots C hL hR hS hc hs k
  obtain ⟨hx, hb, -⟩ := id C
  exact lv_ior hx hb hd (k ls hL)
theorem tr_ixor {d i pc : Nat} {L : List (Option mL)} {S : List mV} {M : Mm} {x y : Int32} (hd : decode (mB i) pc = .ok (.ixor, 1)) : Tr d i pc L (.inl y :: .inl x :: S) M (pc + 1) L (.inl (x ^^^ y) :: S) M := by
  refine Tr.pure ?_
  intro D dA lo p l e R s m args below meth c Qf H ls locs cells slots C hL hR hS hc hs k
  obtain ⟨hx, hb, -⟩ := id C
  exact lv_ixor hx hb hd (k ls hL)
theorem tr_ishl {d i pc : Nat} {L : List (Option mL)} {S : List mV} {M : Mm} {x y : Int32} (hd : decode (mB i) pc = .ok (.ishl, 1)) : Tr d i pc L (.inl y :: .inl x :: S) M (pc + 1) L (.inl (x <<< (y &&& 31)) :: S) M := by
  refine Tr.pure ?_
  intro D dA lo p l e R s m args below meth c Qf H ls locs cells slots C hL hR hS hc hs k
  obtain ⟨hx, hb, -⟩ := id C
  exact lv_ishl hx hb hd (k ls hL)
theorem tr_ishr {d i pc : Nat} {L : List (Option mL)} {S : List mV} {M : Mm} {x y : Int32} (hd : decode (mB i) pc = .ok (.ishr, 1)) : Tr d i pc L (.inl y :: .inl x :: S) M (pc + 1) L (.inl (x >>> (y &&& 31)) :: S) M := by
  refine Tr.pure ?_
  intro D dA lo p l e R s m args below meth c Qf H ls locs cells slots C hL hR hS hc hs k
  obtain ⟨hx, hb, -⟩ := id C
  exact lv_ishr hx hb hd (k ls hL)
theorem tr_iushr {d i pc : Nat} {L : List (Option mL)} {S : List mV} {M : Mm} {x y : Int32} (hd : decode (mB i) pc = .ok (.iushr, 1)) : Tr d i pc L (.inl y :: .inl x :: S) M (pc + 1) L (.inl (x.toUInt32 >>> (y.toUInt32 &&& Int32.toUInt32 31)).toInt32 :: S) M := by
  refine Tr.pure ?_
  intro D dA lo p l e R s m args below meth c Qf H ls locs cells slots C hL hR hS hc hs k
  obtain ⟨hx, hb, -⟩ := id C
  exact lv_iushr hx hb hd rfl (k ls hL)
theorem tr_idiv {d i pc : Nat} {L : List (Option mL)} {S : List mV} {M : Mm} {x y : Int32} (hy : ¬ y = 0) (hd : decode (mB i) pc = .ok (.idiv, 1)) : Tr d i pc L (.inl y :: .inl x :: S) M (pc + 1) L (.inl (x / y) :: S) M := by
  refine Tr.pure ?_
  intro D dA lo p l e R s m args below meth c Qf H ls locs cells slots C hL hR hS hc hs k
  obtain ⟨hx, hb, -⟩ := id C
  exact lv_idiv hx hb hd hy (k ls hL)
theorem tr_irem {d i pc : Nat} {L : List (Option mL)} {S : List mV} {M : Mm} {x y : Int32} (hy : ¬ y = 0) (hd : decode (mB i) pc = .ok (.irem, 1)) : Tr d i pc L (.inl y :: .inl x :: S) M (pc + 1) L (.inl (x - x / y * y) :: S) M := by
  refine Tr.pure ?_
  intro D dA lo p l e R s m args below meth c Qf H ls locs cells slots C hL hR hS hc hs k
  obtain ⟨hx, hb, -⟩ := id C
  exact lv_irem hx hb hd hy (k ls hL)
theorem tr_ineg {d i pc : Nat} {L : List (Option mL)} {S : List mV} {M : Mm} {x : Int32} (hd : decode (mB i) pc = .ok (.ineg, 1)) : Tr d i pc L (.inl x :: S) M (pc + 1) L (.inl (-x) :: S) M := by
  refine Tr.pure ?_
  intro D dA lo p l e R s m args below meth c Qf H ls locs cells slots C hL hR hS hc hs k
  obtain ⟨hx, hb, -⟩ := id C
  exact lv_ineg hx hb hd (k ls hL)
theorem tr_i2l {d i pc : Nat} {L : List (Option mL)} {S : List mV} {M : Mm} {x : Int32} (hd : decode (mB i) pc = .ok (.i2l, 1)) : Tr d i pc L (.inl x :: S) M (pc + 1) L (.inr (.inl x.toInt64) :: S) M := by
  refine Tr.pure ?_
  intro D dA lo p l e R s m args below meth c Qf H ls locs cells slots C hL hR hS hc hs k
  obtain ⟨hx, hb, -⟩ := id C
  exact lv_i2l hx hb hd rfl (k ls hL)
theorem tr_i2b {d i pc : Nat} {L : List (Option mL)} {S : List mV} {M : Mm} {x : Int32} (hd : decode (mB i) pc = .ok (.i2b, 1)) : Tr d i pc L (.inl x :: S) M (pc + 1) L (.inl x.toInt8.toInt32 :: S) M := by
  refine Tr.pure ?_
  intro D dA lo p l e R s m args below meth c Qf H ls locs cells slots C hL hR hS hc hs k
  obtain ⟨hx, hb, -⟩ := id C
  exact lv_i2b hx hb hd rfl (k ls hL)
theorem tr_l2i {d i pc : Nat} {L : List (Option mL)} {S : List mV} {M : Mm} {x : Int64} (hd : decode (mB i) pc = .ok (.l2i, 1)) : Tr d i pc L (.inr (.inl x) :: S) M (pc + 1) L (.inl x.toInt32 :: S) M := by
  refine Tr.pure ?_
  intro D dA lo p l e R s m args below meth c Qf H ls locs cells slots C hL hR hS hc hs k
  obtain ⟨hx, hb, -⟩ := id C
  exact lv_l2i hx hb hd rfl (k ls hL)
theorem tr_land {d i pc : Nat} {L : List (Option mL)} {S : List mV} {M : Mm} {x y : Int64} (hd : decode (mB i) pc = .ok (.land, 1)) : Tr d i pc L (.inr (.inl y) :: .inr (.inl x) :: S) M (pc + 1) L (.inr (.inl (x &&& y)) :: S) M := by
  refine Tr.pure ?_
  intro D dA lo p l e R s m args below meth c Qf H ls locs cells slots C hL hR hS hc hs k
  obtain ⟨hx, hb, -⟩ := id C
  exact lv_land hx hb hd (k ls hL)
theorem tr_lor {d i pc : Nat} {L : List (Option mL)} {S : List mV} {M : Mm} {x y : Int64} (hd : decode (mB i) pc = .ok (.lor, 1)) : Tr d i pc L (.inr (.inl y) :: .inr (.inl x) :: S) M (pc + 1) L (.inr (.inl (x ||| y)) :: S) M := by
  refine Tr.pure ?_
  intro D dA lo p l e R s m args below meth c Qf H ls locs cells slots C hL hR hS hc hs k
  obtain ⟨hx, hb, -⟩ := id C
  exact lv_lor hx hb hd (k ls hL)
theorem tr_lxor {d i pc : Nat} {L : List (Option mL)} {S : List mV} {M : Mm} {x y : Int64} (hd : decode (mB i) pc = .ok (.lxor, 1)) : Tr d i pc L (.inr (.inl y) :: .inr (.inl x) :: S) M (pc + 1) L (.inr (.inl (x ^^^ y)) :: S) M := by
  refine Tr.pure ?_
  intro D dA lo p l e R s m args below meth c Qf H ls locs cells slots C hL hR hS hc hs k
  obtain ⟨hx, hb, -⟩ := id C
  exact lv_lxor hx hb hd (k ls hL)
theorem tr_lshl {d i pc : Nat} {L : List (Option mL)} {S : List mV} {M : Mm} {x : Int64} {y : Int32} (hd : decode (mB i) pc = .ok (.lshl, 1)) : Tr d i pc L (.inl y :: .inr (.inl x) :: S) M (pc + 1) L (.inr (.inl (x <<< (y.toInt64 &&& 63))) :: S) M := by
  refine Tr.pure ?_
  intro D dA lo p l e R s m args below meth c Qf H ls locs cells slots C hL hR hS hc hs k
  obtain ⟨hx, hb, -⟩ := id C
  exact lv_lshl hx hb hd rfl (k ls hL)
theorem tr_iload {d i pc : Nat} {L : List (Option mL)} {S : List mV} {M : Mm} {j : Nat} {x : Int32} (hj : L[j]? = some (some (.inl x))) (hd : decode (mB i) pc = .ok (.iload j, 2)) : Tr d i pc L (S) M (pc + 2) L (.inl x :: S) M := by
  refine Tr.pure ?_
  intro D dA lo p l e R s m args below meth c Qf H ls locs cells slots C hL hR hS hc hs k
  obtain ⟨hx, hb, -⟩ := id C
  exact lv_iload hx hb hd (hL.at hj) (k ls hL)
theorem tr_iload_n {d i pc : Nat} {L : List (Option mL)} {S : List mV} {M : Mm} {j : Fin 4} {x : Int32} (hj : L[j.val]? = some (some (.inl x))) (hd : decode (mB i) pc = .ok (.iload_n j, 1)) : Tr d i pc L (S) M (pc + 1) L (.inl x :: S) M := by
  refine Tr.pure ?_
  intro D dA lo p l e R s m args below meth c Qf H ls locs cells slots C hL hR hS hc hs k
  obtain ⟨hx, hb, -⟩ := id C
  exact lv_iload_n hx hb hd rfl (hL.at hj) (k ls hL)
theorem tr_aload {d i pc : Nat} {L : List (Option mL)} {S : List mV} {M : Mm} {j : Nat} {x : Option Nat} (hj : L[j]? = some (some (.inr x))) (hd : decode (mB i) pc = .ok (.aload j, 2)) : Tr d i pc L (S) M (pc + 2) L (.inr (.inr x) :: S) M := by
  refine Tr.pure ?_
  intro D dA lo p l e R s m args below meth c Qf H ls locs cells slots C hL hR hS hc hs k
  obtain ⟨hx, hb, -⟩ := id C
  have hk := hL.at hj
  cases x with
  | none => exact lv_aloadN hx hb hd hk (k ls hL)
  | some a => exact lv_aload hx hb hd hk (k ls hL)
theorem tr_aload_n {d i pc : Nat} {L : List (Option mL)} {S : List mV} {M : Mm} {j : Fin 4} {x : Option Nat} (hj : L[j.val]? = some (some (.inr x))) (hd : decode (mB i) pc = .ok (.aload_n j, 1)) : Tr d i pc L (S) M (pc + 1) L (.inr (.inr x) :: S) M := by
  refine Tr.pure ?_
  intro D dA lo p l e R s m args below meth c Qf H ls locs cells slots C hL hR hS hc hs k
  obtain ⟨hx, hb, -⟩ := id C
  have hk := hL.at hj
  cases x with
  | none => exact lv_aload_nN hx hb hd rfl hk (k ls hL)
  | some a => exact lv_aload_n hx hb hd rfl hk (k ls hL)
theorem tr_istore {d i pc : Nat} {L : List (Option mL)} {S : List mV} {M : Mm} {j : Nat} {x : Int32} (hj : j < mX i) (hd : decode (mB i) pc = .ok (.istore j, 2)) : Tr d i pc L (.inl x :: S) M (pc + 2) (L.set j (some (.inl x))) (S) M := by
  refine Tr.pure ?_
  intro D dA lo p l e R s m args below meth c Qf H ls locs cells slots C hL hR hS hc hs k
  obtain ⟨hx, hb, -⟩ := id C
  exact lv_istore hx hb hd hL.2 hj rfl (fun ls1 h1 => k ls1 (LR.set (v := .inl x) hL h1))
theorem tr_istore_n {d i pc : Nat} {L : List (Option mL)} {S : List mV} {M : Mm} {j : Fin 4} {x : Int32} (hj : j.val < mX i) (hd : decode (mB i) pc = .ok (.istore_n j, 1)) : Tr d i pc L (.inl x :: S) M (pc + 1) (L.set j.val (some (.inl x))) (S) M := by
  refine Tr.pure ?_
  intro D dA lo p l e R s m args below meth c Qf H ls locs cells slots C hL hR hS hc hs k
  obtain ⟨hx, hb, -⟩ := id C
  exact lv_istore_n hx hb hd rfl hL.2 hj rfl (fun ls1 h1 => k ls1 (LR.set (v := .inl x) hL h1))
theorem tr_astore {d i pc : Nat} {L : List (Option mL)} {S : List mV} {M : Mm} {j : Nat} {x : Option Nat} (hj : j < mX i) (hd : decode (mB i) pc = .ok (.astore j, 2)) : Tr d i pc L (.inr (.inr x) :: S) M (pc + 2) (L.set j (some (.inr x))) (S) M := by
  refine Tr.pure ?_
  intro D dA lo p l e R s m args below meth c Qf H ls locs cells slots C hL hR hS hc hs k
  obtain ⟨hx, hb, -⟩ := id C
  cases x with
  | none => exact lv_astoreN hx hb hd hL.2 hj rfl (fun ls1 h1 => k ls1 (LR.set (v := .inr none) hL h1))
  | some a => exact lv_astore hx hb hd hL.2 hj rfl (fun ls1 h1 => k ls1 (LR.set (v := .inr (some a)) hL h1))
theorem tr_astore_n {d i pc : Nat} {L : List (Option mL)} {S : List mV} {M : Mm} {j : Fin 4} {x : Option Nat} (hj : j.val < mX i) (hd : decode (mB i) pc = .ok (.astore_n j, 1)) : Tr d i pc L (.inr (.inr x) :: S) M (pc + 1) (L.set j.val (some (.inr x))) (S) M := by
  refine Tr.pure ?_
  intro D dA lo p l e R s m args below meth c Qf H ls locs cells slots C hL hR hS hc hs k
  obtain ⟨hx, hb, -⟩ := id C
  cases x with
  | none => exact lv_astore_nN hx hb hd rfl hL.2 hj rfl (fun ls1 h1 => k ls1 (LR.set (v := .inr none) hL h1))
  | some a => exact lv_astore_n hx hb hd rfl hL.2 hj rfl (fun ls1 h1 => k ls1 (LR.set (v := .inr (some a)) hL h1))
theorem tr_iinc {d i pc : Nat} {L : List (Option mL)} {S : List mV} {M : Mm} {j : Nat} {n : Int} {x : Int32} (hj : L[j]? = some (some (.inl x))) (hn : j < mX i) (hd : decode (mB i) pc = .ok (.iinc j n, 3)) : Tr d i pc L (S) M (pc + 3) (L.set j (some (.inl (x + Int32.ofInt n)))) (S) M := by
  refine Tr.pure ?_
  intro D dA lo p l e R s m args below meth c Qf H ls locs cells slots C hL hR hS hc hs k
  obtain ⟨hx, hb, -⟩ := id C
  obtain ⟨q, hq⟩ := List.getElem?_of_mem (lpL_mem hj)
  exact lv_iinc (k := q) hx hb hd hL.2 hq rfl hn rfl (fun ls1 h1 => k ls1 (LR.set (v := .inl (x + Int32.ofInt n)) hL h1))
theorem tr_dup {d i pc : Nat} {L : List (Option mL)} {S : List mV} {M : Mm} {v : mV} (hv : (m_val v).category = 1) (hd : decode (mB i) pc = .ok (.dup, 1)) : Tr d i pc L (v :: S) M (pc + 1) L (v :: v :: S) M := by
  refine Tr.pure ?_
  intro D dA lo p l e R s m args below meth c Qf H ls locs cells slots C hL hR hS hc hs k
  obtain ⟨hx, hb, -⟩ := id C
  exact lv_dup hx hb hd hv (k ls hL)
theorem tr_pop {d i pc : Nat} {L : List (Option mL)} {S : List mV} {M : Mm} {v : mV} (hv : (m_val v).category = 1) (hd : decode (mB i) pc = .ok (.pop, 1)) : Tr d i pc L (v :: S) M (pc + 1) L (S) M := by
  refine Tr.pure ?_
  intro D dA lo p l e R s m args below meth c Qf H ls locs cells slots C hL hR hS hc hs k
  obtain ⟨hx, hb, -⟩ := id C
  exact lv_pop hx hb hd hv (k ls hL)
theorem tr_dup_x1 {d i pc : Nat} {L : List (Option mL)} {S : List mV} {M : Mm} {v w : mV} (hv : (m_val v).category = 1) (hw : (m_val w).category = 1) (hd : decode (mB i) pc = .ok (.dup_x1, 1)) : Tr d i pc L (v :: w :: S) M (pc + 1) L (v :: w :: v :: S) M := by
  refine Tr.pure ?_
  intro D dA lo p l e R s m args below meth c Qf H ls locs cells slots C hL hR hS hc hs k
  obtain ⟨hx, hb, -⟩ := id C
  exact lv_dup_x1 hx hb hd hv hw (k ls hL)
theorem tr_dup2 {d i pc : Nat} {L : List (Option mL)} {S : List mV} {M : Mm} {v w : mV} (hv : (m_val v).category = 1) (hw : (m_val w).category = 1) (hd : decode (mB i) pc = .ok (.dup2, 1)) : Tr d i pc L (v :: w :: S) M (pc + 1) L (v :: w :: v :: w :: S) M := by
  refine Tr.pure ?_
  intro D dA lo p l e R s m args below meth c Qf H ls locs cells slots C hL hR hS hc hs k
  obtain ⟨hx, hb, -⟩ := id C
  exact lv_dup2_11 hx hb hd hv hw (k ls hL)
theorem tr_goto {d i pc : Nat} {L : List (Option mL)} {S : List mV} {M : Mm} {off : Int} {tgt : Nat} (ht : (pc : Int) + off = (tgt : Int)) (hd : decode (mB i) pc = .ok (.goto off, 3)) : Tr d i pc L (S) M tgt L (S) M := by
  refine Tr.pure ?_
  intro D dA lo p l e R s m args below meth c Qf H ls locs cells slots C hL hR hS hc hs k
  obtain ⟨hx, hb, -⟩ := id C
  exact lv_goto hx hb hd ht (k ls hL)
theorem tr_if_eq_t {d i pc : Nat} {L : List (Option mL)} {S : List mV} {M : Mm} {x : Int32} {off : Int} {tgt : Nat} (ht : (pc : Int) + off = (tgt : Int)) (hP : x = 0) (hd : decode (mB i) pc = .ok (.ifCond .eq off, 3)) : Tr d i pc L (.inl x :: S) M tgt L (S) M := by
  refine Tr.pure ?_
  intro D dA lo p l e R s m args below meth c Qf H ls locs cells slots C hL hR hS hc hs k
  obtain ⟨hx, hb, -⟩ := id C
  exact lv_if_eq hx hb hd ht (fun _ => k ls hL) (fun h => absurd hP h)
theorem tr_if_eq_f {d i pc : Nat} {L : List (Option mL)} {S : List mV} {M : Mm} {x : Int32} {off : Int} {tgt : Nat} (ht : (pc : Int) + off = (tgt : Int)) (hP : ¬ x = 0) (hd : decode (mB i) pc = .ok (.ifCond .eq off, 3)) : Tr d i pc L (.inl x :: S) M (pc + 3) L (S) M := by
  refine Tr.pure ?_
  intro D dA lo p l e R s m args below meth c Qf H ls locs cells slots C hL hR hS hc hs k
  obtain ⟨hx, hb, -⟩ := id C
  exact lv_if_eq hx hb hd ht (fun h => absurd h hP) (fun _ => k ls hL)
theorem tr_icmp_eq_t {d i pc : Nat} {L : List (Option mL)} {S : List mV} {M : Mm} {x y : Int32} {off : Int} {tgt : Nat} (ht : (pc : Int) + off = (tgt : Int)) (hP : x = y) (hd : decode (mB i) pc = .ok (.if_icmp .eq off, 3)) : Tr d i pc L (.inl y :: .inl x :: S) M tgt L (S) M := by
  refine Tr.pure ?_
  intro D dA lo p l e R s m args below meth c Qf H ls locs cells slots C hL hR hS hc hs k
  obtain ⟨hx, hb, -⟩ := id C
  exact lv_icmp_eq hx hb hd ht (fun _ => k ls hL) (fun h => absurd hP h)
theorem tr_icmp_eq_f {d i pc : Nat} {L : List (Option mL)} {S : List mV} {M : Mm} {x y : Int32} {off : Int} {tgt : Nat} (ht : (pc : Int) + off = (tgt : Int)) (hP : ¬ x = y) (hd : decode (mB i) pc = .ok (.if_icmp .eq off, 3)) : Tr d i pc L (.inl y :: .inl x :: S) M (pc + 3) L (S) M := by
  refine Tr.pure ?_
  intro D dA lo p l e R s m args below meth c Qf H ls locs cells slots C hL hR hS hc hs k
  obtain ⟨hx, hb, -⟩ := id C
  exact lv_icmp_eq hx hb hd ht (fun h => absurd h hP) (fun _ => k ls hL)
theorem tr_if_ne_t {d i pc : Nat} {L : List (Option mL)} {S : List mV} {M : Mm} {x : Int32} {off : Int} {tgt : Nat} (ht : (pc : Int) + off = (tgt : Int)) (hP : ¬ x = 0) (hd : decode (mB i) pc = .ok (.ifCond .ne off, 3)) : Tr d i pc L (.inl x :: S) M tgt L (S) M := by
  refine Tr.pure ?_
  intro D dA lo p l e R s m args below meth c Qf H ls locs cells slots C hL hR hS hc hs k
  obtain ⟨hx, hb, -⟩ := id C
  exact lv_if_ne hx hb hd ht (fun _ => k ls hL) (fun h => absurd h hP)
theorem tr_if_ne_f {d i pc : Nat} {L : List (Option mL)} {S : List mV} {M : Mm} {x : Int32} {off : Int} {tgt : Nat} (ht : (pc : Int) + off = (tgt : Int)) (hP : x = 0) (hd : decode (mB i) pc = .ok (.ifCond .ne off, 3)) : Tr d i pc L (.inl x :: S) M (pc + 3) L (S) M := by
  refine Tr.pure ?_
  intro D dA lo p l e R s m args below meth c Qf H ls locs cells slots C hL hR hS hc hs k
  obtain ⟨hx, hb, -⟩ := id C
  exact lv_if_ne hx hb hd ht (fun h => absurd hP h) (fun _ => k ls hL)
theorem tr_icmp_ne_t {d i pc : Nat} {L : List (Option mL)} {S : List mV} {M : Mm} {x y : Int32} {off : Int} {tgt : Nat} (ht : (pc : Int) + off = (tgt : Int)) (hP : ¬ x = y) (hd : decode (mB i) pc = .ok (.if_icmp .ne off, 3)) : Tr d i pc L (.inl y :: .inl x :: S) M tgt L (S) M := by
  refine Tr.pure ?_
  intro D dA lo p l e R s m args below meth c Qf H ls locs cells slots C hL hR hS hc hs k
  obtain ⟨hx, hb, -⟩ := id C
  exact lv_icmp_ne hx hb hd ht (fun _ => k ls hL) (fun h => absurd h hP)
theorem tr_icmp_ne_f {d i pc : Nat} {L : List (Option mL)} {S : List mV} {M : Mm} {x y : Int32} {off : Int} {tgt : Nat} (ht : (pc : Int) + off = (tgt : Int)) (hP : x = y) (hd : decode (mB i) pc = .ok (.if_icmp .ne off, 3)) : Tr d i pc L (.inl y :: .inl x :: S) M (pc + 3) L (S) M := by
  refine Tr.pure ?_
  intro D dA lo p l e R s m args below meth c Qf H ls locs cells slots C hL hR hS hc hs k
  obtain ⟨hx, hb, -⟩ := id C
  exact lv_icmp_ne hx hb hd ht (fun h => absurd hP h) (fun _ => k ls hL)
theorem tr_if_lt_t {d i pc : Nat} {L : List (Option mL)} {S : List mV} {M : Mm} {x : Int32} {off : Int} {tgt : Nat} (ht : (pc : Int) + off = (tgt : Int)) (hP : x < 0) (hd : decode (mB i) pc = .ok (.ifCond .lt off, 3)) : Tr d i pc L (.inl x :: S) M tgt L (S) M := by
  refine Tr.pure ?_
  intro D dA lo p l e R s m args below meth c Qf H ls locs cells slots C hL hR hS hc hs k
  obtain ⟨hx, hb, -⟩ := id C
  exact lv_if_lt hx hb hd ht (fun _ => k ls hL) (fun h => absurd hP h)
theorem tr_if_lt_f {d i pc : Nat} {L : List (Option mL)} {S : List mV} {M : Mm} {x : Int32} {off : Int} {tgt : Nat} (ht : (pc : Int) + off = (tgt : Int)) (hP : ¬ x < 0) (hd : decode (mB i) pc = .ok (.ifCond .lt off, 3)) : Tr d i pc L (.inl x :: S) M (pc + 3) L (S) M := by
  refine Tr.pure ?_
  intro D dA lo p l e R s m args below meth c Qf H ls locs cells slots C hL hR hS hc hs k
  obtain ⟨hx, hb, -⟩ := id C
  exact lv_if_lt hx hb hd ht (fun h => absurd h hP) (fun _ => k ls hL)
theorem tr_icmp_lt_t {d i pc : Nat} {L : List (Option mL)} {S : List mV} {M : Mm} {x y : Int32} {off : Int} {tgt : Nat} (ht : (pc : Int) + off = (tgt : Int)) (hP : x < y) (hd : decode (mB i) pc = .ok (.if_icmp .lt off, 3)) : Tr d i pc L (.inl y :: .inl x :: S) M tgt L (S) M := by
  refine Tr.pure ?_
  intro D dA lo p l e R s m args below meth c Qf H ls locs cells slots C hL hR hS hc hs k
  obtain ⟨hx, hb, -⟩ := id C
  exact lv_icmp_lt hx hb hd ht (fun _ => k ls hL) (fun h => absurd hP h)
theorem tr_icmp_lt_f {d i pc : Nat} {L : List (Option mL)} {S : List mV} {M : Mm} {x y : Int32} {off : Int} {tgt : Nat} (ht : (pc : Int) + off = (tgt : Int)) (hP : ¬ x < y) (hd : decode (mB i) pc = .ok (.if_icmp .lt off, 3)) : Tr d i pc L (.inl y :: .inl x :: S) M (pc + 3) L (S) M := by
  refine Tr.pure ?_
  intro D dA lo p l e R s m args below meth c Qf H ls locs cells slots C hL hR hS hc hs k
  obtain ⟨hx, hb, -⟩ := id C
  exact lv_icmp_lt hx hb hd ht (fun h => absurd h hP) (fun _ => k ls hL)
theorem tr_if_ge_t {d i pc : Nat} {L : List (Option mL)} {S : List mV} {M : Mm} {x : Int32} {off : Int} {tgt : Nat} (ht : (pc : Int) + off = (tgt : Int)) (hP : 0 ≤ x) (hd : decode (mB i) pc = .ok (.ifCond .ge off, 3)) : Tr d i pc L (.inl x :: S) M tgt L (S) M := by
  refine Tr.pure ?_
  intro D dA lo p l e R s m args below meth c Qf H ls locs cells slots C hL hR hS hc hs k
  obtain ⟨hx, hb, -⟩ := id C
  exact lv_if_ge hx hb hd ht (fun _ => k ls hL) (fun h => absurd hP h)
theorem tr_if_ge_f {d i pc : Nat} {L : List (Option mL)} {S : List mV} {M : Mm} {x : Int32} {off : Int} {tgt : Nat} (ht : (pc : Int) + off = (tgt : Int)) (hP : ¬ 0 ≤ x) (hd : decode (mB i) pc = .ok (.ifCond .ge off, 3)) : Tr d i pc L (.inl x :: S) M (pc + 3) L (S) M := by
  refine Tr.pure ?_
  intro D dA lo p l e R s m args below meth c Qf H ls locs cells slots C hL hR hS hc hs k
  obtain ⟨hx, hb, -⟩ := id C
  exact lv_if_ge hx hb hd ht (fun h => absurd h hP) (fun _ => k ls hL)
theorem tr_icmp_ge_t {d i pc : Nat} {L : List (Option mL)} {S : List mV} {M : Mm} {x y : Int32} {off : Int} {tgt : Nat} (ht : (pc : Int) + off = (tgt : Int)) (hP : y ≤ x) (hd : decode (mB i) pc = .ok (.if_icmp .ge off, 3)) : Tr d i pc L (.inl y :: .inl x :: S) M tgt L (S) M := by
  refine Tr.pure ?_
  intro D dA lo p l e R s m args below meth c Qf H ls locs cells slots C hL hR hS hc hs k
  obtain ⟨hx, hb, -⟩ := id C
  exact lv_icmp_ge hx hb hd ht (fun _ => k ls hL) (fun h => absurd hP h)
theorem tr_icmp_ge_f {d i pc : Nat} {L : List (Option mL)} {S : List mV} {M : Mm} {x y : Int32} {off : Int} {tgt : Nat} (ht : (pc : Int) + off = (tgt : Int)) (hP : ¬ y ≤ x) (hd : decode (mB i) pc = .ok (.if_icmp .ge off, 3)) : Tr d i pc L (.inl y :: .inl x :: S) M (pc + 3) L (S) M := by
  refine Tr.pure ?_
  intro D dA lo p l e R s m args below meth c Qf H ls locs cells slots C hL hR hS hc hs k
  obtain ⟨hx, hb, -⟩ := id C
  exact lv_icmp_ge hx hb hd ht (fun h => absurd h hP) (fun _ => k ls hL)
theorem tr_if_gt_t {d i pc : Nat} {L : List (Option mL)} {S : List mV} {M : Mm} {x : Int32} {off : Int} {tgt : Nat} (ht : (pc : Int) + off = (tgt : Int)) (hP : 0 < x) (hd : decode (mB i) pc = .ok (.ifCond .gt off, 3)) : Tr d i pc L (.inl x :: S) M tgt L (S) M := by
  refine Tr.pure ?_
  intro D dA lo p l e R s m args below meth c Qf H ls locs cells slots C hL hR hS hc hs k
  obtain ⟨hx, hb, -⟩ := id C
  exact lv_if_gt hx hb hd ht (fun _ => k ls hL) (fun h => absurd hP h)
theorem tr_if_gt_f {d i pc : Nat} {L : List (Option mL)} {S : List mV} {M : Mm} {x : Int32} {off : Int} {tgt : Nat} (ht : (pc : Int) + off = (tgt : Int)) (hP : ¬ 0 < x) (hd : decode (mB i) pc = .ok (.ifCond .gt off, 3)) : Tr d i pc L (.inl x :: S) M (pc + 3) L (S) M := by
  refine Tr.pure ?_
  intro D dA lo p l e R s m args below meth c Qf H ls locs cells slots C hL hR hS hc hs k
  obtain ⟨hx, hb, -⟩ := id C
  exact lv_if_gt hx hb hd ht (fun h => absurd h hP) (fun _ => k ls hL)
theorem tr_icmp_gt_t {d i pc : Nat} {L : List (Option mL)} {S : List mV} {M : Mm} {x y : Int32} {off : Int} {tgt : Nat} (ht : (pc : Int) + off = (tgt : Int)) (hP : y < x) (hd : decode (mB i) pc = .ok (.if_icmp .gt off, 3)) : Tr d i pc L (.inl y :: .inl x :: S) M tgt L (S) M := by
  refine Tr.pure ?_
  intro D dA lo p l e R s m args below meth c Qf H ls locs cells slots C hL hR hS hc hs k
  obtain ⟨hx, hb, -⟩ := id C
  exact lv_icmp_gt hx hb hd ht (fun _ => k ls hL) (fun h => absurd hP h)
theorem tr_icmp_gt_f {d i pc : Nat} {L : List (Option mL)} {S : List mV} {M : Mm} {x y : Int32} {off : Int} {tgt : Nat} (ht : (pc : Int) + off = (tgt : Int)) (hP : ¬ y < x) (hd : decode (mB i) pc = .ok (.if_icmp .gt off, 3)) : Tr d i pc L (.inl y :: .inl x :: S) M (pc + 3) L (S) M := by
  refine Tr.pure ?_
  intro D dA lo p l e R s m args below meth c Qf H ls locs cells slots C hL hR hS hc hs k
  obtain ⟨hx, hb, -⟩ := id C
  exact lv_icmp_gt hx hb hd ht (fun h => absurd h hP) (fun _ => k ls hL)
theorem tr_if_le_t {d i pc : Nat} {L : List (Option mL)} {S : List mV} {M : Mm} {x : Int32} {off : Int} {tgt : Nat} (ht : (pc : Int) + off = (tgt : Int)) (hP : x ≤ 0) (hd : decode (mB i) pc = .ok (.ifCond .le off, 3)) : Tr d i pc L (.inl x :: S) M tgt L (S) M := by
  refine Tr.pure ?_
  intro D dA lo p l e R s m args below meth c Qf H ls locs cells slots C hL hR hS hc hs k
  obtain ⟨hx, hb, -⟩ := id C
  exact lv_if_le hx hb hd ht (fun _ => k ls hL) (fun h => absurd hP h)
theorem tr_if_le_f {d i pc : Nat} {L : List (Option mL)} {S : List mV} {M : Mm} {x : Int32} {off : Int} {tgt : Nat} (ht : (pc : Int) + off = (tgt : Int)) (hP : ¬ x ≤ 0) (hd : decode (mB i) pc = .ok (.ifCond .le off, 3)) : Tr d i pc L (.inl x :: S) M (pc + 3) L (S) M := by
  refine Tr.pure ?_
  intro D dA lo p l e R s m args below meth c Qf H ls locs cells slots C hL hR hS hc hs k
  obtain ⟨hx, hb, -⟩ := id C
  exact lv_if_le hx hb hd ht (fun h => absurd h hP) (fun _ => k ls hL)
theorem tr_icmp_le_t {d i pc : Nat} {L : List (Option mL)} {S : List mV} {M : Mm} {x y : Int32} {off : Int} {tgt : Nat} (ht : (pc : Int) + off = (tgt : Int)) (hP : x ≤ y) (hd : decode (mB i) pc = .ok (.if_icmp .le off, 3)) : Tr d i pc L (.inl y :: .inl x :: S) M tgt L (S) M := by
  refine Tr.pure ?_
  intro D dA lo p l e R s m args below meth c Qf H ls locs cells slots C hL hR hS hc hs k
  obtain ⟨hx, hb, -⟩ := id C
  exact lv_icmp_le hx hb hd ht (fun _ => k ls hL) (fun h => absurd hP h)
theorem tr_icmp_le_f {d i pc : Nat} {L : List (Option mL)} {S : List mV} {M : Mm} {x y : Int32} {off : Int} {tgt : Nat} (ht : (pc : Int) + off = (tgt : Int)) (hP : ¬ x ≤ y) (hd : decode (mB i) pc = .ok (.if_icmp .le off, 3)) : Tr d i pc L (.inl y :: .inl x :: S) M (pc + 3) L (S) M := by
  refine Tr.pure ?_
  intro D dA lo p l e R s m args below meth c Qf H ls locs cells slots C hL hR hS hc hs k
  obtain ⟨hx, hb, -⟩ := id C
  exact lv_icmp_le hx hb hd ht (fun h => absurd h hP) (fun _ => k ls hL)
theorem tr_ifnull_t {d i pc : Nat} {L : List (Option mL)} {S : List mV} {M : Mm} {off : Int} {tgt : Nat} (ht : (pc : Int) + off = (tgt : Int)) (hd : decode (mB i) pc = .ok (.ifnull off, 3)) : Tr d i pc L (.inr (.inr none) :: S) M tgt L (S) M := by
  refine Tr.pure ?_
  intro D dA lo p l e R s m args below meth c Qf H ls locs cells slots C hL hR hS hc hs k
  obtain ⟨hx, hb, -⟩ := id C
  exact lv_ifnullN hx hb hd ht (k ls hL)
theorem tr_ifnull_f {d i pc : Nat} {L : List (Option mL)} {S : List mV} {M : Mm} {off : Int} {a : Nat} (hd : decode (mB i) pc = .ok (.ifnull off, 3)) : Tr d i pc L (.inr (.inr (some a)) :: S) M (pc + 3) L (S) M := by
  refine Tr.pure ?_
  intro D dA lo p l e R s m args below meth c Qf H ls locs cells slots C hL hR hS hc hs k
  obtain ⟨hx, hb, -⟩ := id C
  exact lv_ifnull hx hb hd (k ls hL)
theorem tr_ifnonnull_f {d i pc : Nat} {L : List (Option mL)} {S : List mV} {M : Mm} {off : Int} (hd : decode (mB i) pc = .ok (.ifnonnull off, 3)) : Tr d i pc L (.inr (.inr none) :: S) M (pc + 3) L (S) M := by
  refine Tr.pure ?_
  intro D dA lo p l e R s m args below meth c Qf H ls locs cells slots C hL hR hS hc hs k
  obtain ⟨hx, hb, -⟩ := id C
  exact lv_ifnonnullN hx hb hd (k ls hL)
theorem tr_ifnonnull_t {d i pc : Nat} {L : List (Option mL)} {S : List mV} {M : Mm} {off : Int} {tgt : Nat} {a : Nat} (ht : (pc : Int) + off = (tgt : Int)) (hd : decode (mB i) pc = .ok (.ifnonnull off, 3)) : Tr d i pc L (.inr (.inr (some a)) :: S) M tgt L (S) M := by
  refine Tr.pure ?_
  intro D dA lo p l e R s m args below meth c Qf H ls locs cells slots C hL hR hS hc hs k
  obtain ⟨hx, hb, -⟩ := id C
  exact lv_ifnonnull hx hb hd ht (k ls hL)
theorem tr_acmp_eq_t {d i pc : Nat} {L : List (Option mL)} {S : List mV} {M : Mm} {off : Int} {tgt : Nat} {x y : Option Nat} (ht : (pc : Int) + off = (tgt : Int)) (hP : x = y) (hd : decode (mB i) pc = .ok (.if_acmp .eq off, 3)) : Tr d i pc L (.inr (.inr y) :: .inr (.inr x) :: S) M tgt L (S) M := by
  refine Tr.pure ?_
  intro D dA lo p l e R s m args below meth c Qf H ls locs cells slots C hL hR hS hc hs k
  obtain ⟨hx, hb, -⟩ := id C
  exact lv_acmp_eq hx hb hd ht (fun _ => k ls hL) (fun h => absurd hP h)
theorem tr_acmp_eq_f {d i pc : Nat} {L : List (Option mL)} {S : List mV} {M : Mm} {off : Int} {tgt : Nat} {x y : Option Nat} (ht : (pc : Int) + off = (tgt : Int)) (hP : ¬ x = y) (hd : decode (mB i) pc = .ok (.if_acmp .eq off, 3)) : Tr d i pc L (.inr (.inr y) :: .inr (.inr x) :: S) M (pc + 3) L (S) M := by
  refine Tr.pure ?_
  intro D dA lo p l e R s m args below meth c Qf H ls locs cells slots C hL hR hS hc hs k
  obtain ⟨hx, hb, -⟩ := id C
  exact lv_acmp_eq hx hb hd ht (fun h => absurd h hP) (fun _ => k ls hL)
theorem tr_acmp_ne_t {d i pc : Nat} {L : List (Option mL)} {S : List mV} {M : Mm} {off : Int} {tgt : Nat} {x y : Option Nat} (ht : (pc : Int) + off = (tgt : Int)) (hP : ¬ x = y) (hd : decode (mB i) pc = .ok (.if_acmp .ne off, 3)) : Tr d i pc L (.inr (.inr y) :: .inr (.inr x) :: S) M tgt L (S) M := by
  refine Tr.pure ?_
  intro D dA lo p l e R s m args below meth c Qf H ls locs cells slots C hL hR hS hc hs k
  obtain ⟨hx, hb, -⟩ := id C
  exact lv_acmp_ne hx hb hd ht (fun _ => k ls hL) (fun h => absurd h hP)
theorem tr_acmp_ne_f {d i pc : Nat} {L : List (Option mL)} {S : List mV} {M : Mm} {off : Int} {tgt : Nat} {x y : Option Nat} (ht : (pc : Int) + off = (tgt : Int)) (hP : x = y) (hd : decode (mB i) pc = .ok (.if_acmp .ne off, 3)) : Tr d i pc L (.inr (.inr y) :: .inr (.inr x) :: S) M (pc + 3) L (S) M := by
  refine Tr.pure ?_
  intro D dA lo p l e R s m args below meth c Qf H ls locs cells slots C hL hR hS hc hs k
  obtain ⟨hx, hb, -⟩ := id C
  exact lv_acmp_ne hx hb hd ht (fun h => absurd hP h) (fun _ => k ls hL)
