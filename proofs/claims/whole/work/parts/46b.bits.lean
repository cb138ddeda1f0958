/-! Long.bitCount is what bcl says -/
theorem bcd0 : decode (mB 95) 0 = .ok (.lload_n 0, 1) := by decide +kernel
theorem bcd1 : decode (mB 95) 1 = .ok (.lload_n 0, 1) := by decide +kernel
theorem bcd2 : decode (mB 95) 2 = .ok (.iconst 1, 1) := by decide +kernel
theorem bcd3 : decode (mB 95) 3 = .ok (.lushr, 1) := by decide +kernel
theorem bcd4 : decode (mB 95) 4 = .ok (.ldc2_w 314, 3) := by decide +kernel
theorem bcd7 : decode (mB 95) 7 = .ok (.land, 1) := by decide +kernel
theorem bcd8 : decode (mB 95) 8 = .ok (.lsub, 1) := by decide +kernel
theorem bcd9 : decode (mB 95) 9 = .ok (.lstore_n 0, 1) := by decide +kernel
theorem bcd10 : decode (mB 95) 10 = .ok (.lload_n 0, 1) := by decide +kernel
theorem bcd11 : decode (mB 95) 11 = .ok (.ldc2_w 316, 3) := by decide +kernel
theorem bcd14 : decode (mB 95) 14 = .ok (.land, 1) := by decide +kernel
theorem bcd15 : decode (mB 95) 15 = .ok (.lload_n 0, 1) := by decide +kernel
theorem bcd16 : decode (mB 95) 16 = .ok (.iconst 2, 1) := by decide +kernel
theorem bcd17 : decode (mB 95) 17 = .ok (.lushr, 1) := by decide +kernel
theorem bcd18 : decode (mB 95) 18 = .ok (.ldc2_w 316, 3) := by decide +kernel
theorem bcd21 : decode (mB 95) 21 = .ok (.land, 1) := by decide +kernel
theorem bcd22 : decode (mB 95) 22 = .ok (.ladd, 1) := by decide +kernel
theorem bcd23 : decode (mB 95) 23 = .ok (.lstore_n 0, 1) := by decide +kernel
theorem bcd24 : decode (mB 95) 24 = .ok (.lload_n 0, 1) := by decide +kernel
theorem bcd25 : decode (mB 95) 25 = .ok (.lload_n 0, 1) := by decide +kernel
theorem bcd26 : decode (mB 95) 26 = .ok (.iconst 4, 1) := by decide +kernel
theorem bcd27 : decode (mB 95) 27 = .ok (.lushr, 1) := by decide +kernel
theorem bcd28 : decode (mB 95) 28 = .ok (.ladd, 1) := by decide +kernel
theorem bcd29 : decode (mB 95) 29 = .ok (.ldc2_w 318, 3) := by decide +kernel
theorem bcd32 : decode (mB 95) 32 = .ok (.land, 1) := by decide +kernel
theorem bcd33 : decode (mB 95) 33 = .ok (.lstore_n 0, 1) := by decide +kernel
theorem bcd34 : decode (mB 95) 34 = .ok (.lload_n 0, 1) := by decide +kernel
theorem bcd35 : decode (mB 95) 35 = .ok (.lload_n 0, 1) := by decide +kernel
theorem bcd36 : decode (mB 95) 36 = .ok (.bipush 8, 2) := by decide +kernel
theorem bcd38 : decode (mB 95) 38 = .ok (.lushr, 1) := by decide +kernel
theorem bcd39 : decode (mB 95) 39 = .ok (.ladd, 1) := by decide +kernel
theorem bcd40 : decode (mB 95) 40 = .ok (.lstore_n 0, 1) := by decide +kernel
theorem bcd41 : decode (mB 95) 41 = .ok (.lload_n 0, 1) := by decide +kernel
theorem bcd42 : decode (mB 95) 42 = .ok (.lload_n 0, 1) := by decide +kernel
theorem bcd43 : decode (mB 95) 43 = .ok (.bipush 16, 2) := by decide +kernel
theorem bcd45 : decode (mB 95) 45 = .ok (.lushr, 1) := by decide +kernel
theorem bcd46 : decode (mB 95) 46 = .ok (.ladd, 1) := by decide +kernel
theorem bcd47 : decode (mB 95) 47 = .ok (.lstore_n 0, 1) := by decide +kernel
theorem bcd48 : decode (mB 95) 48 = .ok (.lload_n 0, 1) := by decide +kernel
theorem bcd49 : decode (mB 95) 49 = .ok (.lload_n 0, 1) := by decide +kernel
theorem bcd50 : decode (mB 95) 50 = .ok (.bipush 32, 2) := by decide +kernel
theorem bcd52 : decode (mB 95) 52 = .ok (.lushr, 1) := by decide +kernel
theorem bcd53 : decode (mB 95) 53 = .ok (.ladd, 1) := by decide +kernel
theorem bcd54 : decode (mB 95) 54 = .ok (.lstore_n 0, 1) := by decide +kernel
theorem bcd55 : decode (mB 95) 55 = .ok (.lload_n 0, 1) := by decide +kernel
theorem bcd56 : decode (mB 95) 56 = .ok (.l2i, 1) := by decide +kernel
theorem bcd57 : decode (mB 95) 57 = .ok (.bipush 127, 2) := by decide +kernel
theorem bcd59 : decode (mB 95) 59 = .ok (.iand, 1) := by decide +kernel
theorem bcd60 : decode (mB 95) 60 = .ok (.ireturn, 1) := by decide +kernel
theorem bw1 : Cond.methodLink (mOw 94) 54 (mY 95) ∈ gw := gw_in (by decide +kernel) rfl
theorem bw2 : Cond.static (mY 95) ∈ gw := gw_in (by decide +kernel) rfl
theorem bw3 : Cond.initialized (mY 95).cls ∈ gw := gw_in (by decide +kernel) rfl
theorem bw4 : Cond.code (mY 95) (mB 95) (mX 95) (mRt 95) ∈ gw := gw_in (by decide +kernel) rfl
theorem bk314 : Cond.constantLong "java/lang/Long" 314 6148914691236517205 ∈ gw := gw_in (by decide +kernel) rfl
theorem bk316 : Cond.constantLong "java/lang/Long" 316 3689348814741910323 ∈ gw := gw_in (by decide +kernel) rfl
theorem bk318 : Cond.constantLong "java/lang/Long" 318 1085102592571150095 ∈ gw := gw_in (by decide +kernel) rfl
def Pb (D : va_G) (dA : Nat → ClassId) (lo : Nat) (x : Int64) (M : Mm) : Array Value → State → Prop := va_Pc [.long x] (fun U => Rep D dA lo M U.heap ∧ KK D dA U ∧ lo ≤ U.heap.size)
theorem Pb.blind {D : va_G} {dA : Nat → ClassId} {lo : Nat} {x : Int64} {M : Mm} : FrameBlind (Pb D dA lo x M) := by
  intro a U g mk q
  obtain ⟨q0, q1, q2, q3⟩ := q
  refine ⟨q0, q1, ?_, q3⟩
  exact ⟨va_K.moved (u := U) (U := U.calling g mk a) (Vm.Alike.refl U.vm) q2.1, fun t ty ht => ⟨arrOfT_moved (u := U) (E := U.calling g mk a) (Vm.Alike.refl U.vm) (q2.2.1 t ty ht).1, fun hn => ((q2.2.1 t ty ht).2 hn).moved (u := U) (U := U.calling g mk a) (Vm.Alike.refl U.vm)⟩, fun w hw => (q2.2.2.1 w hw).same rfl (u := U) (U := U.calling g mk a) rfl, fun w hw => (q2.2.2.2.1 w hw).same rfl (u := U) (U := U.calling g mk a) rfl, fun t q h1 h2 => (q2.2.2.2.2.1 t q h1 h2).moved (u := U) (U := U.calling g mk a) (Vm.Alike.refl U.vm), q2.2.2.2.2.2.same rfl (u := U) (U := U.calling g mk a) rfl⟩
def bsh (x : Int64) (k : Int32) : Int64 := (x.toUInt64 >>> (k.toInt64.toUInt64 &&& Int64.toUInt64 63)).toInt64
theorem bc_met (l : Launch) (D : va_G) (dA : Nat → ClassId) (lo : Nat) (x : Int64) (M : Mm) : Met l (mY 95) (mW 95) { frames := 0, cells := 0, slots := 0, locals := 0 } (Pb D dA lo x M) (Qx D dA lo (some (.inl (bcl x))) M) 0 0 (fr lo) := by
  refine Met.ofW (cc := mB 95) (maxL := mX 95) (ret := mRt 95) (by decide +kernel) rfl ?_
  intro p e s m args below meth c s₁ B hml hv
  obtain ⟨rfl, hR, hKK, hlo⟩ := hv
  have hts := atoms_spec (ws := mW 95) B.pre
  have hown : s.vm.findClass "java/lang/Long" = some m.cls := findClass_of_methodNamed B.named
  have hlocks := B.notSynchronized
  rw [lg_entry_eq]
  have hx := B.exec
  have hb := B.bytes
  have hr := B.returns
  have hl := lv_entry [Value.long x] (n := mX 95) (Nat.le_refl 2)
  generalize (lg_sl [Value.long x] ++ List.replicate (mX 95 - (lg_sl [Value.long x]).length) Slot.unset).toArray = ls at hl ⊢
  have hl : lv_has ls 2 [(0, .long x)] := hl
  refine lv_lload_n hx hb bcd0 rfl (lv_at hl 0 rfl) ?_
  refine lv_lload_n hx hb bcd1 rfl (lv_at hl 0 rfl) ?_
  refine lv_iconst (v := 1) hx hb bcd2 (by decide) ?_
  refine lv_lushr hx hb bcd3 rfl ?_
  refine lv_ldc2 hx hb hown (hts _ (List.mem_cons_of_mem _ bk314)) bcd4 ?_
  refine lv_land hx hb bcd7 ?_
  refine lv_lsub hx hb bcd8 ?_
  refine lv_lstore_n (lv' := [(0, .long (x - (bsh x 1 &&& 6148914691236517205)))]) hx hb bcd9 rfl hl (by decide) rfl (fun ls hl => ?_)
  generalize hx1 : x - (bsh x 1 &&& 6148914691236517205) = x1 at hl
  refine lv_lload_n hx hb bcd10 rfl (lv_at hl 0 rfl) ?_
  refine lv_ldc2 hx hb hown (hts _ (List.mem_cons_of_mem _ bk316)) bcd11 ?_
  refine lv_land hx hb bcd14 ?_
  refine lv_lload_n hx hb bcd15 rfl (lv_at hl 0 rfl) ?_
  refine lv_iconst (v := 2) hx hb bcd16 (by decide) ?_
  refine lv_lushr hx hb bcd17 rfl ?_
  refine lv_ldc2 hx hb hown (hts _ (List.mem_cons_of_mem _ bk316)) bcd18 ?_
  refine lv_land hx hb bcd21 ?_
  refine lv_ladd hx hb bcd22 ?_
  refine lv_lstore_n (lv' := [(0, .long ((x1 &&& 3689348814741910323) + (bsh x1 2 &&& 3689348814741910323)))]) hx hb bcd23 rfl hl (by decide) rfl (fun ls hl => ?_)
  generalize hx2 : (x1 &&& 3689348814741910323) + (bsh x1 2 &&& 3689348814741910323) = x2 at hl
  refine lv_lload_n hx hb bcd24 rfl (lv_at hl 0 rfl) ?_
  refine lv_lload_n hx hb bcd25 rfl (lv_at hl 0 rfl) ?_
  refine lv_iconst (v := 4) hx hb bcd26 (by decide) ?_
  refine lv_lushr hx hb bcd27 rfl ?_
  refine lv_ladd hx hb bcd28 ?_
  refine lv_ldc2 hx hb hown (hts _ (List.mem_cons_of_mem _ bk318)) bcd29 ?_
  refine lv_land hx hb bcd32 ?_
  refine lv_lstore_n (lv' := [(0, .long ((x2 + bsh x2 4) &&& 1085102592571150095))]) hx hb bcd33 rfl hl (by decide) rfl (fun ls hl => ?_)
  generalize hx3 : (x2 + bsh x2 4) &&& 1085102592571150095 = x3 at hl
  refine lv_lload_n hx hb bcd34 rfl (lv_at hl 0 rfl) ?_
  refine lv_lload_n hx hb bcd35 rfl (lv_at hl 0 rfl) ?_
  refine lv_bipush (v := 8) hx hb bcd36 (by decide) ?_
  refine lv_lushr hx hb bcd38 rfl ?_
  refine lv_ladd hx hb bcd39 ?_
  refine lv_lstore_n (lv' := [(0, .long (x3 + bsh x3 8))]) hx hb bcd40 rfl hl (by decide) rfl (fun ls hl => ?_)
  generalize hx4 : x3 + bsh x3 8 = x4 at hl
  refine lv_lload_n hx hb bcd41 rfl (lv_at hl 0 rfl) ?_
  refine lv_lload_n hx hb bcd42 rfl (lv_at hl 0 rfl) ?_
  refine lv_bipush (v := 16) hx hb bcd43 (by decide) ?_
  refine lv_lushr hx hb bcd45 rfl ?_
  refine lv_ladd hx hb bcd46 ?_
  refine lv_lstore_n (lv' := [(0, .long (x4 + bsh x4 16))]) hx hb bcd47 rfl hl (by decide) rfl (fun ls hl => ?_)
  generalize hx5 : x4 + bsh x4 16 = x5 at hl
  refine lv_lload_n hx hb bcd48 rfl (lv_at hl 0 rfl) ?_
  refine lv_lload_n hx hb bcd49 rfl (lv_at hl 0 rfl) ?_
  refine lv_bipush (v := 32) hx hb bcd50 (by decide) ?_
  refine lv_lushr hx hb bcd52 rfl ?_
  refine lv_ladd hx hb bcd53 ?_
  refine lv_lstore_n (lv' := [(0, .long (x5 + bsh x5 32))]) hx hb bcd54 rfl hl (by decide) rfl (fun ls hl => ?_)
  generalize hx6 : x5 + bsh x5 32 = x6 at hl
  refine lv_lload_n hx hb bcd55 rfl (lv_at hl 0 rfl) ?_
  refine lv_l2i hx hb bcd56 rfl ?_
  refine lv_bipush (v := 127) hx hb bcd57 (by decide) ?_
  refine lv_iand hx hb bcd59 ?_
  have e : x6.toInt32 &&& 127 = bcl x := by
    rw [← hx6, ← hx5, ← hx4, ← hx3, ← hx2, ← hx1]
    rfl
  rw [e]
  exact W.iret (v := bcl x) hx hb (hr.trans rfl) (fun t ht _ => ⟨rfl, by rw [ht]; exact hR, va_S.rf.F ht⟩) (fun q hq => by cases hq) bcd60
theorem bc_lk_94 : bcLk 94 54 := by
  intro d pc L S M x hd hdp hS8
  refine ⟨Nat.le_refl _, Nat.le_refl _, ?_⟩
  intro D dA lo p l e R s m args below meth c Qf H ls locs cells slots C hL hR hS hc hs kk
  have hM := bc_met l D dA lo x M
  obtain ⟨hx, hb, hml, hown, hts, -, -, hKK, hlo, hRm, -⟩ := id C
  have o6 : (parseMethodDescriptor (mY 95).desc).map (fun d => d.parameters.length) = some 1 := by decide +kernel
  have hpl : ∀ sig, parseMethodDescriptor (mY 95).desc = some sig → 1 = sig.parameters.length := fun sig h => by
    rw [h] at o6
    exact (Option.some.inj o6).symm
  have hstk : ((S.map m_val).map fun v => v.category).sum ≤ 8 := by rw [stk_sum]; exact hS8
  have go : va_Run p l e R s m args below meth c H locs cells slots 0 0 (F0 m pc ls ((.inr (.inl x) :: S : List mV).map m_val)) (S.map m_val) (Qx D dA lo (some (.inl (bcl x))) M [Value.long x].toArray) (fr lo) :=
    va_runS (Ts := gw) (As := [Value.long x]) ⟨hx, hb, hml, hown, hts⟩ hM ⟨⟨rfl, rfl, by have := hRm.1; show 0 + 1 ≤ _; omega, by have := hRm.2; show 8 + (2 + 11) + 0 ≤ _; omega, pay_in hts (good_mW bw4), List.mem_cons_self, hts _ bw4, hts _ bw3, ⟨by decide +kernel, by decide +kernel⟩, hpl, hts _ bw1⟩, hts _ bw2⟩ ⟨Pb.blind, fun U hU hW => ⟨rfl, by rw [hU]; exact hR, hKK.moved hW, by rw [hU]; exact Nat.le_trans hlo hS.1⟩⟩ rfl rfl hL.2.1 rfl (lv_room hstk) hd ⟨by omega, by omega⟩
  refine va_callX go hS fun H1 locs1 hR1 hS1 => ?_
  have := kk H1 ls locs1 hL hR1 hS1
  rw [Nat.sub_self, Nat.sub_self] at this
  exact this
