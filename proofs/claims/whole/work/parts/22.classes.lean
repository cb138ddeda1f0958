/-! of the classes, printed by gen_static.py -/
theorem ci0 : ∀ w ∈ u_ws "WaitingWrites" TC0 19, w ∈ gw := by
  intro w hw
  obtain ⟨k, hk, rfl⟩ := List.mem_map.mp hw
  have hk := List.mem_range.mp hk
  match k, hk with
  | 0, _ => exact g1 (i := 92) rfl rfl
  | 1, _ => exact g1 (i := 94) rfl rfl
  | 2, _ => exact g1 (i := 96) rfl rfl
  | 3, _ => exact g1 (i := 98) rfl rfl
  | 4, _ => exact g1 (i := 100) rfl rfl
  | 5, _ => exact g1 (i := 102) rfl rfl
  | 6, _ => exact g1 (i := 104) rfl rfl
  | 7, _ => exact g1 (i := 106) rfl rfl
  | 8, _ => exact g1 (i := 108) rfl rfl
  | 9, _ => exact g1 (i := 110) rfl rfl
  | 10, _ => exact g1 (i := 112) rfl rfl
  | 11, _ => exact g1 (i := 114) rfl rfl
  | 12, _ => exact g1 (i := 116) rfl rfl
  | 13, _ => exact g1 (i := 118) rfl rfl
  | 14, _ => exact g1 (i := 120) rfl rfl
  | 15, _ => exact g1 (i := 122) rfl rfl
  | 16, _ => exact g1 (i := 124) rfl rfl
  | 17, _ => exact g1 (i := 126) rfl rfl
  | 18, _ => exact g1 (i := 128) rfl rfl
  | k + 19, hk => exact absurd hk (by omega)
theorem ci1 : ∀ w ∈ u_ws "WaitingWrites$Bytes" TC1 2, w ∈ gw := by
  intro w hw
  obtain ⟨k, hk, rfl⟩ := List.mem_map.mp hw
  have hk := List.mem_range.mp hk
  match k, hk with
  | 0, _ => exact g0 (i := 209) rfl rfl
  | 1, _ => exact g0 (i := 211) rfl rfl
  | k + 2, hk => exact absurd hk (by omega)
theorem ci2 : ∀ w ∈ u_ws "WaitingWrites$Cache" TC2 3, w ∈ gw := by
  intro w hw
  obtain ⟨k, hk, rfl⟩ := List.mem_map.mp hw
  have hk := List.mem_range.mp hk
  match k, hk with
  | 0, _ => exact g0 (i := 127) rfl rfl
  | 1, _ => exact g0 (i := 129) rfl rfl
  | 2, _ => exact g0 (i := 131) rfl rfl
  | k + 3, hk => exact absurd hk (by omega)
theorem ci3 : ∀ w ∈ u_ws "WaitingWrites$Disk" TC3 2, w ∈ gw := by
  intro w hw
  obtain ⟨k, hk, rfl⟩ := List.mem_map.mp hw
  have hk := List.mem_range.mp hk
  match k, hk with
  | 0, _ => exact g0 (i := 59) rfl rfl
  | 1, _ => exact g0 (i := 61) rfl rfl
  | k + 2, hk => exact absurd hk (by omega)
theorem ci4 : ∀ w ∈ u_ws "WaitingWrites$Entries" TC4 3, w ∈ gw := by
  intro w hw
  obtain ⟨k, hk, rfl⟩ := List.mem_map.mp hw
  have hk := List.mem_range.mp hk
  match k, hk with
  | 0, _ => exact g0 (i := 173) rfl rfl
  | 1, _ => exact g0 (i := 175) rfl rfl
  | 2, _ => exact g0 (i := 177) rfl rfl
  | k + 3, hk => exact absurd hk (by omega)
theorem ci5 : ∀ w ∈ u_ws "WaitingWrites$Index" TC5 4, w ∈ gw := by
  intro w hw
  obtain ⟨k, hk, rfl⟩ := List.mem_map.mp hw
  have hk := List.mem_range.mp hk
  match k, hk with
  | 0, _ => exact g0 (i := 188) rfl rfl
  | 1, _ => exact g0 (i := 190) rfl rfl
  | 2, _ => exact g0 (i := 192) rfl rfl
  | 3, _ => exact g0 (i := 194) rfl rfl
  | k + 4, hk => exact absurd hk (by omega)
theorem ci6 : ∀ w ∈ u_ws "WaitingWrites$Layout" TC6 2, w ∈ gw := by
  intro w hw
  obtain ⟨k, hk, rfl⟩ := List.mem_map.mp hw
  have hk := List.mem_range.mp hk
  match k, hk with
  | 0, _ => exact g0 (i := 144) rfl rfl
  | 1, _ => exact g0 (i := 146) rfl rfl
  | k + 2, hk => exact absurd hk (by omega)
theorem ci7 : ∀ w ∈ u_ws "WaitingWrites$Queue" TC7 3, w ∈ gw := by
  intro w hw
  obtain ⟨k, hk, rfl⟩ := List.mem_map.mp hw
  have hk := List.mem_range.mp hk
  match k, hk with
  | 0, _ => exact g0 (i := 110) rfl rfl
  | 1, _ => exact g0 (i := 112) rfl rfl
  | 2, _ => exact g0 (i := 114) rfl rfl
  | k + 3, hk => exact absurd hk (by omega)
theorem ci8 : ∀ w ∈ u_ws "WaitingWrites$Rec" TC8 5, w ∈ gw := by
  intro w hw
  obtain ⟨k, hk, rfl⟩ := List.mem_map.mp hw
  have hk := List.mem_range.mp hk
  match k, hk with
  | 0, _ => exact g0 (i := 45) rfl rfl
  | 1, _ => exact g0 (i := 47) rfl rfl
  | 2, _ => exact g0 (i := 49) rfl rfl
  | 3, _ => exact g0 (i := 51) rfl rfl
  | 4, _ => exact g0 (i := 53) rfl rfl
  | k + 5, hk => exact absurd hk (by omega)
theorem ci9 : ∀ w ∈ u_ws "WaitingWrites$Write" TC9 7, w ∈ gw := by
  intro w hw
  obtain ⟨k, hk, rfl⟩ := List.mem_map.mp hw
  have hk := List.mem_range.mp hk
  match k, hk with
  | 0, _ => exact g0 (i := 91) rfl rfl
  | 1, _ => exact g0 (i := 93) rfl rfl
  | 2, _ => exact g0 (i := 95) rfl rfl
  | 3, _ => exact g0 (i := 97) rfl rfl
  | 4, _ => exact g0 (i := 99) rfl rfl
  | 5, _ => exact g0 (i := 101) rfl rfl
  | 6, _ => exact g0 (i := 103) rfl rfl
  | k + 7, hk => exact absurd hk (by omega)
theorem ci10 : ∀ w ∈ u_ws "WaitingWritesModel" TC10 40, w ∈ gw := by
  intro w hw
  obtain ⟨k, hk, rfl⟩ := List.mem_map.mp hw
  have hk := List.mem_range.mp hk
  match k, hk with
  | 0, _ => exact g3 (i := 36) rfl rfl
  | 1, _ => exact g3 (i := 38) rfl rfl
  | 2, _ => exact g3 (i := 40) rfl rfl
  | 3, _ => exact g3 (i := 42) rfl rfl
  | 4, _ => exact g3 (i := 44) rfl rfl
  | 5, _ => exact g3 (i := 46) rfl rfl
  | 6, _ => exact g3 (i := 48) rfl rfl
  | 7, _ => exact g3 (i := 50) rfl rfl
  | 8, _ => exact g3 (i := 52) rfl rfl
  | 9, _ => exact g3 (i := 54) rfl rfl
  | 10, _ => exact g3 (i := 56) rfl rfl
  | 11, _ => exact g3 (i := 58) rfl rfl
  | 12, _ => exact g3 (i := 60) rfl rfl
  | 13, _ => exact g3 (i := 62) rfl rfl
  | 14, _ => exact g3 (i := 64) rfl rfl
  | 15, _ => exact g3 (i := 66) rfl rfl
  | 16, _ => exact g3 (i := 68) rfl rfl
  | 17, _ => exact g3 (i := 70) rfl rfl
  | 18, _ => exact g3 (i := 72) rfl rfl
  | 19, _ => exact g3 (i := 74) rfl rfl
  | 20, _ => exact g3 (i := 76) rfl rfl
  | 21, _ => exact g3 (i := 78) rfl rfl
  | 22, _ => exact g3 (i := 80) rfl rfl
  | 23, _ => exact g3 (i := 82) rfl rfl
  | 24, _ => exact g3 (i := 84) rfl rfl
  | 25, _ => exact g3 (i := 86) rfl rfl
  | 26, _ => exact g3 (i := 88) rfl rfl
  | 27, _ => exact g3 (i := 90) rfl rfl
  | 28, _ => exact g3 (i := 92) rfl rfl
  | 29, _ => exact g3 (i := 94) rfl rfl
  | 30, _ => exact g3 (i := 96) rfl rfl
  | 31, _ => exact g3 (i := 98) rfl rfl
  | 32, _ => exact g3 (i := 100) rfl rfl
  | 33, _ => exact g3 (i := 102) rfl rfl
  | 34, _ => exact g3 (i := 104) rfl rfl
  | 35, _ => exact g3 (i := 106) rfl rfl
  | 36, _ => exact g3 (i := 108) rfl rfl
  | 37, _ => exact g3 (i := 110) rfl rfl
  | 38, _ => exact g3 (i := 112) rfl rfl
  | 39, _ => exact g3 (i := 114) rfl rfl
  | k + 40, hk => exact absurd hk (by omega)
theorem cls_all (t : Nat) (C : String) (T : u_T) (N : Nat) (h : classes[t]? = some (C, T, N)) : (∀ w ∈ u_ws C T N, w ∈ gw) ∧ (∀ k, k < N → parseFieldDescriptor (T k).2.2.1 = some (tyOf t k)) ∧ (∀ a, a < N → ∀ b, b < N → a ≠ b → (T a).2.1 ≠ (T b).2.1) ∧ (∀ k, k < N → tyC (tyOf t k) ≤ 3) := by
  match t, h with
  | 0, h => cases h; exact ⟨ci0, by decide +kernel, by decide +kernel, by decide +kernel⟩
  | 1, h => cases h; exact ⟨ci1, by decide +kernel, by decide +kernel, by decide +kernel⟩
  | 2, h => cases h; exact ⟨ci2, by decide +kernel, by decide +kernel, by decide +kernel⟩
  | 3, h => cases h; exact ⟨ci3, by decide +kernel, by decide +kernel, by decide +kernel⟩
  | 4, h => cases h; exact ⟨ci4, by decide +kernel, by decide +kernel, by decide +kernel⟩
  | 5, h => cases h; exact ⟨ci5, by decide +kernel, by decide +kernel, by decide +kernel⟩
  | 6, h => cases h; exact ⟨ci6, by decide +kernel, by decide +kernel, by decide +kernel⟩
  | 7, h => cases h; exact ⟨ci7, by decide +kernel, by decide +kernel, by decide +kernel⟩
  | 8, h => cases h; exact ⟨ci8, by decide +kernel, by decide +kernel, by decide +kernel⟩
  | 9, h => cases h; exact ⟨ci9, by decide +kernel, by decide +kernel, by decide +kernel⟩
  | 10, h => cases h; exact ⟨ci10, by decide +kernel, by decide +kernel, by decide +kernel⟩
  | t + 11, h => simp [classes] at h
theorem cls_in (t : Nat) (C : String) (T : u_T) (N : Nat) (h : classes[t]? = some (C, T, N)) : ∀ w ∈ u_ws C T N, w ∈ gw := (cls_all t C T N h).1
theorem cls_ty (t : Nat) (C : String) (T : u_T) (N : Nat) (h : classes[t]? = some (C, T, N)) : ∀ k, k < N → parseFieldDescriptor (T k).2.2.1 = some (tyOf t k) := (cls_all t C T N h).2.1
theorem cls_nm (t : Nat) (C : String) (T : u_T) (N : Nat) (h : classes[t]? = some (C, T, N)) : ∀ a, a < N → ∀ b, b < N → a ≠ b → (T a).2.1 ≠ (T b).2.1 := (cls_all t C T N h).2.2.1
theorem cls_le (t : Nat) (C : String) (T : u_T) (N : Nat) (h : classes[t]? = some (C, T, N)) : ∀ k, k < N → tyC (tyOf t k) ≤ 3 := (cls_all t C T N h).2.2.2
