/-! the whole table, printed by gen_static.py -/
def cdT : List (List (Nat × mI)) := [cd0, cd1, cd2, cd3, cd4, cd5, cd6, cd7, cd8, cd9, cd10, cd11, cd12, cd13, cd14, cd15, cd16, cd17, cd18, cd19, cd20, cd21, cd22, cd23, cd24, cd25, cd26, cd27, cd28, cd29, cd30, cd31, cd32, cd33, cd34, cd35, cd36, cd37, cd38, cd39, cd40, cd41, cd42, cd43, cd44, cd45, cd46, cd47, cd48, cd49, cd50, cd51, cd52, cd53, cd54, cd55, cd56, cd57, cd58, cd59, cd60, cd61, cd62, cd63, cd64, cd65, cd66, cd67, cd68, cd69, cd70, cd71, cd72, cd73, cd74, cd75, cd76, cd77, cd78, cd79, cd80, cd81, cd82, cd83, cd84, cd85, cd86, cd87, cd88, cd89, cd90, cd91, cd92, cd93, cd94, cd95, cd96, cd97, cd98, cd99, cd100, cd101, cd102, cd103, cd104, cd105, cd106, cd107, cd108, cd109, cd110, cd111, cd112, cd113, cd114, cd115, cd116, cd117, cd118, cd119, cd120, cd121, cd122, cd123, cd124, cd125, cd126, cd127, cd128, cd129, cd130, cd131, cd132, cd133, cd134, cd135, cd136, cd137, cd138, cd139, cd140, cd141, cd142, cd143, cd144, cd145, cd146, cd147, cd148, cd149, cd150, cd151, cd152, cd153, cd154, cd155, cd156, cd157, cd158, cd159, cd160, cd161]
def lkq : List (Nat × mI) → Nat → Option mI
  | [], _ => none
  | e :: l, pc => bif Nat.beq e.1 pc then some e.2 else lkq l pc
def cd (i pc : Nat) : Option mI := lkq ((cdT[i]?).getD []) pc
def cutT : List (List Nat) := [[7, 15, 18, 149, 178, 197, 211, 225, 234, 248, 257, 271, 280, 294, 303, 312, 316, 330, 339, 353, 362, 376, 385, 399, 408, 417, 421, 430, 434, 448, 457, 476, 490, 509, 523, 547, 566, 585, 599], [12, 23, 34, 45, 56, 67, 81, 95, 109, 123, 164], [], [43], [], [15, 34], [], [], [], [12, 31, 36, 53], [21], [8], [5], [], [], [8, 38, 46, 53, 55, 63, 74, 80, 89, 101], [], [2, 18], [], [7], [], [], [5, 8, 23, 34], [5, 8], [8, 18, 30], [7], [], [], [], [], [2, 26, 70], [4, 11, 16, 36, 41, 84, 100, 103], [], [], [21], [4, 9, 17, 31, 42, 62, 67, 75, 100, 111], [], [], [4], [], [], [26, 34, 42, 51, 60], [8, 13], [8, 13], [11, 54, 66, 73, 77, 89, 98, 113, 134, 137], [2, 25], [2], [15, 34, 38, 49, 52, 59], [4, 15], [4], [2, 13], [], [14, 18, 34, 61, 66, 93, 114, 121], [7, 17, 25, 33, 47, 58, 76, 87], [2], [30], [], [2, 20], [], [15, 44], [8, 11, 39, 46], [4], [17, 30, 39], [8], [17, 31], [40, 52, 65, 68, 71, 83, 92, 109, 121, 125], [4, 15], [], [8, 22, 29, 40, 46, 55], [7, 9, 29, 40, 43], [4, 12, 14, 37, 54, 57, 72, 75], [4, 6, 24, 27, 45, 58, 70, 96], [2], [11, 21], [], [], [11, 29], [33, 102], [41, 44, 65, 69, 96, 99, 102, 118, 140, 143, 150], [13, 26], [], [], [4], [11, 33, 43, 46, 71, 74, 80, 105, 108, 113, 120, 142, 151, 175, 181, 190, 194, 204, 211], [4, 23], [2, 13], [2], [11, 16, 44, 47, 59, 76, 87, 90, 93, 105], [9, 16, 31, 34], [4], [42], [5], [8, 17, 32, 40], [4, 21], [], [], [18, 30, 35, 59], [32, 64], [], [15, 25], [24, 31, 38, 50], [], [], [13, 20], [64, 92, 100], [], [71, 79], [4, 21], [8, 58], [11, 59], [4, 6, 21, 24, 32, 52, 55, 65], [4, 33], [8, 22], [], [18, 19, 71, 82], [10, 23], [211, 237, 258], [23, 76], [16, 41, 76, 84, 96, 112], [], [4, 48], [4, 31, 35, 45, 76, 169, 266, 271, 282, 299, 352], [], [4], [2], [], [2], [4, 48], [16, 24], [9, 40], [16, 24, 35, 42, 47, 66, 79], [6], [5], [7], [20], [2, 8, 11, 21], [5, 12, 36, 78], [], [22, 33], [18, 27, 40, 46, 58, 76, 83, 87], [4], [4, 24, 33, 97, 174, 196, 208, 252], [5, 8, 12, 57], [16, 40, 97], [8, 13, 94, 128, 170, 225, 231, 252], [50, 74, 77, 82, 89, 125, 129, 165, 189, 199, 201, 212, 269, 283, 307, 314, 319, 345, 349, 363, 381, 393, 404, 419, 466], [2], [2, 13], [43], [], [9, 26, 41], [4, 31], [2], [21, 69, 120, 173, 221, 263], [20, 34, 39, 53], [44, 51], [25, 68, 105, 126, 172, 206, 217, 221, 243, 269, 305, 323, 335], [84, 98, 131, 179, 215], [56], [33, 52, 70, 80, 83, 90, 93], [], [14]]
def cut (i pc : Nat) : Bool := ((cutT[i]?).getD []).elem pc
def AT : Nat → List (List (Nat × mI)) → Prop
  | _, [] => True
  | j, l :: ls => ((∀ e ∈ l, decode (mB j) e.1 = .ok (e.2.1, e.2.2.1)) ∧ AL j l) ∧ AT (j + 1) ls
set_option maxRecDepth 100000 in
theorem at_all : AT 0 cdT := ⟨⟨dc0, lk0⟩, ⟨dc1, lk1⟩, ⟨dc2, lk2⟩, ⟨dc3, lk3⟩, ⟨dc4, lk4⟩, ⟨dc5, lk5⟩, ⟨dc6, lk6⟩, ⟨dc7, lk7⟩, ⟨dc8, lk8⟩, ⟨dc9, lk9⟩, ⟨dc10, lk10⟩, ⟨dc11, lk11⟩, ⟨dc12, lk12⟩, ⟨dc13, lk13⟩, ⟨dc14, lk14⟩, ⟨dc15, lk15⟩, ⟨dc16, lk16⟩, ⟨dc17, lk17⟩, ⟨dc18, lk18⟩, ⟨dc19, lk19⟩, ⟨dc20, lk20⟩, ⟨dc21, lk21⟩, ⟨dc22, lk22⟩, ⟨dc23, lk23⟩, ⟨dc24, lk24⟩, ⟨dc25, lk25⟩, ⟨dc26, lk26⟩, ⟨dc27, lk27⟩, ⟨dc28, lk28⟩, ⟨dc29, lk29⟩, ⟨dc30, lk30⟩, ⟨dc31, lk31⟩, ⟨dc32, lk32⟩, ⟨dc33, lk33⟩, ⟨dc34, lk34⟩, ⟨dc35, lk35⟩, ⟨dc36, lk36⟩, ⟨dc37, lk37⟩, ⟨dc38, lk38⟩, ⟨dc39, lk39⟩, ⟨dc40, lk40⟩, ⟨dc41, lk41⟩, ⟨dc42, lk42⟩, ⟨dc43, lk43⟩, ⟨dc44, lk44⟩, ⟨dc45, lk45⟩, ⟨dc46, lk46⟩, ⟨dc47, lk47⟩, ⟨dc48, lk48⟩, ⟨dc49, lk49⟩, ⟨dc50, lk50⟩, ⟨dc51, lk51⟩, ⟨dc52, lk52⟩, ⟨dc53, lk53⟩, ⟨dc54, lk54⟩, ⟨dc55, lk55⟩, ⟨dc56, lk56⟩, ⟨dc57, lk57⟩, ⟨dc58, lk58⟩, ⟨dc59, lk59⟩, ⟨dc60, lk60⟩, ⟨dc61, lk61⟩, ⟨dc62, lk62⟩, ⟨dc63, lk63⟩, ⟨dc64, lk64⟩, ⟨dc65, lk65⟩, ⟨dc66, lk66⟩, ⟨dc67, lk67⟩, ⟨dc68, lk68⟩, ⟨dc69, lk69⟩, ⟨dc70, lk70⟩, ⟨dc71, lk71⟩, ⟨dc72, lk72⟩, ⟨dc73, lk73⟩, ⟨dc74, lk74⟩, ⟨dc75, lk75⟩, ⟨dc76, lk76⟩, ⟨dc77, lk77⟩, ⟨dc78, lk78⟩, ⟨dc79, lk79⟩, ⟨dc80, lk80⟩, ⟨dc81, lk81⟩, ⟨dc82, lk82⟩, ⟨dc83, lk83⟩, ⟨dc84, lk84⟩, ⟨dc85, lk85⟩, ⟨dc86, lk86⟩, ⟨dc87, lk87⟩, ⟨dc88, lk88⟩, ⟨dc89, lk89⟩, ⟨dc90, lk90⟩, ⟨dc91, lk91⟩, ⟨dc92, lk92⟩, ⟨dc93, lk93⟩, ⟨dc94, lk94⟩, ⟨dc95, lk95⟩, ⟨dc96, lk96⟩, ⟨dc97, lk97⟩, ⟨dc98, lk98⟩, ⟨dc99, lk99⟩, ⟨dc100, lk100⟩, ⟨dc101, lk101⟩, ⟨dc102, lk102⟩, ⟨dc103, lk103⟩, ⟨dc104, lk104⟩, ⟨dc105, lk105⟩, ⟨dc106, lk106⟩, ⟨dc107, lk107⟩, ⟨dc108, lk108⟩, ⟨dc109, lk109⟩, ⟨dc110, lk110⟩, ⟨dc111, lk111⟩, ⟨dc112, lk112⟩, ⟨dc113, lk113⟩, ⟨dc114, lk114⟩, ⟨dc115, lk115⟩, ⟨dc116, lk116⟩, ⟨dc117, lk117⟩, ⟨dc118, lk118⟩, ⟨dc119, lk119⟩, ⟨dc120, lk120⟩, ⟨dc121, lk121⟩, ⟨dc122, lk122⟩, ⟨dc123, lk123⟩, ⟨dc124, lk124⟩, ⟨dc125, lk125⟩, ⟨dc126, lk126⟩, ⟨dc127, lk127⟩, ⟨dc128, lk128⟩, ⟨dc129, lk129⟩, ⟨dc130, lk130⟩, ⟨dc131, lk131⟩, ⟨dc132, lk132⟩, ⟨dc133, lk133⟩, ⟨dc134, lk134⟩, ⟨dc135, lk135⟩, ⟨dc136, lk136⟩, ⟨dc137, lk137⟩, ⟨dc138, lk138⟩, ⟨dc139, lk139⟩, ⟨dc140, lk140⟩, ⟨dc141, lk141⟩, ⟨dc142, lk142⟩, ⟨dc143, lk143⟩, ⟨dc144, lk144⟩, ⟨dc145, lk145⟩, ⟨dc146, lk146⟩, ⟨dc147, lk147⟩, ⟨dc148, lk148⟩, ⟨dc149, lk149⟩, ⟨dc150, lk150⟩, ⟨dc151, lk151⟩, ⟨dc152, lk152⟩, ⟨dc153, lk153⟩, ⟨dc154, lk154⟩, ⟨dc155, lk155⟩, ⟨dc156, lk156⟩, ⟨dc157, lk157⟩, ⟨dc158, lk158⟩, ⟨dc159, lk159⟩, ⟨dc160, lk160⟩, ⟨dc161, lk161⟩, trivial⟩
theorem AL_mem {j : Nat} : ∀ (l : List (Nat × mI)), AL j l → ∀ e ∈ l, LOK j e.1 e.2
  | [], _, e, h => absurd h List.not_mem_nil
  | a :: l, hl, e, h => by
    rcases List.mem_cons.mp h with rfl | h
    · exact hl.1
    · exact AL_mem l hl.2 e h
theorem AT_get : ∀ (ls : List (List (Nat × mI))) (j k : Nat) (l : List (Nat × mI)), AT j ls → ls[k]? = some l → (∀ e ∈ l, decode (mB (j + k)) e.1 = .ok (e.2.1, e.2.2.1)) ∧ AL (j + k) l
  | [], j, k, l, _, h => by simp at h
  | a :: ls, j, 0, l, hA, h => by
    cases h
    exact hA.1
  | a :: ls, j, k + 1, l, hA, h => by
    have := AT_get ls (j + 1) k l hA.2 h
    rw [show j + 1 + k = j + (k + 1) by omega] at this
    exact this
theorem look_mem {k : Nat} {v : mI} : ∀ l : List (Nat × mI), lkq l k = some v → (k, v) ∈ l
  | [], h => by cases h
  | (a, b) :: l, h => by
    unfold lkq at h
    by_cases hk : a = k
    · subst hk
      rw [Nat.beq_refl, cond_true] at h
      cases h
      exact List.mem_cons_self
    · have : Nat.beq a k = false := by
        cases hb : Nat.beq a k with
        | false => rfl
        | true => exact absurd (Nat.eq_of_beq_eq_true hb) hk
      rw [this, cond_false] at h
      exact List.mem_cons_of_mem _ (look_mem l h)
theorem cd_ok (i pc : Nat) (q : mI) (h : cd i pc = some q) : COK i pc q := by
  unfold cd at h
  cases hl : cdT[i]? with
  | none => rw [hl] at h; cases h
  | some l =>
    rw [hl] at h
    have hm := look_mem l h
    have := AT_get cdT 0 i l at_all hl
    rw [Nat.zero_add] at this
    have h1 := this.1 (pc, q) hm
    have h2 := AL_mem l this.2 (pc, q) hm
    exact And.intro h1 h2
