/-! the whole table, printed by gen_static.py -/
def cdT : List (List (Nat × mI)) := [cd0, cd1, cd2, cd3, cd4, cd5, cd6, cd7, cd8, cd9, cd10, cd11, cd12, cd13, cd14, cd15, cd16, cd17, cd18, cd19, cd20, cd21, cd22, cd23, cd24, cd25, cd26, cd27, cd28, cd29, cd30, cd31, cd32, cd33, cd34, cd35, cd36, cd37, cd38, cd39, cd40, cd41, cd42, cd43, cd44, cd45, cd46, cd47, cd48, cd49, cd50, cd51, cd52, cd53, cd54, cd55, cd56, cd57, cd58, cd59, cd60, cd61, cd62, cd63, cd64, cd65, cd66, cd67, cd68, cd69, cd70, cd71, cd72, cd73, cd74, cd75, cd76, cd77, cd78, cd79, cd80, cd81, cd82, cd83, cd84, cd85, cd86, cd87, cd88, cd89, cd90, cd91, cd92, cd93, cd94, cd95, cd96, cd97, cd98, cd99, cd100, cd101, cd102, cd103, cd104, cd105, cd106, cd107, cd108, cd109, cd110, cd111, cd112, cd113, cd114, cd115, cd116, cd117, cd118, cd119, cd120, cd121, cd122, cd123, cd124, cd125, cd126, cd127, cd128, cd129, cd130, cd131, cd132, cd133, cd134, cd135, cd136, cd137, cd138, cd139, cd140, cd141, cd142, cd143, cd144, cd145, cd146, cd147, cd148, cd149, cd150, cd151, cd152, cd153, cd154, cd155, cd156, cd157, cd158, cd159, cd160, cd161]
def cd (i pc : Nat) : Option mI := ((cdT[i]?).getD []).lookup pc
def cutT : List (List Nat) := [[18], [], [], [], [], [15], [], [], [], [36], [], [], [5], [], [], [55], [], [2], [], [], [], [], [8], [], [], [7], [], [], [], [], [2, 70], [16, 41], [], [], [], [17], [], [], [], [], [], [], [], [], [], [2], [2], [], [4], [], [2], [], [66], [], [2], [], [], [2], [], [], [11], [], [], [], [17], [], [4], [], [], [9], [14], [6, 45], [2], [21], [], [], [11], [33], [102], [13], [], [], [], [46, 151], [4], [2], [2], [16], [], [], [], [], [], [4], [], [], [35], [32], [], [15], [50], [], [], [], [], [], [], [4], [], [], [6, 32, 65], [], [], [], [], [], [211, 237, 258], [23], [41], [], [4, 48], [45, 169, 271, 299], [], [4], [2], [], [2], [4, 48], [], [9], [47], [], [], [7], [], [2], [12, 78], [], [22], [], [4], [4, 196, 208], [12], [16, 40, 97], [94, 128, 231], [50, 129, 201, 212, 419], [2], [2], [], [], [9], [4], [2], [21, 69, 120, 173, 221, 263], [20, 34], [51], [68, 105, 126, 172, 221, 323], [84], [], [52], [], []]
def cut (i pc : Nat) : Bool := ((cutT[i]?).getD []).elem pc
def AT : Nat → List (List (Nat × mI)) → Prop
  | _, [] => True
  | j, l :: ls => ((∀ e ∈ l, decode (mB j) e.1 = .ok (e.2.1, e.2.2.1)) ∧ AL j l) ∧ AT (j + 1) ls
set_option maxRecDepth 100000 in
theorem at_all : AT 0 cdT := ⟨⟨dc0, lk0⟩, ⟨dc1, lk1⟩, ⟨dc2, lk2⟩, ⟨dc3, lk3⟩, ⟨dc4, lk4⟩, ⟨dc5, lk5⟩, ⟨dc6, lk6⟩, ⟨dc7, lk7⟩, ⟨dc8, lk8⟩, ⟨dc9, lk9⟩, ⟨dc10, lk10⟩, ⟨dc11, lk11⟩, ⟨dc12, lk12⟩, ⟨dc13, lk13⟩, ⟨dc14, lk14⟩, ⟨dc15, lk15⟩, ⟨dc16, lk16⟩, ⟨dc17, lk17⟩, ⟨dc18, lk18⟩, ⟨dc19, lk19⟩, ⟨dc20, lk20⟩, ⟨dc21, lk21⟩, ⟨dc22, lk22⟩, ⟨dc23, lk23⟩, ⟨dc24, lk24⟩, ⟨dc25, lk25⟩, ⟨dc26, lk26⟩, ⟨dc27, lk27⟩, ⟨dc28, lk28⟩, ⟨dc29, lk29⟩, ⟨dc30, lk30⟩, ⟨dc31, lk31⟩, ⟨dc32, lk32⟩, ⟨dc33, lk33⟩, ⟨dc34, lk34⟩, ⟨dc35, lk35⟩, ⟨dc36, lk36⟩, ⟨dc37, lk37⟩, ⟨dc38, lk38⟩, ⟨dc39, lk39⟩, ⟨dc40, lk40⟩, ⟨dc41, lk41⟩, ⟨dc42, lk42⟩, ⟨dc43, lk43⟩, ⟨dc44, lk44⟩, ⟨dc45, lk45⟩, ⟨dc46, lk46⟩, ⟨dc47, lk47⟩, ⟨dc48, lk48⟩, ⟨dc49, lk49⟩, ⟨dc50, lk50⟩, ⟨dc51, lk51⟩, ⟨dc52, lk52⟩, ⟨dc53, lk53⟩, ⟨dc54, lk54⟩, ⟨dc55, lk55⟩, ⟨dc56, lk56⟩, ⟨dc57, lk57⟩, ⟨dc58, lk58⟩, ⟨dc59, lk59⟩, ⟨dc60, lk60⟩, ⟨dc61, lk61⟩, ⟨dc62, lk62⟩, ⟨dc63, lk63⟩, ⟨dc64, lk64⟩, ⟨dc65, lk65⟩, ⟨dc66, lk66⟩, ⟨dc67, lk67⟩, ⟨dc68, lk68⟩, ⟨dc69, lk69⟩, ⟨dc70, lk70⟩, ⟨dc71, lk71⟩, ⟨dc72, lk72⟩, ⟨dc73, lk73⟩, ⟨dc74, lk74⟩, ⟨dc75, lk75⟩, ⟨dc76, lk76⟩, ⟨dc77, lk77⟩, ⟨dc78, lk78⟩, ⟨dc79, lk79⟩, ⟨dc80, lk80⟩, ⟨dc81, lk81⟩, ⟨dc82, lk82⟩, ⟨dc83, lk83⟩, ⟨dc84, lk84⟩, ⟨dc85, lk85⟩, ⟨dc86, lk86⟩, ⟨dc87, lk87⟩, ⟨dc88, lk88⟩, ⟨dc89, lk89⟩, ⟨dc90, lk90⟩, ⟨dc91, lk91⟩, ⟨dc92, lk92⟩, ⟨dc93, lk93⟩, ⟨dc94, lk94⟩, ⟨dc95, lk95⟩, ⟨dc96, lk96⟩, ⟨dc97, lk97⟩, ⟨dc98, lk98⟩, ⟨dc99, lk99⟩, ⟨dc100, lk100⟩, ⟨dc101, lk101⟩, ⟨dc102, lk102⟩, ⟨dc103, lk103⟩, ⟨dc104, lk104⟩, ⟨dc105, lk105⟩, ⟨dc106, lk106⟩, ⟨dc107, lk107⟩, ⟨dc108, lk108⟩, ⟨dc109, lk109⟩, ⟨dc110, lk110⟩, ⟨dc111, lk111⟩, ⟨dc112, lk112⟩, ⟨dc113, lk113⟩, ⟨dc114, lk114⟩, ⟨dc115, lk115⟩, ⟨dc116, lk116⟩, ⟨dc117, lk117⟩, ⟨dc118, lk118⟩, ⟨dc119, lk119⟩, ⟨dc120, lk120⟩, ⟨dc121, lk121⟩, ⟨dc122, lk122⟩, ⟨dc123, lk123⟩, ⟨dc124, lk124⟩, ⟨dc125, lk125⟩, ⟨dc126, lk126⟩, ⟨dc127, lk127⟩, ⟨dc128, lk128⟩, ⟨dc129, lk129⟩, ⟨dc130, lk130⟩, ⟨dc131, lk131⟩, ⟨dc132, lk132⟩, ⟨dc133, lk133⟩, ⟨dc134, lk134⟩, ⟨dc135, lk135⟩, ⟨dc136, lk136⟩, ⟨dc137, lk137⟩, ⟨dc138, lk138⟩, ⟨dc139, lk139⟩, ⟨dc140, lk140⟩, ⟨dc141, lk141⟩, ⟨dc142, lk142⟩, ⟨dc143, lk143⟩, ⟨dc144, lk144⟩, ⟨dc145, lk145⟩, ⟨dc146, lk146⟩, ⟨dc147, lk147⟩, ⟨dc148, lk148⟩, ⟨dc149, lk149⟩, ⟨dc150, lk150⟩, ⟨dc151, lk151⟩, ⟨dc152, lk152⟩, ⟨dc153, lk153⟩, ⟨dc154, lk154⟩, ⟨dc155, lk155⟩, ⟨dc156, lk156⟩, ⟨dc157, lk157⟩, ⟨dc158, lk158⟩, ⟨dc159, lk159⟩, ⟨dc160, lk160⟩, ⟨dc161, lk161⟩, trivial⟩
theorem AL_mem {j : Nat} : ∀ (l : List (Nat × mI)), AL j l → ∀ e ∈ l, LOK j e.1 e.2
  | [], _, e, h => absurd h List.not_mem_nil
  | a :: l, hl, e, h => by
    rcases List.mem_cons.mp h with rfl | h
    · exact hl.1
    · exact AL_mem l hl.2 e h
theorem AT_get : ∀ (ls : List (List (Nat × mI))) (j k : Nat) (l : List (Nat × mI)), AT j ls → ls[k]? = some l → (∀ e ∈ l, decode (mB (j + k)) e.1 = .ok (e.2.1, e.2.2.1)) ∧ AL (j + k) l
  | [], j, k, l, _, h => by simp at h
  | a :: ls, j, 0, l, hA, h => by
    cases h
    exact hA.1
  | a :: ls, j, k + 1, l, hA, h => by
    have := AT_get ls (j + 1) k l hA.2 h
    rw [show j + 1 + k = j + (k + 1) by omega] at this
    exact this
theorem look_mem {α : Type} {k : Nat} {v : α} : ∀ l : List (Nat × α), l.lookup k = some v → (k, v) ∈ l
  | [], h => by simp at h
  | (a, b) :: l, h => by
    rw [List.lookup_cons] at h
    by_cases hk : k = a
    · subst hk
      simp at h
      subst h
      exact List.mem_cons_self
    · have : (k == a) = false := by simpa using hk
      rw [this] at h
      exact List.mem_cons_of_mem _ (look_mem l h)
theorem cd_ok (i pc : Nat) (q : mI) (h : cd i pc = some q) : COK i pc q := by
  unfold cd at h
  cases hl : cdT[i]? with
  | none => rw [hl] at h; simp at h
  | some l =>
    rw [hl] at h
    have hm := look_mem l h
    have := AT_get cdT 0 i l at_all hl
    rw [Nat.zero_add] at this
    have h1 := this.1 (pc, q) hm
    have h2 := AL_mem l this.2 (pc, q) hm
    exact And.intro h1 h2
