/-! THE LAYER: a method's world is the whole list of cells, by places; a judgement Ev over (pc, locals, stack, cells), a contract Ct -/
def isNest : Cond → Bool
  | .fieldLinkNest .. => true
  | .methodLinkNest .. => true
  | _ => false
def Ts : List Cond := lw_tbl.filter goodWord
def Tn : List Cond := lw_tbl.filter isNest
theorem ts_in {w : Cond} (h : w ∈ lw_tbl) (hg : goodWord w = true) : w ∈ Ts := List.mem_filter.mpr ⟨h, hg⟩
theorem tn_in {w : Cond} (h : w ∈ lw_tbl) (hg : isNest w = true) : w ∈ Tn := List.mem_filter.mpr ⟨h, hg⟩
theorem ts_good {w : Cond} (h : w ∈ Ts) : goodWord w = true := (List.mem_filter.mp h).2
def Nst (U : State) : Prop := ∀ w ∈ Tn, va_Nw w U
theorem Nst.warm {s U : State} (hW : s.WarmedH U.vm) (h : Nst s) : Nst U := by
  intro w hw
  have h1 := h w hw
  have h2 := (List.mem_filter.mp hw).2
  cases w <;> first | exact va_Nw.warmF hW h1 | exact va_Nw.warmM hW h1 | (simp [isNest] at h2)
theorem Nst.same {u U : State} (hv : u.vm = U.vm) (h : Nst u) : Nst U := by
  intro w hw
  have h1 := h w hw
  have h2 := (List.mem_filter.mp hw).2
  cases w <;> first | exact va_Nw.same rfl hv h1 | (simp [isNest] at h2)
/-- a method: its name, its code, its locals, what it returns, its room -/
abbrev MD : Type := MethodName × ByteArray × Nat × Option FieldType × Room
/-- a start: the launch, the classes' numbers and slots, the cells' addresses, the array classes -/
abbrev GG : Type := Launch × va_G × (Nat → Nat) × (Nat → ClassId)
def cv (ad : Nat → Nat) (v : Value) : Value := match v with
  | .ref k => .ref (ad k)
  | w => w
theorem cv_cat (ad : Nat → Nat) (v : Value) : (cv ad v).category = v.category := by cases v <;> rfl
def cz (g : GG) (e : va_E) : va_E := match e with
  | .inl a => .inl (g.2.2.2 a.1, a.2)
  | .inr o => .inr (o.1, o.2.map (cv g.2.2.1))
def wd (g : GG) (hp : List va_E) : va_W := hp.mapIdx (fun k e => (g.2.2.1 k, cz g e))
theorem wd_at {g : GG} {hp : List va_E} {k : Nat} {e : va_E} (h : hp[k]? = some e) : (wd g hp)[k]? = some (g.2.2.1 k, cz g e) := by
  simp [wd, List.getElem?_mapIdx, h]
theorem wd_set {g : GG} {hp : List va_E} {k : Nat} {e : va_E} : (wd g hp).set k (g.2.2.1 k, cz g e) = wd g (hp.set k e) := by
  apply List.ext_getElem?
  intro i
  simp only [wd, List.getElem?_set, List.getElem?_mapIdx, List.length_mapIdx]
  by_cases hi : k = i
  · subst hi
    by_cases hl : k < hp.length
    · simp [hl]
    · simp [hl]
  · simp [hi]
abbrev tysG (g : GG) : List (ClassId × FieldType) := [(g.2.2.2 0, .int), (g.2.2.2 1, .long)]
def nJS : Nat := 7
def lenJS : List Nat := [5, 5, 4, 4, 5, 3, 2]
def bytJS : List (List Int32) := [[112, 114, 105, 99, 101], [113, 117, 111, 116, 97], [111, 118, 101, 114], [100, 101, 98, 116], [115, 116, 97, 110, 100], [100, 117, 101], [111, 102]]
def txJS : List String := ["price", "quota", "over", "debt", "stand", "due", "of"]
def ixJS (i : Nat) : Nat := [47, 56, 61, 67, 69, 71, 86].getD i 0
/-- what stands outside the world: the literals, one static -/
def Sx (g : GG) (A : Nat → Prop) (U : State) (H : Heap) : Prop :=
  vk_S 7 lenJS bytJS (fun i => g.2.2.1 (100 + i)) (fun i => g.2.2.1 (200 + i)) A U H ∧ (∀ i, i < 7 → vk_R RX2 (ixJS i) (txJS.getD i "") (g.2.2.1 (100 + i)) U) ∧ va_Z "java/lang/String" "COMPACT_STRINGS" "Z" (.int 1) A U H ∧ (va_Z "jdk/internal/util/Preconditions" "SIOOBE_FORMATTER" "Ljava/util/function/BiFunction;" .null A U H ∨ va_Z "jdk/internal/util/Preconditions" "SIOOBE_FORMATTER" "Ljava/util/function/BiFunction;" (.ref (g.2.2.1 300)) A U H)
