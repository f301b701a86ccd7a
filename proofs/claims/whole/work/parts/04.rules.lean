/-- what a running method knows -/
def Act (g : GG) (M : MD) (A : Nat → Prop) (p : Program) (s : State) (m : MethodId) (args : Array Value) (meth : Method) (c : Code) : Prop :=
  p.tables.exec = Jvm.exec ∧ c.code = M.2.1 ∧ c.maxLocals = M.2.2.1 ∧ s.vm.findClass M.1.cls = some m.cls ∧ (∀ w ∈ Ts, w.before args s = true) ∧ meth.sig.returnType = M.2.2.2.1 ∧ meth.locks = false ∧ va_K g.2.1 vwCl (tysG g) s ∧ Nst s ∧ Sx g A s s.heap ∧ ∀ q, s.heap.size ≤ q → A q
def Qg (g : GG) (A : Nat → Prop) (Post : Option Value → List va_E → Prop) : Array Value → State → Outcome → State → Prop := fun _ st oc t => (∃ (v : Option Value) (hp : List va_E), oc = .returned (v.map (cv g.2.2.1)) ∧ Post v hp ∧ va_P g.2.1 vwCl (wd g hp) t.heap ∧ va_K g.2.1 vwCl (tysG g) t ∧ va_D A (wd g hp)) ∧ va_F A st t
def lvc (g : GG) (lv : List (Nat × Value)) : List (Nat × Value) := lv.map (fun q => (q.1, cv g.2.2.1 q.2))
/-- from here the method comes to its end, with Post -/
def Ev (g : GG) (M : MD) (pc : Nat) (lv : List (Nat × Value)) (st : List Value) (hp : List va_E) (Post : Option Value → List va_E → Prop) : Prop :=
  ∀ (p : Program) (e : Env) (s : State) (m : MethodId) (args : Array Value) (below : List Frame) (meth : Method) (c : Code) (A : Nat → Prop) (H : Heap) (locs : List Loc) (ls : Array Slot), Act g M A p s m args meth c → va_P g.2.1 vwCl (wd g hp) H → va_D A (wd g hp) → va_S A s.heap H locs → lv_has ls M.2.2.1 (lvc g lv) →
    W p g.1 e M.2.2.2.2 s m args below meth c H locs 0 0 (MQ below (Qg g A Post) args s 0 0 A) (F0 m pc ls (st.map (cv g.2.2.1)))
def wsM (M : MD) : List Cond := Cond.code M.1 M.2.1 M.2.2.1 M.2.2.2.1 :: Ts
/-- a method's contract -/
def Ct (g : GG) (M : MD) (as : List Value) (hp : List va_E) (Post : Option Value → List va_E → Prop) : Prop :=
  ∀ sz : Nat, Met g.1 M.1 (wsM M) M.2.2.2.2 (va_Pc (as.map (cv g.2.2.1)) (fun U => U.heap.size = sz ∧ va_P g.2.1 vwCl (wd g hp) U.heap ∧ va_K g.2.1 vwCl (tysG g) U ∧ va_D (fun _ => True) (wd g hp) ∧ Nst U ∧ Sx g (va_A (wd g hp) sz) U U.heap)) (Qg g (va_A (wd g hp) sz) Post) 0 0 (va_A (wd g hp) sz)
def lvGet (lv : List (Nat × Value)) (i : Nat) : Option Value := (lv.find? (fun q => q.1 == i)).map (fun q => q.2)
def lvIns : List (Nat × Value) → Nat → Value → List (Nat × Value)
  | [], i, v => [(i, v)]
  | (j, w) :: t, i, v => if Nat.blt j i then (j, w) :: lvIns t i v else if Nat.beq j i then (i, v) :: t else (i, v) :: (j, w) :: t
def lvSt (lv : List (Nat × Value)) (i : Nat) (v : Value) : List (Nat × Value) := lvIns (lv.filter (fun q => !(q.1 == i) && (!(q.1 == i + 1) && !(q.1 + 1 == i && q.2.category == 2)))) i v
def lvSt1 (lv : List (Nat × Value)) (i : Nat) (v : Value) : List (Nat × Value) := lvIns (lv.filter (fun q => !(q.1 == i) && !(q.1 + 1 == i && q.2.category == 2))) i v
theorem lvIns_mem : ∀ (l : List (Nat × Value)) (i : Nat) (v : Value) (q : Nat × Value), q ∈ lvIns l i v → q = (i, v) ∨ q ∈ l
  | [], i, v, q, h => by simp [lvIns] at h; exact Or.inl h
  | (j, w) :: t, i, v, q, h => by
    unfold lvIns at h
    split at h
    · rcases List.mem_cons.mp h with h | h
      · exact Or.inr (by rw [h]; exact List.mem_cons_self)
      · rcases lvIns_mem t i v q h with h | h
        · exact Or.inl h
        · exact Or.inr (List.mem_cons_of_mem _ h)
    · split at h
      · rcases List.mem_cons.mp h with h | h
        · exact Or.inl h
        · exact Or.inr (List.mem_cons_of_mem _ h)
      · rcases List.mem_cons.mp h with h | h
        · exact Or.inl h
        · exact Or.inr h
theorem lv_memG {ls : Array Slot} {n : Nat} {l l' : List (Nat × Value)} (h : lv_has ls n l) (hs : ∀ q ∈ l', q ∈ l) : lv_has ls n l' := ⟨h.1, h.2.1, fun q hq => h.2.2 q (hs q hq)⟩
theorem lvGet_has {g : GG} {ls : Array Slot} {n : Nat} {lv : List (Nat × Value)} {i : Nat} {v : Value} (h : lv_has ls n (lvc g lv)) (hg : lvGet lv i = some v) : ls[i]? = some (.val (cv g.2.2.1 v)) := by
  unfold lvGet at hg
  cases hf : lv.find? (fun q => q.1 == i) with
  | none => rw [hf] at hg; cases hg
  | some q =>
    rw [hf] at hg
    have h1 := List.mem_of_find?_eq_some hf
    have h2 := List.find?_some hf
    have h3 : q.2 = v := Option.some.inj hg
    have h4 : q.1 = i := by simpa using h2
    have h5 := h.2.2 (q.1, cv g.2.2.1 q.2) (List.mem_map.mpr ⟨q, h1, rfl⟩)
    rw [h3, h4] at h5
    exact h5
theorem lvc_st1 {g : GG} {lv : List (Nat × Value)} {i : Nat} {v : Value} : ∀ q ∈ lvc g (lvSt1 lv i v), q ∈ (i, cv g.2.2.1 v) :: (lvc g lv).filter (fun q => !(q.1 == i) && !(q.1 + 1 == i && q.2.category == 2)) := by
  intro q hq
  obtain ⟨r, hr, rfl⟩ := List.mem_map.mp hq
  rcases lvIns_mem _ _ _ _ hr with h | h
  · rw [h]; exact List.mem_cons_self
  · obtain ⟨h1, h2⟩ := List.mem_filter.mp h
    refine List.mem_cons_of_mem _ (List.mem_filter.mpr ⟨List.mem_map.mpr ⟨r, h1, rfl⟩, ?_⟩)
    rw [cv_cat]
    exact h2
theorem lvc_st2 {g : GG} {lv : List (Nat × Value)} {i : Nat} {v : Value} : ∀ q ∈ lvc g (lvSt lv i v), q ∈ (i, cv g.2.2.1 v) :: (lvc g lv).filter (fun q => !(q.1 == i) && (!(q.1 == i + 1) && !(q.1 + 1 == i && q.2.category == 2))) := by
  intro q hq
  obtain ⟨r, hr, rfl⟩ := List.mem_map.mp hq
  rcases lvIns_mem _ _ _ _ hr with h | h
  · rw [h]; exact List.mem_cons_self
  · obtain ⟨h1, h2⟩ := List.mem_filter.mp h
    refine List.mem_cons_of_mem _ (List.mem_filter.mpr ⟨List.mem_map.mpr ⟨r, h1, rfl⟩, ?_⟩)
    rw [cv_cat]
    exact h2
section EVR
variable {g : GG} {M : MD} {pc : Nat} {lv : List (Nat × Value)} {st : List Value} {hp : List va_E} {Post : Option Value → List va_E → Prop}
theorem ev_post {Post' : Option Value → List va_E → Prop} (h : ∀ v q, Post' v q → Post v q) (k : Ev g M pc lv st hp Post') : Ev g M pc lv st hp Post := by
  intro p e s m args below meth c A H locs ls hA hP hD hS hl T hT X
  obtain ⟨t, a, o, b1, b2, ⟨⟨v, q, c1, c2, c3⟩, c4⟩, b4⟩ := k p e s m args below meth c A H locs ls hA hP hD hS hl T hT X
  exact ⟨t, a, o, b1, b2, ⟨⟨v, q, c1, h v q c2, c3⟩, c4⟩, b4⟩
theorem ev_lv {lv' : List (Nat × Value)} (h : ∀ q ∈ lv', q ∈ lv) (k : Ev g M pc lv' st hp Post) : Ev g M pc lv st hp Post := by
  intro p e s m args below meth c A H locs ls hA hP hD hS hl
  exact k p e s m args below meth c A H locs ls hA hP hD hS (lv_memG hl (fun q hq => by obtain ⟨r, hr, rfl⟩ := List.mem_map.mp hq; exact List.mem_map.mpr ⟨r, h r hr, rfl⟩))

theorem ev_iadd {x y : Int32} (d : decode M.2.1 pc = .ok (.iadd, 1)) (k : Ev g M (pc + 1) lv (.int (x + y) :: st) hp Post) : Ev g M pc lv (.int y :: .int x :: st) hp Post := by
  intro p e s m args below meth c A H locs ls hA hP hD hS hl
  exact lv_iadd hA.1 hA.2.1 d (k p e s m args below meth c A H locs ls hA hP hD hS hl)
theorem ev_isub {x y : Int32} (d : decode M.2.1 pc = .ok (.isub, 1)) (k : Ev g M (pc + 1) lv (.int (x - y) :: st) hp Post) : Ev g M pc lv (.int y :: .int x :: st) hp Post := by
  intro p e s m args below meth c A H locs ls hA hP hD hS hl
  exact lv_isub hA.1 hA.2.1 d (k p e s m args below meth c A H locs ls hA hP hD hS hl)
theorem ev_imul {x y : Int32} (d : decode M.2.1 pc = .ok (.imul, 1)) (k : Ev g M (pc + 1) lv (.int (x * y) :: st) hp Post) : Ev g M pc lv (.int y :: .int x :: st) hp Post := by
  intro p e s m args below meth c A H locs ls hA hP hD hS hl
  exact lv_imul hA.1 hA.2.1 d (k p e s m args below meth c A H locs ls hA hP hD hS hl)
theorem ev_iand {x y : Int32} (d : decode M.2.1 pc = .ok (.iand, 1)) (k : Ev g M (pc + 1) lv (.int (x &&& y) :: st) hp Post) : Ev g M pc lv (.int y :: .int x :: st) hp Post := by
  intro p e s m args below meth c A H locs ls hA hP hD hS hl
  exact lv_iand hA.1 hA.2.1 d (k p e s m args below meth c A H locs ls hA hP hD hS hl)
theorem ev_ior {x y : Int32} (d : decode M.2.1 pc = .ok (.ior, 1)) (k : Ev g M (pc + 1) lv (.int (x ||| y) :: st) hp Post) : Ev g M pc lv (.int y :: .int x :: st) hp Post := by
  intro p e s m args below meth c A H locs ls hA hP hD hS hl
  exact lv_ior hA.1 hA.2.1 d (k p e s m args below meth c A H locs ls hA hP hD hS hl)
theorem ev_ishl {x y : Int32} (d : decode M.2.1 pc = .ok (.ishl, 1)) (k : Ev g M (pc + 1) lv (.int (x <<< (y &&& 31)) :: st) hp Post) : Ev g M pc lv (.int y :: .int x :: st) hp Post := by
  intro p e s m args below meth c A H locs ls hA hP hD hS hl
  exact lv_ishl hA.1 hA.2.1 d (k p e s m args below meth c A H locs ls hA hP hD hS hl)
theorem ev_ishr {x y : Int32} (d : decode M.2.1 pc = .ok (.ishr, 1)) (k : Ev g M (pc + 1) lv (.int (x >>> (y &&& 31)) :: st) hp Post) : Ev g M pc lv (.int y :: .int x :: st) hp Post := by
  intro p e s m args below meth c A H locs ls hA hP hD hS hl
  exact lv_ishr hA.1 hA.2.1 d (k p e s m args below meth c A H locs ls hA hP hD hS hl)
theorem ev_ladd {x y : Int64} (d : decode M.2.1 pc = .ok (.ladd, 1)) (k : Ev g M (pc + 1) lv (.long (x + y) :: st) hp Post) : Ev g M pc lv (.long y :: .long x :: st) hp Post := by
  intro p e s m args below meth c A H locs ls hA hP hD hS hl
  exact lv_ladd hA.1 hA.2.1 d (k p e s m args below meth c A H locs ls hA hP hD hS hl)
theorem ev_lsub {x y : Int64} (d : decode M.2.1 pc = .ok (.lsub, 1)) (k : Ev g M (pc + 1) lv (.long (x - y) :: st) hp Post) : Ev g M pc lv (.long y :: .long x :: st) hp Post := by
  intro p e s m args below meth c A H locs ls hA hP hD hS hl
  exact lv_lsub hA.1 hA.2.1 d (k p e s m args below meth c A H locs ls hA hP hD hS hl)
theorem ev_lmul {x y : Int64} (d : decode M.2.1 pc = .ok (.lmul, 1)) (k : Ev g M (pc + 1) lv (.long (x * y) :: st) hp Post) : Ev g M pc lv (.long y :: .long x :: st) hp Post := by
  intro p e s m args below meth c A H locs ls hA hP hD hS hl
  exact lv_lmul hA.1 hA.2.1 d (k p e s m args below meth c A H locs ls hA hP hD hS hl)
theorem ev_ldiv {x y : Int64} (d : decode M.2.1 pc = .ok (.ldiv, 1)) (h : ¬ y = 0) (k : Ev g M (pc + 1) lv (.long (x / y) :: st) hp Post) : Ev g M pc lv (.long y :: .long x :: st) hp Post := by
  intro p e s m args below meth c A H locs ls hA hP hD hS hl
  exact lv_ldiv hA.1 hA.2.1 d h (k p e s m args below meth c A H locs ls hA hP hD hS hl)
theorem ev_ineg {x : Int32} (d : decode M.2.1 pc = .ok (.ineg, 1)) (k : Ev g M (pc + 1) lv (.int (-x) :: st) hp Post) : Ev g M pc lv (.int x :: st) hp Post := by
  intro p e s m args below meth c A H locs ls hA hP hD hS hl
  exact lv_ineg hA.1 hA.2.1 d (k p e s m args below meth c A H locs ls hA hP hD hS hl)
theorem ev_i2l {x : Int32} (d : decode M.2.1 pc = .ok (.i2l, 1)) (k : Ev g M (pc + 1) lv (.long x.toInt64 :: st) hp Post) : Ev g M pc lv (.int x :: st) hp Post := by
  intro p e s m args below meth c A H locs ls hA hP hD hS hl
  exact lv_i2l hA.1 hA.2.1 d rfl (k p e s m args below meth c A H locs ls hA hP hD hS hl)
theorem ev_l2i {x : Int64} (d : decode M.2.1 pc = .ok (.l2i, 1)) (k : Ev g M (pc + 1) lv (.int x.toInt32 :: st) hp Post) : Ev g M pc lv (.long x :: st) hp Post := by
  intro p e s m args below meth c A H locs ls hA hP hD hS hl
  exact lv_l2i hA.1 hA.2.1 d rfl (k p e s m args below meth c A H locs ls hA hP hD hS hl)
theorem ev_i2c {x : Int32} (d : decode M.2.1 pc = .ok (.i2c, 1)) (k : Ev g M (pc + 1) lv (.int (x.toUInt32 % 65536).toInt32 :: st) hp Post) : Ev g M pc lv (.int x :: st) hp Post := by
  intro p e s m args below meth c A H locs ls hA hP hD hS hl
  exact lv_i2c hA.1 hA.2.1 d rfl (k p e s m args below meth c A H locs ls hA hP hD hS hl)
theorem ev_iushr {x y : Int32} (d : decode M.2.1 pc = .ok (.iushr, 1)) (k : Ev g M (pc + 1) lv (.int (x.toUInt32 >>> (y.toUInt32 &&& Int32.toUInt32 31)).toInt32 :: st) hp Post) : Ev g M pc lv (.int y :: .int x :: st) hp Post := by
  intro p e s m args below meth c A H locs ls hA hP hD hS hl
  exact lv_iushr hA.1 hA.2.1 d rfl (k p e s m args below meth c A H locs ls hA hP hD hS hl)
theorem ev_lshr {x : Int64} {y : Int32} (d : decode M.2.1 pc = .ok (.lshr, 1)) (k : Ev g M (pc + 1) lv (.long (x >>> (y.toInt64 &&& 63)) :: st) hp Post) : Ev g M pc lv (.int y :: .long x :: st) hp Post := by
  intro p e s m args below meth c A H locs ls hA hP hD hS hl
  exact lv_lshr hA.1 hA.2.1 d rfl (k p e s m args below meth c A H locs ls hA hP hD hS hl)
theorem ev_lcmp {x y : Int64} (d : decode M.2.1 pc = .ok (.lcmp, 1)) (k : Ev g M (pc + 1) lv (.int (lg_cmp x y) :: st) hp Post) : Ev g M pc lv (.long y :: .long x :: st) hp Post := by
  intro p e s m args below meth c A H locs ls hA hP hD hS hl
  exact W.lcmp hA.1 hA.2.1 d (k p e s m args below meth c A H locs ls hA hP hD hS hl)
theorem ev_iconst {n : Int} {v : Int32} (d : decode M.2.1 pc = .ok (.iconst n, 1)) (h : Int32.ofInt n = v) (k : Ev g M (pc + 1) lv (.int v :: st) hp Post) : Ev g M pc lv (st) hp Post := by
  intro p e s m args below meth c A H locs ls hA hP hD hS hl
  exact lv_iconst hA.1 hA.2.1 d h (k p e s m args below meth c A H locs ls hA hP hD hS hl)
theorem ev_bipush {n : Int} {v : Int32} (d : decode M.2.1 pc = .ok (.bipush n, 2)) (h : (Int8.ofInt n).toInt32 = v) (k : Ev g M (pc + 2) lv (.int v :: st) hp Post) : Ev g M pc lv (st) hp Post := by
  intro p e s m args below meth c A H locs ls hA hP hD hS hl
  exact lv_bipush hA.1 hA.2.1 d h (k p e s m args below meth c A H locs ls hA hP hD hS hl)
theorem ev_sipush {n : Int} {v : Int32} (d : decode M.2.1 pc = .ok (.sipush n, 3)) (h : (Int16.ofInt n).toInt32 = v) (k : Ev g M (pc + 3) lv (.int v :: st) hp Post) : Ev g M pc lv (st) hp Post := by
  intro p e s m args below meth c A H locs ls hA hP hD hS hl
  exact lv_sipush hA.1 hA.2.1 d h (k p e s m args below meth c A H locs ls hA hP hD hS hl)
theorem ev_lconst {n : Fin 2} {v : Int64} (d : decode M.2.1 pc = .ok (.lconst n, 1)) (h : Int64.ofNat (n : Nat) = v) (k : Ev g M (pc + 1) lv (.long v :: st) hp Post) : Ev g M pc lv (st) hp Post := by
  intro p e s m args below meth c A H locs ls hA hP hD hS hl
  exact lv_lconst hA.1 hA.2.1 d h (k p e s m args below meth c A H locs ls hA hP hD hS hl)
theorem ev_ldc {i : Nat} {v : Int32} (d : decode M.2.1 pc = .ok (.ldc i, 2)) (h : Cond.constant M.1.cls i v ∈ Ts) (k : Ev g M (pc + 2) lv (.int v :: st) hp Post) : Ev g M pc lv st hp Post := by
  intro p e s m args below meth c A H locs ls hA hP hD hS hl
  exact lv_ldc hA.1 hA.2.1 hA.2.2.2.1 (hA.2.2.2.2.1 _ h) d (k p e s m args below meth c A H locs ls hA hP hD hS hl)
theorem ev_ldcw {i : Nat} {v : Int32} (d : decode M.2.1 pc = .ok (.ldc_w i, 3)) (h : Cond.constant M.1.cls i v ∈ Ts) (k : Ev g M (pc + 3) lv (.int v :: st) hp Post) : Ev g M pc lv st hp Post := by
  intro p e s m args below meth c A H locs ls hA hP hD hS hl
  exact lv_ldcw hA.1 hA.2.1 hA.2.2.2.1 (hA.2.2.2.2.1 _ h) d (k p e s m args below meth c A H locs ls hA hP hD hS hl)
theorem ev_ldc2 {i : Nat} {v : Int64} (d : decode M.2.1 pc = .ok (.ldc2_w i, 3)) (h : Cond.constantLong M.1.cls i v ∈ Ts) (k : Ev g M (pc + 3) lv (.long v :: st) hp Post) : Ev g M pc lv st hp Post := by
  intro p e s m args below meth c A H locs ls hA hP hD hS hl
  exact lv_ldc2 hA.1 hA.2.1 hA.2.2.2.1 (hA.2.2.2.2.1 _ h) d (k p e s m args below meth c A H locs ls hA hP hD hS hl)
theorem ev_iload_n {k : Fin 4} {x : Int32} (d : decode M.2.1 pc = .ok (.iload_n k, 1)) (h : lvGet lv k.1 = some (.int x)) (kk : Ev g M (pc + 1) lv (.int x :: st) hp Post) : Ev g M pc lv st hp Post := by
  intro p e s m args below meth c A H locs ls hA hP hD hS hl
  exact lv_iload_n hA.1 hA.2.1 d rfl (lvGet_has hl h) (kk p e s m args below meth c A H locs ls hA hP hD hS hl)
theorem ev_iload {i : Nat} {x : Int32} (d : decode M.2.1 pc = .ok (.iload i, 2)) (h : lvGet lv i = some (.int x)) (kk : Ev g M (pc + 2) lv (.int x :: st) hp Post) : Ev g M pc lv st hp Post := by
  intro p e s m args below meth c A H locs ls hA hP hD hS hl
  exact lv_iload hA.1 hA.2.1 d (lvGet_has hl h) (kk p e s m args below meth c A H locs ls hA hP hD hS hl)
theorem ev_istore_n {k : Fin 4} {x : Int32} {lv' : List (Nat × Value)} (d : decode M.2.1 pc = .ok (.istore_n k, 1)) (hn : k.1 < M.2.2.1) (h : lvSt1 lv k.1 (.int x) = lv') (kk : Ev g M (pc + 1) lv' st hp Post) : Ev g M pc lv (.int x :: st) hp Post := by
  intro p e s m args below meth c A H locs ls hA hP hD hS hl
  subst h
  exact lv_istore_n hA.1 hA.2.1 d rfl hl hn rfl (fun ls' hl' => kk p e s m args below meth c A H locs ls' hA hP hD hS (lv_memG hl' lvc_st1))
theorem ev_istore {i : Nat} {x : Int32} {lv' : List (Nat × Value)} (d : decode M.2.1 pc = .ok (.istore i, 2)) (hn : i < M.2.2.1) (h : lvSt1 lv i (.int x) = lv') (kk : Ev g M (pc + 2) lv' st hp Post) : Ev g M pc lv (.int x :: st) hp Post := by
  intro p e s m args below meth c A H locs ls hA hP hD hS hl
  subst h
  exact lv_istore hA.1 hA.2.1 d hl hn rfl (fun ls' hl' => kk p e s m args below meth c A H locs ls' hA hP hD hS (lv_memG hl' lvc_st1))
theorem ev_lload_n {k : Fin 4} {x : Int64} (d : decode M.2.1 pc = .ok (.lload_n k, 1)) (h : lvGet lv k.1 = some (.long x)) (kk : Ev g M (pc + 1) lv (.long x :: st) hp Post) : Ev g M pc lv st hp Post := by
  intro p e s m args below meth c A H locs ls hA hP hD hS hl
  exact lv_lload_n hA.1 hA.2.1 d rfl (lvGet_has hl h) (kk p e s m args below meth c A H locs ls hA hP hD hS hl)
theorem ev_lload {i : Nat} {x : Int64} (d : decode M.2.1 pc = .ok (.lload i, 2)) (h : lvGet lv i = some (.long x)) (kk : Ev g M (pc + 2) lv (.long x :: st) hp Post) : Ev g M pc lv st hp Post := by
  intro p e s m args below meth c A H locs ls hA hP hD hS hl
  exact lv_lload hA.1 hA.2.1 d (lvGet_has hl h) (kk p e s m args below meth c A H locs ls hA hP hD hS hl)
theorem ev_lstore_n {k : Fin 4} {x : Int64} {lv' : List (Nat × Value)} (d : decode M.2.1 pc = .ok (.lstore_n k, 1)) (hn : k.1 + 1 < M.2.2.1) (h : lvSt lv k.1 (.long x) = lv') (kk : Ev g M (pc + 1) lv' st hp Post) : Ev g M pc lv (.long x :: st) hp Post := by
  intro p e s m args below meth c A H locs ls hA hP hD hS hl
  subst h
  exact lv_lstore_n hA.1 hA.2.1 d rfl hl hn rfl (fun ls' hl' => kk p e s m args below meth c A H locs ls' hA hP hD hS (lv_memG hl' lvc_st2))
theorem ev_lstore {i : Nat} {x : Int64} {lv' : List (Nat × Value)} (d : decode M.2.1 pc = .ok (.lstore i, 2)) (hn : i + 1 < M.2.2.1) (h : lvSt lv i (.long x) = lv') (kk : Ev g M (pc + 2) lv' st hp Post) : Ev g M pc lv (.long x :: st) hp Post := by
  intro p e s m args below meth c A H locs ls hA hP hD hS hl
  subst h
  exact lv_lstore hA.1 hA.2.1 d hl hn rfl (fun ls' hl' => kk p e s m args below meth c A H locs ls' hA hP hD hS (lv_memG hl' lvc_st2))
theorem ev_aload_n {k : Fin 4} {x : Nat} (d : decode M.2.1 pc = .ok (.aload_n k, 1)) (h : lvGet lv k.1 = some (.ref x)) (kk : Ev g M (pc + 1) lv (.ref x :: st) hp Post) : Ev g M pc lv st hp Post := by
  intro p e s m args below meth c A H locs ls hA hP hD hS hl
  exact lv_aload_n hA.1 hA.2.1 d rfl (lvGet_has hl h) (kk p e s m args below meth c A H locs ls hA hP hD hS hl)
theorem ev_aload {i : Nat} {x : Nat} (d : decode M.2.1 pc = .ok (.aload i, 2)) (h : lvGet lv i = some (.ref x)) (kk : Ev g M (pc + 2) lv (.ref x :: st) hp Post) : Ev g M pc lv st hp Post := by
  intro p e s m args below meth c A H locs ls hA hP hD hS hl
  exact lv_aload hA.1 hA.2.1 d (lvGet_has hl h) (kk p e s m args below meth c A H locs ls hA hP hD hS hl)
theorem ev_astore_n {k : Fin 4} {x : Nat} {lv' : List (Nat × Value)} (d : decode M.2.1 pc = .ok (.astore_n k, 1)) (hn : k.1 < M.2.2.1) (h : lvSt1 lv k.1 (.ref x) = lv') (kk : Ev g M (pc + 1) lv' st hp Post) : Ev g M pc lv (.ref x :: st) hp Post := by
  intro p e s m args below meth c A H locs ls hA hP hD hS hl
  subst h
  exact lv_astore_n hA.1 hA.2.1 d rfl hl hn rfl (fun ls' hl' => kk p e s m args below meth c A H locs ls' hA hP hD hS (lv_memG hl' lvc_st1))
theorem ev_astore {i : Nat} {x : Nat} {lv' : List (Nat × Value)} (d : decode M.2.1 pc = .ok (.astore i, 2)) (hn : i < M.2.2.1) (h : lvSt1 lv i (.ref x) = lv') (kk : Ev g M (pc + 2) lv' st hp Post) : Ev g M pc lv (.ref x :: st) hp Post := by
  intro p e s m args below meth c A H locs ls hA hP hD hS hl
  subst h
  exact lv_astore hA.1 hA.2.1 d hl hn rfl (fun ls' hl' => kk p e s m args below meth c A H locs ls' hA hP hD hS (lv_memG hl' lvc_st1))
theorem lvc_get {lv : List (Nat × Value)} {i : Nat} {v : Value} (hg : lvGet lv i = some v) : ∃ k : Nat, (lvc g lv)[k]? = some (i, cv g.2.2.1 v) := by
  unfold lvGet at hg
  cases hf : lv.find? (fun q => q.1 == i) with
  | none => rw [hf] at hg; cases hg
  | some q =>
    rw [hf] at hg
    have h1 := List.mem_of_find?_eq_some hf
    have h2 := List.find?_some hf
    have h3 : q.2 = v := Option.some.inj hg
    have h4 : q.1 = i := by simpa using h2
    have h5 : (i, cv g.2.2.1 v) ∈ lvc g lv := List.mem_map.mpr ⟨q, h1, by rw [h3, h4]⟩
    exact List.getElem?_of_mem h5
theorem ev_iinc {i : Nat} {n : Int} {x : Int32} {lv' : List (Nat × Value)} (d : decode M.2.1 pc = .ok (.iinc i n, 3)) (hx : lvGet lv i = some (.int x)) (hn : i < M.2.2.1) (h : lvSt1 lv i (.int (x + Int32.ofInt n)) = lv') (kk : Ev g M (pc + 3) lv' st hp Post) : Ev g M pc lv st hp Post := by
  intro p e s m args below meth c A H locs ls hA hP hD hS hl
  subst h
  obtain ⟨k, hk⟩ := lvc_get (g := g) hx
  exact lv_iinc hA.1 hA.2.1 d hl hk rfl hn rfl (fun ls' hl' => kk p e s m args below meth c A H locs ls' hA hP hD hS (lv_memG hl' lvc_st1))
theorem ev_dup {v : Value} (d : decode M.2.1 pc = .ok (.dup, 1)) (h : v.category = 1) (k : Ev g M (pc + 1) lv (v :: v :: st) hp Post) : Ev g M pc lv (v :: st) hp Post := by
  intro p e s m args below meth c A H locs ls hA hP hD hS hl
  exact lv_dup hA.1 hA.2.1 d ((cv_cat _ _).trans h) (k p e s m args below meth c A H locs ls hA hP hD hS hl)
theorem ev_pop {v : Value} (d : decode M.2.1 pc = .ok (.pop, 1)) (h : v.category = 1) (k : Ev g M (pc + 1) lv st hp Post) : Ev g M pc lv (v :: st) hp Post := by
  intro p e s m args below meth c A H locs ls hA hP hD hS hl
  exact lv_pop hA.1 hA.2.1 d ((cv_cat _ _).trans h) (k p e s m args below meth c A H locs ls hA hP hD hS hl)
theorem ev_dup2 {v u : Value} (d : decode M.2.1 pc = .ok (.dup2, 1)) (h : v.category = 1) (h2 : u.category = 1) (k : Ev g M (pc + 1) lv (v :: u :: v :: u :: st) hp Post) : Ev g M pc lv (v :: u :: st) hp Post := by
  intro p e s m args below meth c A H locs ls hA hP hD hS hl
  exact lv_dup2_11 hA.1 hA.2.1 d ((cv_cat _ _).trans h) ((cv_cat _ _).trans h2) (k p e s m args below meth c A H locs ls hA hP hD hS hl)
theorem ev_if_eq {x : Int32} {off : Int} {tgt : Nat} (d : decode M.2.1 pc = .ok (.ifCond .eq off, 3)) (ht : (pc : Int) + off = (tgt : Int)) (kt : x = 0 → Ev g M tgt lv st hp Post) (kf : ¬ (x = 0) → Ev g M (pc + 3) lv st hp Post) : Ev g M pc lv (.int x :: st) hp Post := by
  intro p e s m args below meth c A H locs ls hA hP hD hS hl
  exact lv_if_eq hA.1 hA.2.1 d ht (fun q => kt q p e s m args below meth c A H locs ls hA hP hD hS hl) (fun q => kf q p e s m args below meth c A H locs ls hA hP hD hS hl)
theorem ev_icmp_eq {x y : Int32} {off : Int} {tgt : Nat} (d : decode M.2.1 pc = .ok (.if_icmp .eq off, 3)) (ht : (pc : Int) + off = (tgt : Int)) (kt : x = y → Ev g M tgt lv st hp Post) (kf : ¬ (x = y) → Ev g M (pc + 3) lv st hp Post) : Ev g M pc lv (.int y :: .int x :: st) hp Post := by
  intro p e s m args below meth c A H locs ls hA hP hD hS hl
  exact lv_icmp_eq hA.1 hA.2.1 d ht (fun q => kt q p e s m args below meth c A H locs ls hA hP hD hS hl) (fun q => kf q p e s m args below meth c A H locs ls hA hP hD hS hl)
theorem ev_if_ne {x : Int32} {off : Int} {tgt : Nat} (d : decode M.2.1 pc = .ok (.ifCond .ne off, 3)) (ht : (pc : Int) + off = (tgt : Int)) (kt : ¬ x = 0 → Ev g M tgt lv st hp Post) (kf : x = 0 → Ev g M (pc + 3) lv st hp Post) : Ev g M pc lv (.int x :: st) hp Post := by
  intro p e s m args below meth c A H locs ls hA hP hD hS hl
  exact lv_if_ne hA.1 hA.2.1 d ht (fun q => kt q p e s m args below meth c A H locs ls hA hP hD hS hl) (fun q => kf q p e s m args below meth c A H locs ls hA hP hD hS hl)
theorem ev_icmp_ne {x y : Int32} {off : Int} {tgt : Nat} (d : decode M.2.1 pc = .ok (.if_icmp .ne off, 3)) (ht : (pc : Int) + off = (tgt : Int)) (kt : ¬ x = y → Ev g M tgt lv st hp Post) (kf : x = y → Ev g M (pc + 3) lv st hp Post) : Ev g M pc lv (.int y :: .int x :: st) hp Post := by
  intro p e s m args below meth c A H locs ls hA hP hD hS hl
  exact lv_icmp_ne hA.1 hA.2.1 d ht (fun q => kt q p e s m args below meth c A H locs ls hA hP hD hS hl) (fun q => kf q p e s m args below meth c A H locs ls hA hP hD hS hl)
theorem ev_if_lt {x : Int32} {off : Int} {tgt : Nat} (d : decode M.2.1 pc = .ok (.ifCond .lt off, 3)) (ht : (pc : Int) + off = (tgt : Int)) (kt : x < 0 → Ev g M tgt lv st hp Post) (kf : ¬ (x < 0) → Ev g M (pc + 3) lv st hp Post) : Ev g M pc lv (.int x :: st) hp Post := by
  intro p e s m args below meth c A H locs ls hA hP hD hS hl
  exact lv_if_lt hA.1 hA.2.1 d ht (fun q => kt q p e s m args below meth c A H locs ls hA hP hD hS hl) (fun q => kf q p e s m args below meth c A H locs ls hA hP hD hS hl)
theorem ev_icmp_lt {x y : Int32} {off : Int} {tgt : Nat} (d : decode M.2.1 pc = .ok (.if_icmp .lt off, 3)) (ht : (pc : Int) + off = (tgt : Int)) (kt : x < y → Ev g M tgt lv st hp Post) (kf : ¬ (x < y) → Ev g M (pc + 3) lv st hp Post) : Ev g M pc lv (.int y :: .int x :: st) hp Post := by
  intro p e s m args below meth c A H locs ls hA hP hD hS hl
  exact lv_icmp_lt hA.1 hA.2.1 d ht (fun q => kt q p e s m args below meth c A H locs ls hA hP hD hS hl) (fun q => kf q p e s m args below meth c A H locs ls hA hP hD hS hl)
theorem ev_if_ge {x : Int32} {off : Int} {tgt : Nat} (d : decode M.2.1 pc = .ok (.ifCond .ge off, 3)) (ht : (pc : Int) + off = (tgt : Int)) (kt : 0 ≤ x → Ev g M tgt lv st hp Post) (kf : ¬ (0 ≤ x) → Ev g M (pc + 3) lv st hp Post) : Ev g M pc lv (.int x :: st) hp Post := by
  intro p e s m args below meth c A H locs ls hA hP hD hS hl
  exact lv_if_ge hA.1 hA.2.1 d ht (fun q => kt q p e s m args below meth c A H locs ls hA hP hD hS hl) (fun q => kf q p e s m args below meth c A H locs ls hA hP hD hS hl)
theorem ev_icmp_ge {x y : Int32} {off : Int} {tgt : Nat} (d : decode M.2.1 pc = .ok (.if_icmp .ge off, 3)) (ht : (pc : Int) + off = (tgt : Int)) (kt : y ≤ x → Ev g M tgt lv st hp Post) (kf : ¬ (y ≤ x) → Ev g M (pc + 3) lv st hp Post) : Ev g M pc lv (.int y :: .int x :: st) hp Post := by
  intro p e s m args below meth c A H locs ls hA hP hD hS hl
  exact lv_icmp_ge hA.1 hA.2.1 d ht (fun q => kt q p e s m args below meth c A H locs ls hA hP hD hS hl) (fun q => kf q p e s m args below meth c A H locs ls hA hP hD hS hl)
theorem ev_if_gt {x : Int32} {off : Int} {tgt : Nat} (d : decode M.2.1 pc = .ok (.ifCond .gt off, 3)) (ht : (pc : Int) + off = (tgt : Int)) (kt : 0 < x → Ev g M tgt lv st hp Post) (kf : ¬ (0 < x) → Ev g M (pc + 3) lv st hp Post) : Ev g M pc lv (.int x :: st) hp Post := by
  intro p e s m args below meth c A H locs ls hA hP hD hS hl
  exact lv_if_gt hA.1 hA.2.1 d ht (fun q => kt q p e s m args below meth c A H locs ls hA hP hD hS hl) (fun q => kf q p e s m args below meth c A H locs ls hA hP hD hS hl)
theorem ev_icmp_gt {x y : Int32} {off : Int} {tgt : Nat} (d : decode M.2.1 pc = .ok (.if_icmp .gt off, 3)) (ht : (pc : Int) + off = (tgt : Int)) (kt : y < x → Ev g M tgt lv st hp Post) (kf : ¬ (y < x) → Ev g M (pc + 3) lv st hp Post) : Ev g M pc lv (.int y :: .int x :: st) hp Post := by
  intro p e s m args below meth c A H locs ls hA hP hD hS hl
  exact lv_icmp_gt hA.1 hA.2.1 d ht (fun q => kt q p e s m args below meth c A H locs ls hA hP hD hS hl) (fun q => kf q p e s m args below meth c A H locs ls hA hP hD hS hl)
theorem ev_if_le {x : Int32} {off : Int} {tgt : Nat} (d : decode M.2.1 pc = .ok (.ifCond .le off, 3)) (ht : (pc : Int) + off = (tgt : Int)) (kt : x ≤ 0 → Ev g M tgt lv st hp Post) (kf : ¬ (x ≤ 0) → Ev g M (pc + 3) lv st hp Post) : Ev g M pc lv (.int x :: st) hp Post := by
  intro p e s m args below meth c A H locs ls hA hP hD hS hl
  exact lv_if_le hA.1 hA.2.1 d ht (fun q => kt q p e s m args below meth c A H locs ls hA hP hD hS hl) (fun q => kf q p e s m args below meth c A H locs ls hA hP hD hS hl)
theorem ev_icmp_le {x y : Int32} {off : Int} {tgt : Nat} (d : decode M.2.1 pc = .ok (.if_icmp .le off, 3)) (ht : (pc : Int) + off = (tgt : Int)) (kt : x ≤ y → Ev g M tgt lv st hp Post) (kf : ¬ (x ≤ y) → Ev g M (pc + 3) lv st hp Post) : Ev g M pc lv (.int y :: .int x :: st) hp Post := by
  intro p e s m args below meth c A H locs ls hA hP hD hS hl
  exact lv_icmp_le hA.1 hA.2.1 d ht (fun q => kt q p e s m args below meth c A H locs ls hA hP hD hS hl) (fun q => kf q p e s m args below meth c A H locs ls hA hP hD hS hl)
theorem ev_lcmp_eq {x y : Int64} {off : Int} {tgt : Nat} (d0 : decode M.2.1 pc = .ok (.lcmp, 1)) (d : decode M.2.1 (pc + 1) = .ok (.ifCond .eq off, 3)) (ht : ((pc + 1 : Nat) : Int) + off = (tgt : Int)) (kt : x = y → Ev g M tgt lv st hp Post) (kf : ¬ (x = y) → Ev g M (pc + 1 + 3) lv st hp Post) : Ev g M pc lv (.long y :: .long x :: st) hp Post := ev_lcmp d0 (ev_if_eq d ht (fun q => kt ((lg_cmp_eq x y).mp q)) (fun q => kf (fun z => q ((lg_cmp_eq x y).mpr z))))
theorem ev_lcmp_ne {x y : Int64} {off : Int} {tgt : Nat} (d0 : decode M.2.1 pc = .ok (.lcmp, 1)) (d : decode M.2.1 (pc + 1) = .ok (.ifCond .ne off, 3)) (ht : ((pc + 1 : Nat) : Int) + off = (tgt : Int)) (kt : ¬ x = y → Ev g M tgt lv st hp Post) (kf : x = y → Ev g M (pc + 1 + 3) lv st hp Post) : Ev g M pc lv (.long y :: .long x :: st) hp Post := ev_lcmp d0 (ev_if_ne d ht (fun q => kt ((not_congr (lg_cmp_eq x y)).mp q)) (fun q => kf ((lg_cmp_eq x y).mp q)))
theorem ev_lcmp_lt {x y : Int64} {off : Int} {tgt : Nat} (d0 : decode M.2.1 pc = .ok (.lcmp, 1)) (d : decode M.2.1 (pc + 1) = .ok (.ifCond .lt off, 3)) (ht : ((pc + 1 : Nat) : Int) + off = (tgt : Int)) (kt : x < y → Ev g M tgt lv st hp Post) (kf : ¬ (x < y) → Ev g M (pc + 1 + 3) lv st hp Post) : Ev g M pc lv (.long y :: .long x :: st) hp Post := ev_lcmp d0 (ev_if_lt d ht (fun q => kt ((lg_cmp_lt x y).mp q)) (fun q => kf (fun z => q ((lg_cmp_lt x y).mpr z))))
theorem ev_lcmp_ge {x y : Int64} {off : Int} {tgt : Nat} (d0 : decode M.2.1 pc = .ok (.lcmp, 1)) (d : decode M.2.1 (pc + 1) = .ok (.ifCond .ge off, 3)) (ht : ((pc + 1 : Nat) : Int) + off = (tgt : Int)) (kt : y ≤ x → Ev g M tgt lv st hp Post) (kf : ¬ (y ≤ x) → Ev g M (pc + 1 + 3) lv st hp Post) : Ev g M pc lv (.long y :: .long x :: st) hp Post := ev_lcmp d0 (ev_if_ge d ht (fun q => kt ((lg_cmp_ge x y).mp q)) (fun q => kf (fun z => q ((lg_cmp_ge x y).mpr z))))
theorem ev_lcmp_gt {x y : Int64} {off : Int} {tgt : Nat} (d0 : decode M.2.1 pc = .ok (.lcmp, 1)) (d : decode M.2.1 (pc + 1) = .ok (.ifCond .gt off, 3)) (ht : ((pc + 1 : Nat) : Int) + off = (tgt : Int)) (kt : y < x → Ev g M tgt lv st hp Post) (kf : ¬ (y < x) → Ev g M (pc + 1 + 3) lv st hp Post) : Ev g M pc lv (.long y :: .long x :: st) hp Post := ev_lcmp d0 (ev_if_gt d ht (fun q => kt ((lg_cmp_gt x y).mp q)) (fun q => kf (fun z => q ((lg_cmp_gt x y).mpr z))))
theorem ev_lcmp_le {x y : Int64} {off : Int} {tgt : Nat} (d0 : decode M.2.1 pc = .ok (.lcmp, 1)) (d : decode M.2.1 (pc + 1) = .ok (.ifCond .le off, 3)) (ht : ((pc + 1 : Nat) : Int) + off = (tgt : Int)) (kt : x ≤ y → Ev g M tgt lv st hp Post) (kf : ¬ (x ≤ y) → Ev g M (pc + 1 + 3) lv st hp Post) : Ev g M pc lv (.long y :: .long x :: st) hp Post := ev_lcmp d0 (ev_if_le d ht (fun q => kt ((lg_cmp_le x y).mp q)) (fun q => kf (fun z => q ((lg_cmp_le x y).mpr z))))
theorem ev_goto {off : Int} {tgt : Nat} (d : decode M.2.1 pc = .ok (.goto off, 3)) (ht : (pc : Int) + off = (tgt : Int)) (k : Ev g M tgt lv st hp Post) : Ev g M pc lv st hp Post := by
  intro p e s m args below meth c A H locs ls hA hP hD hS hl
  exact lv_goto hA.1 hA.2.1 d ht (k p e s m args below meth c A H locs ls hA hP hD hS hl)
theorem ev_tabOut {x : Int32} {dflt lo hi : Int} {offs : Array Int} {len tgt : Nat} (d : decode M.2.1 pc = .ok (.tableswitch dflt lo hi offs, len)) (h : x.toInt < lo ∨ hi < x.toInt) (ht : (pc : Int) + dflt = (tgt : Int)) (k : Ev g M tgt lv st hp Post) : Ev g M pc lv (.int x :: st) hp Post := by
  intro p e s m args below meth c A H locs ls hA hP hD hS hl
  exact lv_tableOut hA.1 hA.2.1 d h ht (k p e s m args below meth c A H locs ls hA hP hD hS hl)
theorem ev_tabIn {x : Int32} {dflt lo hi : Int} {offs : Array Int} {len tgt : Nat} {off : Int} (d : decode M.2.1 pc = .ok (.tableswitch dflt lo hi offs, len)) (h1 : ¬ x.toInt < lo) (h2 : ¬ hi < x.toInt) (ho : offs[(x.toInt - lo).toNat]? = some off) (ht : (pc : Int) + off = (tgt : Int)) (k : Ev g M tgt lv st hp Post) : Ev g M pc lv (.int x :: st) hp Post := by
  intro p e s m args below meth c A H locs ls hA hP hD hS hl
  exact lv_tableIn hA.1 hA.2.1 d h1 h2 ho ht (k p e s m args below meth c A H locs ls hA hP hD hS hl)
theorem ev_iret {v : Int32} {ty : FieldType} (d : decode M.2.1 pc = .ok (.ireturn, 1)) (hr : M.2.2.2.1 = some ty) (hn : narrow ty (.int v) = .int v) (h : Post (some (.int v)) hp) : Ev g M pc lv [.int v] hp Post := by
  intro p e s m args below meth c A H locs ls hA hP hD hS hl
  exact W.zret hA.1 hA.2.1 (hA.2.2.2.2.2.1.trans hr) hn (fun t ht hW => ⟨⟨some (.int v), hp, rfl, h, by rw [ht]; exact hP, va_K.moved hW.alike hA.2.2.2.2.2.2.2.1, hD⟩, hS.F ht⟩) hS.2.2 d hA.2.2.2.2.2.2.1
theorem ev_lret {v : Int64} (d : decode M.2.1 pc = .ok (.lreturn, 1)) (hr : M.2.2.2.1 = some .long) (h : Post (some (.long v)) hp) : Ev g M pc lv [.long v] hp Post := by
  intro p e s m args below meth c A H locs ls hA hP hD hS hl
  exact W.lret hA.1 hA.2.1 (hA.2.2.2.2.2.1.trans hr) (fun t ht hW => ⟨⟨some (.long v), hp, rfl, h, by rw [ht]; exact hP, va_K.moved hW.alike hA.2.2.2.2.2.2.2.1, hD⟩, hS.F ht⟩) hS.2.2 d hA.2.2.2.2.2.2.1
theorem ev_ret (d : decode M.2.1 pc = .ok (.return_, 1)) (hr : M.2.2.2.1 = none) (h : Post none hp) : Ev g M pc lv [] hp Post := by
  intro p e s m args below meth c A H locs ls hA hP hD hS hl
  exact W.vret hA.1 hA.2.1 (hA.2.2.2.2.2.1.trans hr) (fun t ht hW => ⟨⟨none, hp, rfl, h, by rw [ht]; exact hP, va_K.moved hW.alike hA.2.2.2.2.2.2.2.1, hD⟩, hS.F ht⟩) hS.2.2 d hA.2.2.2.2.2.2.1
end EVR
