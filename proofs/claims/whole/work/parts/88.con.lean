/-! constructors: the world grows; addresses come as cells are made -/
section CON
def okV (n : Nat) (v : Value) : Bool := match v with
  | .ref k => Nat.blt k n || Nat.ble 77 k
  | _ => true
def okE (n : Nat) (e : va_E) : Bool := match e with
  | .inl _ => true
  | .inr o => o.2.all (okV n)
def Ag (n : Nat) (ad' ad : Nat → Nat) : Prop := ∀ j, j < n ∨ 77 ≤ j → ad' j = ad j
def wA (g : GG) (ad : Nat → Nat) : GG := (g.1, g.2.1, ad, g.2.2.2)
theorem Ag.rf {n : Nat} {a : Nat → Nat} : Ag n a a := fun _ _ => rfl
theorem Ag.tr {n : Nat} {a b c : Nat → Nat} (h : Ag n a b) (k : Ag n b c) : Ag n a c := fun j z => (h j z).trans (k j z)
theorem Ag.le {n m : Nat} {a b : Nat → Nat} (h : Ag n a b) (q : m ≤ n) : Ag m a b := fun j z => h j (by omega)
theorem Ag.up {n k q : Nat} {a : Nat → Nat} (h : n ≤ k) (h2 : k < 77) : Ag n (va_up a k q) a := fun j z => up_ne (by omega)
variable {g : GG} {n : Nat} {ad ad' : Nat → Nat}
theorem cv_ag (h : Ag n ad' ad) {v : Value} (hv : okV n v = true) : cv ad' v = cv ad v := by
  cases v with
  | ref k =>
    show Value.ref (ad' k) = Value.ref (ad k)
    unfold okV at hv
    rw [h k (by simp only [Bool.or_eq_true, Nat.blt_eq, Nat.ble_eq] at hv; exact hv)]
  | _ => rfl
theorem map_ag (h : Ag n ad' ad) {l : List Value} (hl : l.all (okV n) = true) : l.map (cv ad') = l.map (cv ad) := List.map_congr_left (fun v hv => cv_ag h (List.all_eq_true.mp hl v hv))
theorem cz_ag (h : Ag n ad' ad) {e : va_E} (he : okE n e = true) : cz (wA g ad') e = cz (wA g ad) e := by
  cases e with
  | inl a => rfl
  | inr o =>
    show Sum.inr (o.1, o.2.map (cv ad')) = Sum.inr (o.1, o.2.map (cv ad))
    rw [map_ag h he]
theorem wd_ag (h : Ag n ad' ad) {hp : List va_E} (hl : hp.length ≤ n) (hk : hp.all (okE n) = true) : wd (wA g ad') hp = wd (wA g ad) hp := by
  unfold wd
  apply List.ext_getElem?
  intro i
  rw [List.getElem?_mapIdx, List.getElem?_mapIdx]
  cases hi : hp[i]? with
  | none => rfl
  | some e =>
    have hlt := (List.getElem?_eq_some_iff.mp hi).1
    show some (ad' i, cz (wA g ad') e) = some (ad i, cz (wA g ad) e)
    rw [h i (Or.inl (by omega)), cz_ag h (List.all_eq_true.mp hk e (List.mem_of_getElem? hi))]
theorem lvc_ag (h : Ag n ad' ad) {lv : List (Nat × Value)} (hk : lv.all (fun q => okV n q.2) = true) : lvc (wA g ad') lv = lvc (wA g ad) lv := by
  unfold lvc
  refine List.map_congr_left (fun q hq => ?_)
  show (q.1, cv ad' q.2) = (q.1, cv ad q.2)
  rw [cv_ag h (List.all_eq_true.mp hk q hq)]
theorem Sx.ag {A : Nat → Prop} {U : State} {H : Heap} (h : Ag n ad' ad) (k : Sx (wA g ad) A U H) : Sx (wA g ad') A U H := by
  have e1 : (fun i => ad' (100 + i)) = (fun i => ad (100 + i)) := funext (fun i => h _ (Or.inr (by omega)))
  have e2 : (fun i => ad' (200 + i)) = (fun i => ad (200 + i)) := funext (fun i => h _ (Or.inr (by omega)))
  have e3 : ad' 300 = ad 300 := h _ (Or.inr (by omega))
  obtain ⟨k1, k2, k3, k4⟩ := k
  refine ⟨?_, fun i hi => ?_, k3, ?_⟩
  · show vk_S 7 lenJS bytJS (fun i => ad' (100 + i)) (fun i => ad' (200 + i)) A U H
    rw [e1, e2]
    exact k1
  · show vk_R RX2 (ixJS i) (txJS.getD i "") (ad' (100 + i)) U
    rw [h _ (Or.inr (by omega))]
    exact k2 i hi
  · show va_Z "jdk/internal/util/Preconditions" "SIOOBE_FORMATTER" "Ljava/util/function/BiFunction;" .null A U H ∨ va_Z "jdk/internal/util/Preconditions" "SIOOBE_FORMATTER" "Ljava/util/function/BiFunction;" (.ref (ad' 300)) A U H
    rw [e3]
    exact k4
theorem Act.ag {M : MD} {A : Nat → Prop} {p : Program} {s : State} {m : MethodId} {args : Array Value} {meth : Method} {c : Code} (h : Ag n ad' ad) (hA : Act (wA g ad) M A p s m args meth c) : Act (wA g ad') M A p s m args meth c := by
  obtain ⟨a1, a2, a3, a4, a5, a6, a7, a8, a9, a10, a11⟩ := hA
  exact ⟨a1, a2, a3, a4, a5, a6, a7, a8, a9, a10.ag h, a11⟩
theorem wd_cat (hp : List va_E) (e : va_E) : wd (wA g ad) (hp ++ [e]) = wd (wA g ad) hp ++ [(ad hp.length, cz (wA g ad) e)] := by
  unfold wd
  rw [List.mapIdx_concat]
  rfl
theorem wd_push {q : Nat} {hp : List va_E} {e : va_E} (h77 : hp.length < 77) (hk : hp.all (okE hp.length) = true) : wd (wA g (va_up ad hp.length q)) (hp ++ [e]) = wd (wA g ad) hp ++ [(q, cz (wA g (va_up ad hp.length q)) e)] := by
  rw [wd_cat, wd_ag (g := g) (Ag.up (q := q) (a := ad) (Nat.le_refl hp.length) h77) (Nat.le_refl _) hk, va_up_self]
variable {xq : CX} {M M' : MD} {kc nc : Nat} {pc : Nat} {lv : List (Nat × Value)} {st : List Value} {hp hp' : List va_E}
theorem AC_I : Cond.arrayClass .int ∈ Ts := ts_in (List.mem_of_getElem? (i := 117) (by decide +kernel)) rfl
theorem AC_L : Cond.arrayClass .long ∈ Ts := ts_in (List.mem_of_getElem? (i := 238) (by decide +kernel)) rfl
theorem OI_i : Cond.instanceMethod objectInit ∈ Ts := ts_in (List.mem_of_getElem? (i := 89) (by decide +kernel)) rfl
theorem OI_c : Cond.code objectInit ⟨#[0xb1]⟩ 1 none ∈ Ts := ts_in (List.mem_of_getElem? (i := 90) (by decide +kernel)) rfl
theorem gv_newI {v : Int32} {N k : Nat} (d : decode M.2.1 pc = .ok (.newarray .int, 2)) (hlen : hp.length = k) (hN : v = nI N) (hn : N < 100000) (ok1 : hp.all (okE k) = true) (ok2 : lv.all (fun q => okV k q.2) = true) (ok3 : st.all (okV k) = true) (h77 : k < 77) (hc : kc + 1 ≤ M.2.2.2.2.cells) (hs : nc + N ≤ M.2.2.2.2.slots) (kk : ∀ q, Gv xq (wA g (va_up ad k q)) M (kc + 1) (nc + N) (pc + 2) lv (.ref k :: st) (hp ++ [.inl (0, N, .inl (fun _ => 0))])) : Gv xq (wA g ad) M kc nc pc lv (.int v :: st) hp := by
  obtain ⟨p, e, s, m, args, below, meth, c, A, Q⟩ := xq
  intro hA H locs ls hP hD hS hl
  subst hlen
  subst hN
  refine va_newa (atype := .int) (ty := .int) (a0 := (N, .inl (fun _ => 0))) hA.1 hA.2.1 (hA.2.2.2.2.1 _ AC_I) rfl hA.2.2.2.2.2.2.2.1 hP hD hS hA.2.2.2.2.2.2.2.2.2.2 (fun cA => rfl) (nI_pos (by omega)) (nI_clamp (by omega)) (by show N * 4 ≤ 536870912; omega) hc hs d (fun q cA H1 hK1 hP1 hD1 hS1 => ?_)
  have hag : Ag hp.length (va_up ad hp.length q) ad := Ag.up (Nat.le_refl _) h77
  have r1 : s.vm.findClass ("[" ++ FieldType.int.toString) = some cA := (hK1.2 2 _ rfl).2
  have r2 : s.vm.findClass ("[" ++ FieldType.int.toString) = some (g.2.2.2 0) := (hA.2.2.2.2.2.2.2.1.2 0 _ rfl).2
  have hcA : cA = g.2.2.2 0 := Option.some.inj (r1.symm.trans r2)
  subst hcA
  have ew := wd_push (g := g) (ad := ad) (q := q) (e := .inl (0, N, .inl (fun _ => 0))) h77 ok1
  refine kk q (hA.ag hag) H1 locs ls (by rw [ew]; exact hP1) (by rw [ew]; exact hD1) hS1 (by rw [lvc_ag hag ok2]; exact hl) |> fun z => ?_
  have es : (Value.ref hp.length :: st).map (cv (va_up ad hp.length q)) = Value.ref q :: st.map (cv ad) := by
    rw [List.map_cons, map_ag hag ok3]
    show Value.ref (va_up ad hp.length q hp.length) :: _ = _
    rw [va_up_self]
  have z' : W p g.1 e M.2.2.2.2 s m args below meth c H1 locs (kc + 1) (nc + N) Q (F0 m (pc + 2) ls ((Value.ref hp.length :: st).map (cv (va_up ad hp.length q)))) := z
  rw [es] at z'
  exact z'
theorem gv_newL {v : Int32} {N k : Nat} (d : decode M.2.1 pc = .ok (.newarray .long, 2)) (hlen : hp.length = k) (hN : v = nI N) (hn : N < 100000) (ok1 : hp.all (okE k) = true) (ok2 : lv.all (fun q => okV k q.2) = true) (ok3 : st.all (okV k) = true) (h77 : k < 77) (hc : kc + 1 ≤ M.2.2.2.2.cells) (hs : nc + N ≤ M.2.2.2.2.slots) (kk : ∀ q, Gv xq (wA g (va_up ad k q)) M (kc + 1) (nc + N) (pc + 2) lv (.ref k :: st) (hp ++ [.inl (1, N, .inr (.inl (fun _ => 0)))])) : Gv xq (wA g ad) M kc nc pc lv (.int v :: st) hp := by
  obtain ⟨p, e, s, m, args, below, meth, c, A, Q⟩ := xq
  intro hA H locs ls hP hD hS hl
  subst hlen
  subst hN
  refine va_newa (atype := .long) (ty := .long) (a0 := (N, .inr (.inl (fun _ => 0)))) hA.1 hA.2.1 (hA.2.2.2.2.1 _ AC_L) rfl hA.2.2.2.2.2.2.2.1 hP hD hS hA.2.2.2.2.2.2.2.2.2.2 (fun cA => rfl) (nI_pos (by omega)) (nI_clamp (by omega)) (by show N * 8 ≤ 536870912; omega) hc hs d (fun q cA H1 hK1 hP1 hD1 hS1 => ?_)
  have hag : Ag hp.length (va_up ad hp.length q) ad := Ag.up (Nat.le_refl _) h77
  have r1 : s.vm.findClass ("[" ++ FieldType.long.toString) = some cA := (hK1.2 2 _ rfl).2
  have r2 : s.vm.findClass ("[" ++ FieldType.long.toString) = some (g.2.2.2 1) := (hA.2.2.2.2.2.2.2.1.2 1 _ rfl).2
  have hcA : cA = g.2.2.2 1 := Option.some.inj (r1.symm.trans r2)
  subst hcA
  have ew := wd_push (g := g) (ad := ad) (q := q) (e := .inl (1, N, .inr (.inl (fun _ => 0)))) h77 ok1
  refine kk q (hA.ag hag) H1 locs ls (by rw [ew]; exact hP1) (by rw [ew]; exact hD1) hS1 (by rw [lvc_ag hag ok2]; exact hl) |> fun z => ?_
  have es : (Value.ref hp.length :: st).map (cv (va_up ad hp.length q)) = Value.ref q :: st.map (cv ad) := by
    rw [List.map_cons, map_ag hag ok3]
    show Value.ref (va_up ad hp.length q hp.length) :: _ = _
    rw [va_up_self]
  have z' : W p g.1 e M.2.2.2.2 s m args below meth c H1 locs (kc + 1) (nc + N) Q (F0 m (pc + 2) ls ((Value.ref hp.length :: st).map (cv (va_up ad hp.length q)))) := z
  rw [es] at z'
  exact z'
/-- a class that can be made -/
def Nw (own : String) (idx ci : Nat) (N : Nat) (fs : List Value) : Prop := ∃ (C : String) (T : u_T), Cok ci C T N ∧ (∃ ty : Nat → FieldType, (∀ k, k < N → parseFieldDescriptor (T k).2.2.1 = some (ty k)) ∧ ∀ j, j < N → defaultValue (ty j) = vp_V fs j) ∧ Cond.classLink own idx C ∈ Ts ∧ Cond.instantiable C N ∈ Ts ∧ Cond.initialized C ∈ Ts
def okN (v : Value) : Bool := match v with
  | .ref _ => false
  | _ => true
theorem map_okN {fs : List Value} (h : fs.all okN = true) (a : Nat → Nat) : fs.map (cv a) = fs := by
  have e : fs.map (cv a) = fs.map (fun v => v) := List.map_congr_left (fun v hv => by
    have z := List.all_eq_true.mp h v hv
    cases v with
    | ref j => exact absurd z Bool.false_ne_true
    | _ => rfl)
  rw [e]
  exact List.map_id' fs
theorem gv_new {idx ci N k : Nat} {fs : List Value} (d : decode M.2.1 pc = .ok (.new idx, 3)) (hw : Nw M.1.cls idx ci N fs) (hlen : hp.length = k) (okf : fs.all okN = true) (ok1 : hp.all (okE k) = true) (ok2 : lv.all (fun q => okV k q.2) = true) (ok3 : st.all (okV k) = true) (h77 : k < 77) (hc : kc + 1 ≤ M.2.2.2.2.cells) (hs : nc + N ≤ M.2.2.2.2.slots) (kk : ∀ q, Gv xq (wA g (va_up ad k q)) M (kc + 1) (nc + N) (pc + 3) lv (.ref k :: st) (hp ++ [.inr (ci, fs)])) : Gv xq (wA g ad) M kc nc pc lv st hp := by
  obtain ⟨p, e, s, m, args, below, meth, c, A, Q⟩ := xq
  intro hA H locs ls hP hD hS hl
  subst hlen
  obtain ⟨C, T, ⟨hcl, hin, -⟩, ⟨ty, hty, hdf⟩, h1, h2, h3⟩ := hw
  refine va_new (ci := ci) (fs := fs) hA.1 hA.2.1 hA.2.2.2.2.1 hin ty hty hA.2.2.2.1 (hA.2.2.2.2.1 _ h1) (hA.2.2.2.2.1 _ h2) (hA.2.2.2.2.1 _ h3) hA.2.2.2.2.2.2.2.1 hP hD hS hA.2.2.2.2.2.2.2.2.2.2 hcl hdf hc hs d (fun q H1 hP1 hD1 hS1 => ?_)
  have hag : Ag hp.length (va_up ad hp.length q) ad := Ag.up (Nat.le_refl _) h77
  have ew := wd_push (g := g) (ad := ad) (q := q) (e := .inr (ci, fs)) h77 ok1
  have ec : cz (wA g (va_up ad hp.length q)) (.inr (ci, fs)) = .inr (ci, fs) := by
    show Sum.inr (ci, fs.map (cv (va_up ad hp.length q))) = _
    rw [map_okN okf]
  rw [ec] at ew
  refine kk q (hA.ag hag) H1 locs ls (by rw [ew]; exact hP1) (by rw [ew]; exact hD1) hS1 (by rw [lvc_ag hag ok2]; exact hl) |> fun z => ?_
  have es : (Value.ref hp.length :: st).map (cv (va_up ad hp.length q)) = Value.ref q :: st.map (cv ad) := by
    rw [List.map_cons, map_ag hag ok3]
    show Value.ref (va_up ad hp.length q hp.length) :: _ = _
    rw [va_up_self]
  have z' : W p g.1 e M.2.2.2.2 s m args below meth c H1 locs (kc + 1) (nc + N) Q (F0 m (pc + 3) ls ((Value.ref hp.length :: st).map (cv (va_up ad hp.length q)))) := z
  rw [es] at z'
  exact z'
theorem gv_obj {idx q : Nat} (d : decode M.2.1 pc = .ok (.invokespecial idx, 3)) (h : Cond.methodLink M.1.cls idx objectInit ∈ Ts) (hf : 1 ≤ M.2.2.2.2.frames) (hl2 : 12 ≤ M.2.2.2.2.locals) (kk : Gv xq g M kc nc (pc + 3) lv [] hp) : Gv xq g M kc nc pc lv [.ref q] hp := by
  obtain ⟨p, e, s, m, args, below, meth, c, A, Q⟩ := xq
  intro hA H locs ls hP hD hS hl
  refine W.objInit hA.1 hA.2.1 hA.2.2.2.1 (hA.2.2.2.2.1 _ h) (hA.2.2.2.2.1 _ OI_i) (hA.2.2.2.2.1 _ OI_c) rfl (by rw [hA.2.2.1]; exact hl.1) rfl d hf hl2 ?_
  exact W.eq (g2 := F0 m (pc + 3) ls []) rfl (kk hA H locs ls hP hD hS hl)
/-- a final field, in its own constructor -/
def Ff (own : String) (idx ci k : Nat) (ty : FieldType) : Prop := ∃ (C : String) (T : u_T) (N : Nat), Cok ci C T N ∧ k < N ∧ Cond.fieldLink own idx (T k).1 (T k).2.1 (T k).2.2.1 ∈ Ts ∧ (T k).2.2.2 = true ∧ (T k).1 = own ∧ parseFieldDescriptor (T k).2.2.1 = some ty
theorem gv_putF {idx ci k q : Nat} {fs : List Value} {v : Value} {ty : FieldType} (hi : xq.2.2.2.2.2.2.1.name = "<init>") (d : decode M.2.1 pc = .ok (.putfield idx, 3)) (f : Ff M.1.cls idx ci k ty) (he : hp[q]? = some (.inr (ci, fs))) (hkl : Nat.blt k fs.length = true) (hn : ∀ ad : Nat → Nat, narrow ty (cv ad v) = cv ad v) (hf : ∀ ad : Nat → Nat, fits ty (cv ad v) = true) (hs : hp.set q (.inr (ci, fs.set k v)) = hp') (kk : Gv xq g M kc nc (pc + 3) lv st hp') : Gv xq g M kc nc pc lv (v :: .ref q :: st) hp := by
  obtain ⟨p, e, s, m, args, below, meth, c, A, Q⟩ := xq
  intro hA H locs ls hP hD hS hl
  subst hs
  obtain ⟨C, T, N, ⟨hc, hin, ty0, h1, h2⟩, hk, h, hfin, hown, hd⟩ := f
  have hlen : k < (fs.map (cv g.2.2.1)).length := by rw [List.length_map]; simpa [Nat.blt_eq] using hkl
  refine va_putF hA.1 hA.2.1 hA.2.2.2.2.1 hin ty0 h1 h2 hA.2.2.2.1 hA.2.2.2.2.2.2.2.1 hP hD hS q (wd_at (g := g) he) hc k hk (hA.2.2.2.2.1 _ h) (fun _ z => z) hfin hi hown hd (hn _) (hf _) hlen d (fun H1 locs1 hP1 hD1 hS1 => ?_)
  rw [← cz_set, wd_set] at hP1 hD1
  exact kk hA H1 locs1 ls hP1 hD1 hS1 hl
/-- a constructor's end: the cells hp', at addresses that agree with those of before below n0 -/
def Qn (g : GG) (n0 : Nat) (A : Nat → Prop) (hp' : List va_E) : Array Value → State → Outcome → State → Prop := fun _ st oc t => (∃ ad' : Nat → Nat, Ag n0 ad' g.2.2.1 ∧ oc = .returned none ∧ va_P g.2.1 vwCl (wd (wA g ad') hp') t.heap ∧ va_K g.2.1 vwCl (tysG g) t ∧ va_D A (wd (wA g ad') hp')) ∧ va_F A st t
/-- a constructor's contract -/
def Ci (g : GG) (M : MD) (as : List Value) (hp hp' : List va_E) (n0 mc ms : Nat) : Prop :=
  ∀ sz : Nat, Met g.1 M.1 (wsM M) M.2.2.2.2 (va_Pc (as.map (cv g.2.2.1)) (fun U => U.heap.size = sz ∧ va_P g.2.1 vwCl (wd g hp) U.heap ∧ va_K g.2.1 vwCl (tysG g) U ∧ va_D (fun _ => True) (wd g hp) ∧ Nst U ∧ Sx g (va_A (wd g hp) sz) U U.heap)) (Qn g n0 (va_A (wd g hp) sz) hp') mc ms (va_A (wd g hp) sz)
def Cv (g : GG) (n0 : Nat) (hpf : List va_E) (mc ms : Nat) (M : MD) (kc nc pc : Nat) (lv : List (Nat × Value)) (st : List Value) (hp : List va_E) : Prop := ∀ (p : Program) (e : Env) (s : State) (m : MethodId) (args : Array Value) (below : List Frame) (meth : Method) (c : Code) (A : Nat → Prop) (ad : Nat → Nat), meth.name = "<init>" → Ag n0 ad g.2.2.1 → Gv (p, e, s, m, args, below, meth, c, A, MQ below (Qn g n0 A hpf) args s mc ms A) (wA g ad) M kc nc pc lv st hp
theorem ci_of {as : List Value} {n0 mc ms : Nat} (hy : plainName M.1.cls = true) (hnm : M.1.name = "<init>") (hlen : Nat.ble (lg_sl as).length M.2.2.1 = true) (h : Cv g n0 hp' mc ms M 0 0 0 (lv_args 0 as) [] hp) : Ci g M as hp hp' n0 mc ms := by
  intro sz
  refine Met.ofW (cc := M.2.1) (maxL := M.2.2.1) (ret := M.2.2.2.1) hy rfl ?_
  intro p e s m args below meth c s₁ B hml hv
  obtain ⟨rfl, hsz, hP, hK, hD0, hN, hX⟩ := hv
  have hts := atoms_spec (ws := wsM M) B.pre
  have hown : s.vm.findClass M.1.cls = some m.cls := findClass_of_methodNamed B.named
  have hin : meth.name = "<init>" := (name_of_methodNamed B.named B.method).1.trans hnm
  subst hsz
  have hD := hD0.self (sz := s.heap.size)
  generalize hAe : va_A (wd g hp) s.heap.size = A at hD hX ⊢
  have hA : ∀ q : Nat, s.heap.size ≤ q → A q := fun q h => by rw [← hAe]; exact Or.inr h
  have hS : va_S A s.heap s.heap [] := va_S.rf
  have hl := lv_entry (as.map (cv g.2.2.1)) (n := M.2.2.1) (by rw [lg_sl_len]; exact Nat.le_of_ble_eq_true hlen)
  rw [lg_entry_eq]
  rw [lvc_args] at hl
  exact h p e s m _ below meth c A g.2.2.1 hin Ag.rf ⟨B.exec, B.bytes, hml, hown, fun w hw => hts w (List.mem_cons_of_mem _ hw), B.returns, B.notSynchronized, hK, hN, hX, hA⟩ s.heap [] _ hP hD hS hl
theorem cv_ret {n0 mc ms : Nat} (d : decode M.2.1 pc = .ok (.return_, 1)) (hr : M.2.2.2.1 = none) : Cv g n0 hp mc ms M mc ms pc lv [] hp := by
  intro p e s m args below meth c A ad hi ha hA H locs ls hP hD hS hl
  exact W.vret hA.1 hA.2.1 (hA.2.2.2.2.2.1.trans hr) (fun t ht hW => ⟨⟨ad, ha, rfl, by rw [ht]; exact hP, va_K.moved hW.alike hA.2.2.2.2.2.2.2.1, hD⟩, hS.F ht⟩) hS.2.2 d hA.2.2.2.2.2.2.1
end CON
