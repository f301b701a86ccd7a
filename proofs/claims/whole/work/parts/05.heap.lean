/-- a class of the world: its rows stand in the tables -/
def Cok (ci : Nat) (C : String) (T : u_T) (N : Nat) : Prop := vwCl[ci]? = some (C, T, N) ∧ (∀ w ∈ u_ws C T N, w ∈ Ts) ∧ ∃ ty0 : Nat → FieldType, (∀ k, k < N → parseFieldDescriptor (T k).2.2.1 = some (ty0 k)) ∧ (∀ a, a < N → ∀ b, b < N → a ≠ b → (T a).2.1 ≠ (T b).2.1)
/-- a field by its link -/
def Fl (own : String) (idx ci k : Nat) : Prop := ∃ (C : String) (T : u_T) (N : Nat), Cok ci C T N ∧ k < N ∧ (Cond.fieldLink own idx (T k).1 (T k).2.1 (T k).2.2.1 ∈ Ts ∨ ∃ host, Cond.fieldLinkNest own idx (T k).1 (T k).2.1 (T k).2.2.1 host ∈ Tn)
/-- a field that is not final, and its type -/
def Fp (own : String) (idx ci k : Nat) (ty : FieldType) : Prop := ∃ (C : String) (T : u_T) (N : Nat), Cok ci C T N ∧ k < N ∧ (Cond.fieldLink own idx (T k).1 (T k).2.1 (T k).2.2.1 ∈ Ts ∨ ∃ host, Cond.fieldLinkNest own idx (T k).1 (T k).2.1 (T k).2.2.1 host ∈ Tn) ∧ (T k).2.2.2 = false ∧ parseFieldDescriptor (T k).2.2.1 = some ty
theorem Fl.of {own : String} {idx ci k : Nat} {C : String} {T : u_T} {N : Nat} (h : Cok ci C T N) (hk : k < N) (hl : Cond.fieldLink own idx (T k).1 (T k).2.1 (T k).2.2.1 ∈ lw_tbl) : Fl own idx ci k := ⟨C, T, N, h, hk, Or.inl (ts_in hl rfl)⟩
theorem Fl.ofN {own host : String} {idx ci k : Nat} {C : String} {T : u_T} {N : Nat} (h : Cok ci C T N) (hk : k < N) (hl : Cond.fieldLinkNest own idx (T k).1 (T k).2.1 (T k).2.2.1 host ∈ lw_tbl) : Fl own idx ci k := ⟨C, T, N, h, hk, Or.inr ⟨host, tn_in hl rfl⟩⟩
theorem Fp.of {own : String} {idx ci k : Nat} {C : String} {T : u_T} {N : Nat} {ty : FieldType} (h : Cok ci C T N) (hk : k < N) (hl : Cond.fieldLink own idx (T k).1 (T k).2.1 (T k).2.2.1 ∈ lw_tbl) (hf : (T k).2.2.2 = false) (hd : parseFieldDescriptor (T k).2.2.1 = some ty) : Fp own idx ci k ty := ⟨C, T, N, h, hk, Or.inl (ts_in hl rfl), hf, hd⟩
theorem Fp.ofN {own host : String} {idx ci k : Nat} {C : String} {T : u_T} {N : Nat} {ty : FieldType} (h : Cok ci C T N) (hk : k < N) (hl : Cond.fieldLinkNest own idx (T k).1 (T k).2.1 (T k).2.2.1 host ∈ lw_tbl) (hf : (T k).2.2.2 = false) (hd : parseFieldDescriptor (T k).2.2.1 = some ty) : Fp own idx ci k ty := ⟨C, T, N, h, hk, Or.inr ⟨host, tn_in hl rfl⟩, hf, hd⟩
section EVH
variable {g : GG} {M : MD} {pc : Nat} {lv : List (Nat × Value)} {st : List Value} {hp : List va_E} {Post : Option Value → List va_E → Prop}
theorem map_get? {α β : Type} {f : α → β} {l : List α} {k : Nat} {v : α} (h : l[k]? = some v) : (l.map f)[k]? = some (f v) := by rw [List.getElem?_map, h]; rfl
theorem ev_getf {idx ci k q : Nat} {fs : List Value} {v : Value} (d : decode M.2.1 pc = .ok (.getfield idx, 3)) (f : Fl M.1.cls idx ci k) (he : hp[q]? = some (.inr (ci, fs))) (hv : fs[k]? = some v) (kk : Ev g M (pc + 3) lv (v :: st) hp Post) : Ev g M pc lv (.ref q :: st) hp Post := by
  intro p e s m args below meth c A H locs ls hA hP hD hS hl
  obtain ⟨C, T, N, ⟨hc, hin, -⟩, hk, h | ⟨host, h⟩⟩ := f
  · exact va_get hA.1 hA.2.1 hA.2.2.2.2.1 hin hA.2.2.2.1 hA.2.2.2.2.2.2.2.1 hP q (wd_at (g := g) he) hc k hk (hA.2.2.2.2.1 _ h) (fun _ z => z) (map_get? hv) d (kk p e s m args below meth c A H locs ls hA hP hD hS hl)
  · exact va_getN hA.1 hA.2.1 hA.2.2.2.2.1 hin hA.2.2.2.1 hA.2.2.2.2.2.2.2.1 hP q (wd_at (g := g) he) hc k hk (va_Nw.use rfl (hA.2.2.2.2.2.2.2.2.1 _ h)) (fun _ z => z) (map_get? hv) d (kk p e s m args below meth c A H locs ls hA hP hD hS hl)
theorem cz_set {ci k : Nat} {fs : List Value} {v : Value} : cz g (.inr (ci, fs.set k v)) = .inr (ci, (fs.map (cv g.2.2.1)).set k (cv g.2.2.1 v)) := by
  show Sum.inr (ci, (fs.set k v).map (cv g.2.2.1)) = _
  rw [List.map_set]
theorem ev_putf {idx ci k q : Nat} {fs : List Value} {v : Value} {ty : FieldType} {hp' : List va_E} (d : decode M.2.1 pc = .ok (.putfield idx, 3)) (f : Fp M.1.cls idx ci k ty) (he : hp[q]? = some (.inr (ci, fs))) (hkl : Nat.blt k fs.length = true) (hn : ∀ ad : Nat → Nat, narrow ty (cv ad v) = cv ad v) (hf : ∀ ad : Nat → Nat, fits ty (cv ad v) = true) (hs : hp.set q (.inr (ci, fs.set k v)) = hp') (kk : Ev g M (pc + 3) lv st hp' Post) : Ev g M pc lv (v :: .ref q :: st) hp Post := by
  intro p e s m args below meth c A H locs ls hA hP hD hS hl
  subst hs
  obtain ⟨C, T, N, ⟨hc, hin, ty0, h1, h2⟩, hk, h, hfin, hd⟩ := f
  have hlen : k < (fs.map (cv g.2.2.1)).length := by rw [List.length_map]; simpa [Nat.blt_eq] using hkl
  have fin : ∀ (H1 : Heap) (locs1 : List Loc), va_P g.2.1 vwCl ((wd g hp).set q (g.2.2.1 q, .inr (ci, (fs.map (cv g.2.2.1)).set k (cv g.2.2.1 v)))) H1 → va_D A ((wd g hp).set q (g.2.2.1 q, .inr (ci, (fs.map (cv g.2.2.1)).set k (cv g.2.2.1 v)))) → va_S A s.heap H1 locs1 → W p g.1 e M.2.2.2.2 s m args below meth c H1 locs1 0 0 (MQ below (Qg g A Post) args s 0 0 A) (F0 m (pc + 3) ls (st.map (cv g.2.2.1))) := by
    intro H1 locs1 hP1 hD1 hS1
    rw [← cz_set, wd_set] at hP1 hD1
    exact kk p e s m args below meth c A H1 locs1 ls hA hP1 hD1 hS1 hl
  rcases h with h | ⟨host, h⟩
  · exact va_put hA.1 hA.2.1 hA.2.2.2.2.1 hin ty0 h1 h2 hA.2.2.2.1 hA.2.2.2.2.2.2.2.1 hP hD hS q (wd_at (g := g) he) hc k hk (hA.2.2.2.2.1 _ h) (fun _ z => z) hfin hd (hn _) (hf _) hlen d fin
  · exact va_putN hA.1 hA.2.1 hA.2.2.2.2.1 hin ty0 h1 h2 hA.2.2.2.1 hA.2.2.2.2.2.2.2.1 hP hD hS q (wd_at (g := g) he) hc k hk (va_Nw.use rfl (hA.2.2.2.2.2.2.2.2.1 _ h)) (fun _ z => z) hfin hd (hn _) (hf _) hlen d fin
theorem ev_iald {q n : Nat} {f : Nat → Int32} {i : Int32} (d : decode M.2.1 pc = .ok (.iaload, 1)) (he : hp[q]? = some (.inl (0, n, .inl f))) (hin : vp_in i n) (kk : Ev g M (pc + 1) lv (.int (f i.toNatClampNeg) :: st) hp Post) : Ev g M pc lv (.int i :: .ref q :: st) hp Post := by
  intro p e s m args below meth c A H locs ls hA hP hD hS hl
  exact va_iald hA.1 hA.2.1 hA.2.2.2.2.2.2.2.1 hP q 0 (wd_at (g := g) he) rfl hin d (kk p e s m args below meth c A H locs ls hA hP hD hS hl)
theorem ev_lald {q n : Nat} {f : Nat → Int64} {i : Int32} (d : decode M.2.1 pc = .ok (.laload, 1)) (he : hp[q]? = some (.inl (1, n, .inr (.inl f)))) (hin : vp_in i n) (kk : Ev g M (pc + 1) lv (.long (f i.toNatClampNeg) :: st) hp Post) : Ev g M pc lv (.int i :: .ref q :: st) hp Post := by
  intro p e s m args below meth c A H locs ls hA hP hD hS hl
  exact va_lald hA.1 hA.2.1 hA.2.2.2.2.2.2.2.1 hP q 1 (wd_at (g := g) he) rfl hin d (kk p e s m args below meth c A H locs ls hA hP hD hS hl)
theorem ev_iast {q n : Nat} {f : Nat → Int32} {i x : Int32} {hp' : List va_E} (d : decode M.2.1 pc = .ok (.iastore, 1)) (he : hp[q]? = some (.inl (0, n, .inl f))) (hin : vp_in i n) (hs : hp.set q (.inl (0, n, .inl (upd f i.toNatClampNeg x))) = hp') (kk : Ev g M (pc + 1) lv st hp' Post) : Ev g M pc lv (.int x :: .int i :: .ref q :: st) hp Post := by
  intro p e s m args below meth c A H locs ls hA hP hD hS hl
  subst hs
  refine va_iast hA.1 hA.2.1 hA.2.2.2.2.2.2.2.1 hP hD hS q 0 (wd_at (g := g) he) rfl hin d (fun H1 locs1 hP1 hD1 hS1 => ?_)
  have z : (wd g hp).set q (g.2.2.1 q, .inl (g.2.2.2 0, n, .inl (upd f i.toNatClampNeg x))) = wd g (hp.set q (.inl (0, n, .inl (upd f i.toNatClampNeg x)))) := wd_set (g := g) (e := .inl (0, n, .inl (upd f i.toNatClampNeg x)))
  rw [z] at hP1 hD1
  exact kk p e s m args below meth c A H1 locs1 ls hA hP1 hD1 hS1 hl
theorem ev_last {q n : Nat} {f : Nat → Int64} {i : Int32} {x : Int64} {hp' : List va_E} (d : decode M.2.1 pc = .ok (.lastore, 1)) (he : hp[q]? = some (.inl (1, n, .inr (.inl f)))) (hin : vp_in i n) (hs : hp.set q (.inl (1, n, .inr (.inl (vp_updL f i.toNatClampNeg x)))) = hp') (kk : Ev g M (pc + 1) lv st hp' Post) : Ev g M pc lv (.long x :: .int i :: .ref q :: st) hp Post := by
  intro p e s m args below meth c A H locs ls hA hP hD hS hl
  subst hs
  refine va_last hA.1 hA.2.1 hA.2.2.2.2.2.2.2.1 hP hD hS q 1 (wd_at (g := g) he) rfl hin d (fun H1 locs1 hP1 hD1 hS1 => ?_)
  have z : (wd g hp).set q (g.2.2.1 q, .inl (g.2.2.2 1, n, .inr (.inl (vp_updL f i.toNatClampNeg x)))) = wd g (hp.set q (.inl (1, n, .inr (.inl (vp_updL f i.toNatClampNeg x))))) := wd_set (g := g) (e := .inl (1, n, .inr (.inl (vp_updL f i.toNatClampNeg x))))
  rw [z] at hP1 hD1
  exact kk p e s m args below meth c A H1 locs1 ls hA hP1 hD1 hS1 hl
theorem ev_alenI {q n : Nat} {f : Nat → Int32} {v : Int32} (d : decode M.2.1 pc = .ok (.arraylength, 1)) (he : hp[q]? = some (.inl (0, n, .inl f))) (hv : Int32.ofNat n = v) (kk : Ev g M (pc + 1) lv (.int v :: st) hp Post) : Ev g M pc lv (.ref q :: st) hp Post := by
  intro p e s m args below meth c A H locs ls hA hP hD hS hl
  exact va_alen hA.1 hA.2.1 hA.2.2.2.2.2.2.2.1 hP q 0 (wd_at (g := g) he) rfl hv d (kk p e s m args below meth c A H locs ls hA hP hD hS hl)
theorem ev_alenL {q n : Nat} {f : Nat → Int64} {v : Int32} (d : decode M.2.1 pc = .ok (.arraylength, 1)) (he : hp[q]? = some (.inl (1, n, .inr (.inl f)))) (hv : Int32.ofNat n = v) (kk : Ev g M (pc + 1) lv (.int v :: st) hp Post) : Ev g M pc lv (.ref q :: st) hp Post := by
  intro p e s m args below meth c A H locs ls hA hP hD hS hl
  exact va_alen hA.1 hA.2.1 hA.2.2.2.2.2.2.2.1 hP q 1 (wd_at (g := g) he) rfl hv d (kk p e s m args below meth c A H locs ls hA hP hD hS hl)
end EVH
