theorem Sx.moved {g : GG} {A : Nat → Prop} {u U : State} {H : Heap} (hv : u.vm = U.vm) (h : Sx g A u H) : Sx g A U H := by
  have ha : u.vm.Alike U.vm := by rw [← hv]; exact Vm.Alike.refl _
  exact ⟨h.1.moved ha, fun i hi => (h.2.1 i hi).same hv.symm, h.2.2.1.moved ha, h.2.2.2.imp (fun z => z.moved ha) (fun z => z.moved ha)⟩
theorem Sx.warm {g : GG} {A : Nat → Prop} {s U : State} {H : Heap} (hW : s.WarmedH U.vm) (h : Sx g A s H) : Sx g A U H := ⟨h.1.moved hW.alike, fun i hi => (h.2.1 i hi).warm hW, h.2.2.1.moved hW.alike, h.2.2.2.imp (fun z => z.moved hW.alike) (fun z => z.moved hW.alike)⟩
theorem Sx.kept {g : GG} {A : Nat → Prop} {s : State} {H H1 : Heap} (h : Sx g A s H) (hq : ∀ a : Nat, a < H.size → ¬ A a → H1[a]? = H[a]?) : Sx g A s H1 := ⟨h.1.kept hq, h.2.1, h.2.2.1.kept hq, h.2.2.2.imp (fun z => z.kept hq) (fun z => z.kept hq)⟩
theorem Sx.narrow {g : GG} {A B : Nat → Prop} {s : State} {H : Heap} (h : Sx g A s H) (hAB : ∀ q, B q → A q) : Sx g B s H := ⟨h.1.narrow hAB, h.2.1, h.2.2.1.narrow hAB, h.2.2.2.imp (fun z => z.narrow hAB) (fun z => z.narrow hAB)⟩
theorem lvc_args {g : GG} : ∀ (as : List Value) (i : Nat), lv_args i (as.map (cv g.2.2.1)) = lvc g (lv_args i as)
  | [], _ => rfl
  | v :: vs, i => by
    show (i, cv g.2.2.1 v) :: lv_args (if (cv g.2.2.1 v).category = 2 then i + 2 else i + 1) (vs.map (cv g.2.2.1)) = (i, cv g.2.2.1 v) :: lvc g (lv_args (if v.category = 2 then i + 2 else i + 1) vs)
    rw [cv_cat, lvc_args vs]
theorem lg_sl_len {g : GG} : ∀ (as : List Value), (lg_sl (as.map (cv g.2.2.1))).length = (lg_sl as).length
  | [] => rfl
  | v :: vs => by
    have h := lg_sl_len (g := g) vs
    unfold lg_sl at h ⊢
    rw [List.map_cons, List.flatMap_cons, List.flatMap_cons, List.length_append, List.length_append, h, cv_cat]
    split <;> rfl
theorem ct_of {g : GG} {M : MD} {as : List Value} {hp : List va_E} {Post : Option Value → List va_E → Prop} (hy : plainName M.1.cls = true) (hlen : Nat.ble (lg_sl as).length M.2.2.1 = true) (h : Ev g M 0 (lv_args 0 as) [] hp Post) : Ct g M as hp Post := by
  intro sz
  refine Met.ofW (cc := M.2.1) (maxL := M.2.2.1) (ret := M.2.2.2.1) hy rfl ?_
  intro p e s m args below meth c s₁ B hml hv
  obtain ⟨rfl, hsz, hP, hK, hD0, hN, hX⟩ := hv
  have hts := atoms_spec (ws := wsM M) B.pre
  have hown : s.vm.findClass M.1.cls = some m.cls := findClass_of_methodNamed B.named
  subst hsz
  have hD := hD0.self (sz := s.heap.size)
  generalize hAe : va_A (wd g hp) s.heap.size = A at hD hX ⊢
  have hA : ∀ q : Nat, s.heap.size ≤ q → A q := fun q h => by rw [← hAe]; exact Or.inr h
  have hS : va_S A s.heap s.heap [] := va_S.rf
  have hl := lv_entry (as.map (cv g.2.2.1)) (n := M.2.2.1) (by rw [lg_sl_len]; exact Nat.le_of_ble_eq_true hlen)
  rw [lg_entry_eq]
  rw [lvc_args] at hl
  exact h p e s m _ below meth c A s.heap [] _ ⟨B.exec, B.bytes, hml, hown, fun w hw => hts w (List.mem_cons_of_mem _ hw), B.returns, B.notSynchronized, hK, hN, hX, hA⟩ hP hD hS hl
/-- a contract's end may be weakened -/
theorem ct_post {g : GG} {M : MD} {as : List Value} {hp : List va_E} {Post Post' : Option Value → List va_E → Prop} (h : ∀ v q, Post' v q → Post v q) (k : Ct g M as hp Post') : Ct g M as hp Post := by
  intro sz p e ha hc hk s m args below hf hfit hP hK
  obtain ⟨t, o, b0, b1, b2, ⟨⟨v, q, c1, c2, c3⟩, c4⟩, b4⟩ := k sz p e ha hc hk s m args below hf hfit hP hK
  exact ⟨t, o, b0, b1, b2, ⟨⟨v, q, c1, h v q c2, c3⟩, c4⟩, b4⟩
def Ml (own : String) (idx : Nat) (M' : MD) : Prop := Cond.methodLink own idx M'.1 ∈ Ts ∨ ∃ host, Cond.methodLinkNest own idx M'.1 host ∈ Tn
def Mm (M' : MD) (n : Nat) : Prop := Cond.code M'.1 M'.2.1 M'.2.2.1 M'.2.2.2.1 ∈ Ts ∧ Cond.initialized M'.1.cls ∈ Ts ∧ (M'.1.cls ≠ "java/lang/invoke/MethodHandle" ∧ M'.1.cls ≠ "java/lang/invoke/VarHandle") ∧ (parseMethodDescriptor M'.1.desc).map (fun d => d.parameters.length) = some n ∧ M'.2.2.2.2.cells = 0 ∧ M'.2.2.2.2.slots = 0
def Mv (M' : MD) (n : Nat) : Prop := Mm M' n ∧ Cond.instanceMethod M'.1 ∈ Ts ∧ Cond.selects M'.1.cls M'.1 M'.1 ∈ Ts
def Ms (M' : MD) (n : Nat) : Prop := Mm M' n ∧ Cond.static M'.1 ∈ Ts
theorem wsM_good {M' : MD} (h : Cond.code M'.1 M'.2.1 M'.2.2.1 M'.2.2.2.1 ∈ Ts) : GoodIn Ts (wsM M') := by
  intro w hw
  rcases List.mem_cons.mp hw with rfl | hw
  · exact ⟨h, good_of_word (ts_good h)⟩
  · exact ⟨hw, good_of_word (ts_good hw)⟩
section EVC
variable {g : GG} {M : MD} {pc : Nat} {lv : List (Nat × Value)} {st : List Value} {hp : List va_E} {Post : Option Value → List va_E → Prop}
theorem callG {p : Program} {l : Launch} {e : Env} {R : Room} {s : State} {m : MethodId} {args : Array Value} {below : List Frame} {meth : Method} {c : Code} {H H0 : Heap} {locs : List Loc} {Q : State → Prop} {ls : Array Slot} {rest st0 : List Value} {a : Array Value} {A A1 : Nat → Prop} {Post' : Option Value → List va_E → Prop}
    (hr : va_Run p l e R s m args below meth c H locs 0 0 0 0 (F0 m pc ls st0) rest (Qg g A1 Post' a) A1) (hS : va_S A H0 H locs) (hF : ∀ q, A1 q → A q)
    (kk : ∀ (v : Option Value) (hp' : List va_E) (t : State) (H1 : Heap) (locs1 : List Loc), t.heap = H1 → Post' v hp' → va_P g.2.1 vwCl (wd g hp') H1 → va_D A1 (wd g hp') → va_S A H0 H1 locs1 → W p l e R s m args below meth c H1 locs1 0 0 Q (F0 m (pc + 3) ls ((v.map (cv g.2.2.1)).toList ++ rest))) : W p l e R s m args below meth c H locs 0 0 Q (F0 m pc ls st0) := by
  intro T hT X
  obtain ⟨v, st₀, t, T', L, h0, X', hL, e1, e2, ⟨⟨v', hp', hv, hp, hP, hK, hD⟩, hz, hk⟩, st⟩ := hr T hT X
  cases hv
  rw [h0] at hz hk
  obtain ⟨t2, a1, b1⟩ := kk v' hp' t T'.heap (locs ++ L) e1.symm hp (by rw [e1]; exact hP) hD
    ⟨Nat.le_trans hS.1 (by rw [e1]; exact hz), fun q h1 h2 => by rw [e1, hk q (Nat.lt_of_lt_of_le h1 hS.1) (fun z => h2 (hF q z))]; exact hS.2.1 q h1 h2, fun q hq => by
      rcases List.mem_append.mp hq with h | h
      · exact hS.2.2 q h
      · exact hF _ (hL q h)⟩ T' rfl X'
  exact ⟨t2, st t2 a1, b1⟩
/-- what the callee starts from -/
theorem call_pre {p : Program} {s : State} {m : MethodId} {args : Array Value} {meth : Method} {c : Code} {A : Nat → Prop} {H : Heap} {locs : List Loc} (hA : Act g M A p s m args meth c) (hP : va_P g.2.1 vwCl (wd g hp) H) (hD : va_D A (wd g hp)) (hS : va_S A s.heap H locs) :
    (∀ q, va_A (wd g hp) H.size q → A q) ∧ ∀ U : State, U.heap = H → s.WarmedH U.vm → (U.heap.size = H.size ∧ va_P g.2.1 vwCl (wd g hp) U.heap ∧ va_K g.2.1 vwCl (tysG g) U ∧ va_D (fun _ => True) (wd g hp) ∧ Nst U ∧ Sx g (va_A (wd g hp) H.size) U U.heap) := by
  have hF : ∀ q, va_A (wd g hp) H.size q → A q := by
    intro q h
    rcases h with ⟨k, e, h⟩ | h
    · exact hD.2 k (q, e) h
    · exact hA.2.2.2.2.2.2.2.2.2.2 q (Nat.le_trans hS.1 h)
  refine ⟨hF, fun U hU hW => ⟨by rw [hU], by rw [hU]; exact hP, va_K.moved hW.alike hA.2.2.2.2.2.2.2.1, hD.weaken (fun _ _ _ _ => trivial), hA.2.2.2.2.2.2.2.2.1.warm hW, ?_⟩⟩
  rw [hU]
  exact ((hA.2.2.2.2.2.2.2.2.2.1.kept hS.2.1).warm hW).narrow hF
theorem call_blind {av : List Value} {sz : Nat} {A : Nat → Prop} : FrameBlind (va_Pc av (fun U => U.heap.size = sz ∧ va_P g.2.1 vwCl (wd g hp) U.heap ∧ va_K g.2.1 vwCl (tysG g) U ∧ va_D (fun _ => True) (wd g hp) ∧ Nst U ∧ Sx g A U U.heap)) := by
  intro a U gf mk q
  obtain ⟨q0, q1, qP, qK, qD, qN, qX⟩ := q
  exact ⟨q0, q1, qP, va_K.moved (u := U) (U := U.calling gf mk a) (Vm.Alike.refl U.vm) qK, qD, Nst.same (u := U) (U := U.calling gf mk a) rfl qN, Sx.moved (u := U) (U := U.calling gf mk a) rfl qX⟩
theorem call_B {M' : MD} {n : Nat} {R : Room} {s : State} {args : Array Value} {own : String} {idx : Nat} (mm : Mm M' n) (hts : ∀ w ∈ Ts, w.before args s = true) (hR : M'.2.2.2.2.frames + 1 ≤ R.frames ∧ 8 + (M'.2.2.1 + 11) + M'.2.2.2.2.locals ≤ R.locals) (hl : Cond.methodLink own idx M'.1 ∈ Ts) : CallB R s args own idx M'.1 M'.2.1 M'.2.2.1 M'.2.2.2.1 (wsM M') M'.2.2.2.2 0 0 n :=
  callB_of n hts (wsM_good mm.1) rfl mm.2.2.2.2.1 mm.2.2.2.2.2 (hts _ mm.2.1) (hts _ hl) ⟨mm.2.2.1.1, mm.2.2.1.2, mm.2.2.2.1⟩ hR
theorem call_N {M' : MD} {n : Nat} {R : Room} {s : State} {args : Array Value} {own host : String} {idx : Nat} (mm : Mm M' n) (hts : ∀ w ∈ Ts, w.before args s = true) (hR : M'.2.2.2.2.frames + 1 ≤ R.frames ∧ 8 + (M'.2.2.1 + 11) + M'.2.2.2.2.locals ≤ R.locals) (hl : va_Nw (.methodLinkNest own idx M'.1 host) s) : va_CN R s args own idx M'.1 host M'.2.1 M'.2.2.1 M'.2.2.2.1 (wsM M') M'.2.2.2.2 0 0 n :=
  va_cnB n hts (wsM_good mm.1) rfl mm.2.2.2.2.1 mm.2.2.2.2.2 hl (hts _ mm.2.1) ⟨mm.2.2.1.1, mm.2.2.1.2, mm.2.2.2.1⟩ hR
theorem cat_sum (l : List Value) : ((l.map (cv g.2.2.1)).map fun v => v.category).sum = (l.map fun v => v.category).sum := by
  rw [List.map_map]
  congr 1
  exact List.map_congr_left (fun v _ => cv_cat _ v)
theorem room_of {M M' : MD} (h : (Nat.ble (M'.2.2.2.2.frames + 1) M.2.2.2.2.frames && Nat.ble (8 + (M'.2.2.1 + 11) + M'.2.2.2.2.locals) M.2.2.2.2.locals) = true) : M'.2.2.2.2.frames + 1 ≤ M.2.2.2.2.frames ∧ 8 + (M'.2.2.1 + 11) + M'.2.2.2.2.locals ≤ M.2.2.2.2.locals := by
  rw [Bool.and_eq_true] at h
  exact ⟨Nat.le_of_ble_eq_true h.1, Nat.le_of_ble_eq_true h.2⟩
theorem ev_callV {idx n q : Nat} {M' : MD} {as rest : List Value} {Post' : Option Value → List va_E → Prop} (d : decode M.2.1 pc = .ok (.invokevirtual idx, 3)) (ml : Ml M.1.cls idx M') (mv : Mv M' n) (hr : (Nat.ble (M'.2.2.2.2.frames + 1) M.2.2.2.2.frames && Nat.ble (8 + (M'.2.2.1 + 11) + M'.2.2.2.2.locals) M.2.2.2.2.locals) = true) (hn : as.length = n) (hw : Nat.ble (rest.map fun v => v.category).sum 8 = true)
    {ci : Nat} {fs : List Value} (hq : hp[q]? = some (.inr (ci, fs))) (hci : (vwCl[ci]?).map (fun z => z.1) = some M'.1.cls) (ct : Ct g M' (.ref q :: as) hp Post') (kk : ∀ v hp', Post' v hp' → Ev g M (pc + 3) lv (v.toList ++ rest) hp' Post) : Ev g M pc lv (as.reverse ++ .ref q :: rest) hp Post := by
  intro p e s m args below meth c A H locs ls hA hP hD hS hl
  obtain ⟨hF, hU⟩ := call_pre hA hP hD hS
  have hR := room_of hr
  have hcl : ∃ z, vwCl[ci]? = some z ∧ z.1 = M'.1.cls := by
    cases hz : vwCl[ci]? with
    | none => rw [hz] at hci; cases hci
    | some z => rw [hz] at hci; exact ⟨z, rfl, Option.some.inj hci⟩
  obtain ⟨z, hz, hz1⟩ := hcl
  have hrecv := va_recv hA.2.2.2.2.2.2.2.1 hP hz (wd_at (g := g) hq)
  rw [hz1] at hrecv
  have hst : ((as.reverse ++ Value.ref q :: rest).map (cv g.2.2.1)) = (as.map (cv g.2.2.1)).reverse ++ .ref (g.2.2.1 q) :: rest.map (cv g.2.2.1) := by
    rw [List.map_append, List.map_reverse, List.map_cons]; rfl
  have hsum : (((rest.map (cv g.2.2.1)).map fun v => v.category)).sum ≤ 8 := by rw [cat_sum]; exact Nat.le_of_ble_eq_true hw
  have fin : ∀ (v : Option Value) (hp' : List va_E) (t : State) (H1 : Heap) (locs1 : List Loc), t.heap = H1 → Post' v hp' → va_P g.2.1 vwCl (wd g hp') H1 → va_D (va_A (wd g hp) H.size) (wd g hp') → va_S A s.heap H1 locs1 → W p g.1 e M.2.2.2.2 s m args below meth c H1 locs1 0 0 (MQ below (Qg g A Post) args s 0 0 A) (F0 m (pc + 3) ls ((v.map (cv g.2.2.1)).toList ++ rest.map (cv g.2.2.1))) := by
    intro v hp' t H1 locs1 ht hp1 hP1 hD1 hS1
    have := kk v hp' hp1 p e s m args below meth c A H1 locs1 ls hA hP1 (hD1.weaken (fun _ _ _ h => hF _ h)) hS1 hl
    rw [List.map_append] at this
    cases v <;> exact this
  have hpre : PreV s H M'.1.cls (g.2.2.1 q) (va_Pc ((Value.ref q :: as).map (cv g.2.2.1)) (fun U => U.heap.size = H.size ∧ va_P g.2.1 vwCl (wd g hp) U.heap ∧ va_K g.2.1 vwCl (tysG g) U ∧ va_D (fun _ => True) (wd g hp) ∧ Nst U ∧ Sx g (va_A (wd g hp) H.size) U U.heap)) (as.map (cv g.2.2.1)) := ⟨call_blind, hrecv, fun U h1 h2 => ⟨rfl, hU U h1 h2⟩⟩
  rw [hst]
  rcases ml with hml | ⟨host, hml⟩
  · exact callG (va_runV (As := as.map (cv g.2.2.1)) ⟨hA.1, hA.2.1, hA.2.2.1, hA.2.2.2.1, hA.2.2.2.2.1⟩ (ct H.size) ⟨call_B mv.1 hA.2.2.2.2.1 hR hml, hA.2.2.2.2.1 _ mv.2.1, hA.2.2.2.2.1 _ mv.2.2⟩ hpre rfl (by rw [List.length_map]; exact hn) hl.1 rfl (lv_room hsum) d ⟨Nat.zero_le _, Nat.zero_le _⟩) hS hF fin
  · exact callG (va_runVN (As := as.map (cv g.2.2.1)) ⟨hA.1, hA.2.1, hA.2.2.1, hA.2.2.2.1, hA.2.2.2.2.1⟩ (ct H.size) ⟨call_N mv.1 hA.2.2.2.2.1 hR (hA.2.2.2.2.2.2.2.2.1 _ hml), hA.2.2.2.2.1 _ mv.2.1, hA.2.2.2.2.1 _ mv.2.2⟩ hpre rfl (by rw [List.length_map]; exact hn) hl.1 rfl (lv_room hsum) d ⟨Nat.zero_le _, Nat.zero_le _⟩) hS hF fin
theorem ev_callS {idx n : Nat} {M' : MD} {as rest : List Value} {Post' : Option Value → List va_E → Prop} (d : decode M.2.1 pc = .ok (.invokestatic idx, 3)) (ml : Ml M.1.cls idx M') (mv : Ms M' n) (hr : (Nat.ble (M'.2.2.2.2.frames + 1) M.2.2.2.2.frames && Nat.ble (8 + (M'.2.2.1 + 11) + M'.2.2.2.2.locals) M.2.2.2.2.locals) = true) (hn : as.length = n) (hw : Nat.ble (rest.map fun v => v.category).sum 8 = true)
    (ct : Ct g M' as hp Post') (kk : ∀ v hp', Post' v hp' → Ev g M (pc + 3) lv (v.toList ++ rest) hp' Post) : Ev g M pc lv (as.reverse ++ rest) hp Post := by
  intro p e s m args below meth c A H locs ls hA hP hD hS hl
  obtain ⟨hF, hU⟩ := call_pre hA hP hD hS
  have hR := room_of hr
  have hst : ((as.reverse ++ rest).map (cv g.2.2.1)) = (as.map (cv g.2.2.1)).reverse ++ rest.map (cv g.2.2.1) := by
    rw [List.map_append, List.map_reverse]
  have hsum : (((rest.map (cv g.2.2.1)).map fun v => v.category)).sum ≤ 8 := by rw [cat_sum]; exact Nat.le_of_ble_eq_true hw
  have fin : ∀ (v : Option Value) (hp' : List va_E) (t : State) (H1 : Heap) (locs1 : List Loc), t.heap = H1 → Post' v hp' → va_P g.2.1 vwCl (wd g hp') H1 → va_D (va_A (wd g hp) H.size) (wd g hp') → va_S A s.heap H1 locs1 → W p g.1 e M.2.2.2.2 s m args below meth c H1 locs1 0 0 (MQ below (Qg g A Post) args s 0 0 A) (F0 m (pc + 3) ls ((v.map (cv g.2.2.1)).toList ++ rest.map (cv g.2.2.1))) := by
    intro v hp' t H1 locs1 ht hp1 hP1 hD1 hS1
    have := kk v hp' hp1 p e s m args below meth c A H1 locs1 ls hA hP1 (hD1.weaken (fun _ _ _ h => hF _ h)) hS1 hl
    rw [List.map_append] at this
    cases v <;> exact this
  have hpre : PreS s H (va_Pc (as.map (cv g.2.2.1)) (fun U => U.heap.size = H.size ∧ va_P g.2.1 vwCl (wd g hp) U.heap ∧ va_K g.2.1 vwCl (tysG g) U ∧ va_D (fun _ => True) (wd g hp) ∧ Nst U ∧ Sx g (va_A (wd g hp) H.size) U U.heap)) (as.map (cv g.2.2.1)) := ⟨call_blind, fun U h1 h2 => ⟨rfl, hU U h1 h2⟩⟩
  rw [hst]
  rcases ml with hml | ⟨host, hml⟩
  · exact callG (va_runS (As := as.map (cv g.2.2.1)) ⟨hA.1, hA.2.1, hA.2.2.1, hA.2.2.2.1, hA.2.2.2.2.1⟩ (ct H.size) ⟨call_B mv.1 hA.2.2.2.2.1 hR hml, hA.2.2.2.2.1 _ mv.2⟩ hpre rfl (by rw [List.length_map]; exact hn) hl.1 rfl (lv_room hsum) d ⟨Nat.zero_le _, Nat.zero_le _⟩) hS hF fin
  · exact callG (va_runSN (As := as.map (cv g.2.2.1)) ⟨hA.1, hA.2.1, hA.2.2.1, hA.2.2.2.1, hA.2.2.2.2.1⟩ (ct H.size) ⟨call_N mv.1 hA.2.2.2.2.1 hR (hA.2.2.2.2.2.2.2.2.1 _ hml), hA.2.2.2.2.1 _ mv.2, trivial⟩ hpre rfl (by rw [List.length_map]; exact hn) hl.1 rfl (lv_room hsum) d ⟨Nat.zero_le _, Nat.zero_le _⟩) hS hF fin
end EVC
