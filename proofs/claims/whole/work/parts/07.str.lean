section EVS
variable {g : GG} {M : MD} {pc : Nat} {lv : List (Nat × Value)} {st : List Value} {hp : List va_E} {Post : Option Value → List va_E → Prop}
theorem ev_ldcS {idx i : Nat} (d : decode M.2.1 pc = .ok (.ldc idx, 2)) (ho : M.1.cls = RX2) (hi : i < 7) (hx : ixJS i = idx) (k : Ev g M (pc + 2) lv (.ref (100 + i) :: st) hp Post) : Ev g M pc lv st hp Post := by
  intro p e s m args below meth c A H locs ls hA hP hD hS hl
  subst hx
  have hown := hA.2.2.2.1
  rw [ho] at hown
  exact va_ldcS hA.1 hA.2.1 hown (hA.2.2.2.2.2.2.2.2.2.1.2.1 i hi) d (k p e s m args below meth c A H locs ls hA hP hD hS hl)
theorem ev_strVal {idx i : Nat} (d : decode M.2.1 pc = .ok (.getfield idx, 3)) (hl : Cond.fieldLink M.1.cls idx "java/lang/String" "value" "[B" ∈ Ts) (hi : i < 7) (k : Ev g M (pc + 3) lv (.ref (200 + i) :: st) hp Post) : Ev g M pc lv (.ref (100 + i) :: st) hp Post := by
  intro p e s m args below meth c A H locs ls hA hP hD hS hl'
  exact vk_getf hA.1 hA.2.1 (hA.2.2.2.2.2.2.2.2.2.1.1.1 i hi).2.2.1 hS hA.2.2.2.1 (hA.2.2.2.2.1 _ hl) (fun _ z => z) d (k p e s m args below meth c A H locs ls hA hP hD hS hl')
theorem ev_strCoder {idx i : Nat} (d : decode M.2.1 pc = .ok (.getfield idx, 3)) (hl : Cond.fieldLink M.1.cls idx "java/lang/String" "coder" "B" ∈ Ts) (hi : i < 7) (k : Ev g M (pc + 3) lv (.int 0 :: st) hp Post) : Ev g M pc lv (.ref (100 + i) :: st) hp Post := by
  intro p e s m args below meth c A H locs ls hA hP hD hS hl'
  exact vk_getf hA.1 hA.2.1 (hA.2.2.2.2.2.2.2.2.2.1.1.1 i hi).2.1 hS hA.2.2.2.1 (hA.2.2.2.2.1 _ hl) (fun _ z => z) d (k p e s m args below meth c A H locs ls hA hP hD hS hl')
theorem ev_compact {idx : Nat} (d : decode M.2.1 pc = .ok (.getstatic idx, 3)) (hl : Cond.fieldLink M.1.cls idx "java/lang/String" "COMPACT_STRINGS" "Z" ∈ Ts) (k : Ev g M (pc + 3) lv (.int 1 :: st) hp Post) : Ev g M pc lv st hp Post := by
  intro p e s m args below meth c A H locs ls hA hP hD hS hl'
  exact va_gets hA.1 hA.2.1 hA.2.2.2.2.2.2.2.2.2.1.2.2.1 hS hA.2.2.2.1 (hA.2.2.2.2.1 _ hl) (fun _ z => z) d (k p e s m args below meth c A H locs ls hA hP hD hS hl')
theorem ev_siob {idx : Nat} (d : decode M.2.1 pc = .ok (.getstatic idx, 3)) (hl : Cond.fieldLink M.1.cls idx "jdk/internal/util/Preconditions" "SIOOBE_FORMATTER" "Ljava/util/function/BiFunction;" ∈ Ts) (k : ∀ v : Value, v.category = 1 → Ev g M (pc + 3) lv (v :: st) hp Post) : Ev g M pc lv st hp Post := by
  intro p e s m args below meth c A H locs ls hA hP hD hS hl'
  rcases hA.2.2.2.2.2.2.2.2.2.1.2.2.2 with h | h
  · exact va_gets hA.1 hA.2.1 h hS hA.2.2.2.1 (hA.2.2.2.2.1 _ hl) (fun _ z => z) d (k .null rfl p e s m args below meth c A H locs ls hA hP hD hS hl')
  · exact va_gets hA.1 hA.2.1 h hS hA.2.2.2.1 (hA.2.2.2.2.1 _ hl) (fun _ z => z) d (k (.ref 300) rfl p e s m args below meth c A H locs ls hA hP hD hS hl')
theorem ev_blen {i : Nat} {v : Int32} (d : decode M.2.1 pc = .ok (.arraylength, 1)) (hi : i < 7) (hv : Int32.ofNat (lenJS.getD i 0) = v) (k : Ev g M (pc + 1) lv (.int v :: st) hp Post) : Ev g M pc lv (.ref (200 + i) :: st) hp Post := by
  intro p e s m args below meth c A H locs ls hA hP hD hS hl
  exact va_tlen hA.1 hA.2.1 (hA.2.2.2.2.2.2.2.2.2.1.1.1 i hi).2.2.2 hS hv d (k p e s m args below meth c A H locs ls hA hP hD hS hl)
theorem ev_bald {i : Nat} {j : Int32} (d : decode M.2.1 pc = .ok (.baload, 1)) (hi : i < 7) (hj : vp_in j (lenJS.getD i 0)) (k : Ev g M (pc + 1) lv (.int ((bytJS.getD i []).getD j.toNatClampNeg 0) :: st) hp Post) : Ev g M pc lv (.int j :: .ref (200 + i) :: st) hp Post := by
  intro p e s m args below meth c A H locs ls hA hP hD hS hl
  exact va_tb hA.1 hA.2.1 (hA.2.2.2.2.2.2.2.2.2.1.1.1 i hi).2.2.2 hS hj rfl d (k p e s m args below meth c A H locs ls hA hP hD hS hl)
theorem ev_callT {idx n i : Nat} {M' : MD} {as rest : List Value} {Post' : Option Value → List va_E → Prop} (d : decode M.2.1 pc = .ok (.invokevirtual idx, 3)) (ml : Ml M.1.cls idx M') (mv : Mv M' n) (hr : (Nat.ble (M'.2.2.2.2.frames + 1) M.2.2.2.2.frames && Nat.ble (8 + (M'.2.2.1 + 11) + M'.2.2.2.2.locals) M.2.2.2.2.locals) = true) (hn : as.length = n) (hw : Nat.ble (rest.map fun v => v.category).sum 8 = true)
    (hi : i < 7) (hci : M'.1.cls = "java/lang/String") (ct : Ct g M' (.ref (100 + i) :: as) hp Post') (kk : ∀ v hp', Post' v hp' → Ev g M (pc + 3) lv (v.toList ++ rest) hp' Post) : Ev g M pc lv (as.reverse ++ .ref (100 + i) :: rest) hp Post := by
  intro p e s m args below meth c A H locs ls hA hP hD hS hl
  obtain ⟨hF, hU⟩ := call_pre hA hP hD hS
  have hR := room_of hr
  have hrecv := vk_recv hA.2.2.2.2.2.2.2.2.2.1.1 hi hS
  rw [← hci] at hrecv
  have hst : ((as.reverse ++ Value.ref (100 + i) :: rest).map (cv g.2.2.1)) = (as.map (cv g.2.2.1)).reverse ++ .ref (g.2.2.1 (100 + i)) :: rest.map (cv g.2.2.1) := by
    rw [List.map_append, List.map_reverse, List.map_cons]; rfl
  have hsum : (((rest.map (cv g.2.2.1)).map fun v => v.category)).sum ≤ 8 := by rw [cat_sum]; exact Nat.le_of_ble_eq_true hw
  have fin : ∀ (v : Option Value) (hp' : List va_E) (t : State) (H1 : Heap) (locs1 : List Loc), t.heap = H1 → Post' v hp' → va_P g.2.1 vwCl (wd g hp') H1 → va_D (va_A (wd g hp) H.size) (wd g hp') → va_S A s.heap H1 locs1 → W p g.1 e M.2.2.2.2 s m args below meth c H1 locs1 0 0 (MQ below (Qg g A Post) args s 0 0 A) (F0 m (pc + 3) ls ((v.map (cv g.2.2.1)).toList ++ rest.map (cv g.2.2.1))) := by
    intro v hp' t H1 locs1 ht hp1 hP1 hD1 hS1
    have := kk v hp' hp1 p e s m args below meth c A H1 locs1 ls hA hP1 (hD1.weaken (fun _ _ _ h => hF _ h)) hS1 hl
    rw [List.map_append] at this
    cases v <;> exact this
  have hpre : PreV s H M'.1.cls (g.2.2.1 (100 + i)) (va_Pc ((Value.ref (100 + i) :: as).map (cv g.2.2.1)) (fun U => U.heap.size = H.size ∧ va_P g.2.1 vwCl (wd g hp) U.heap ∧ va_K g.2.1 vwCl (tysG g) U ∧ va_D (fun _ => True) (wd g hp) ∧ Nst U ∧ Sx g (va_A (wd g hp) H.size) U U.heap)) (as.map (cv g.2.2.1)) := ⟨call_blind, hrecv, fun U h1 h2 => ⟨rfl, hU U h1 h2⟩⟩
  rw [hst]
  rcases ml with hml | ⟨host, hml⟩
  · exact callG (va_runV (As := as.map (cv g.2.2.1)) ⟨hA.1, hA.2.1, hA.2.2.1, hA.2.2.2.1, hA.2.2.2.2.1⟩ (ct H.size) ⟨call_B mv.1 hA.2.2.2.2.1 hR hml, hA.2.2.2.2.1 _ mv.2.1, hA.2.2.2.2.1 _ mv.2.2⟩ hpre rfl (by rw [List.length_map]; exact hn) hl.1 rfl (lv_room hsum) d ⟨Nat.zero_le _, Nat.zero_le _⟩) hS hF fin
  · exact callG (va_runVN (As := as.map (cv g.2.2.1)) ⟨hA.1, hA.2.1, hA.2.2.1, hA.2.2.2.1, hA.2.2.2.2.1⟩ (ct H.size) ⟨call_N mv.1 hA.2.2.2.2.1 hR (hA.2.2.2.2.2.2.2.2.1 _ hml), hA.2.2.2.2.1 _ mv.2.1, hA.2.2.2.2.1 _ mv.2.2⟩ hpre rfl (by rw [List.length_map]; exact hn) hl.1 rfl (lv_room hsum) d ⟨Nat.zero_le _, Nat.zero_le _⟩) hS hF fin
theorem ls_ml {p : Program} {s : State} {m : MethodId} {args : Array Value} {meth : Method} {c : Code} {A : Nat → Prop} {ls : Array Slot} (hA : Act g M A p s m args meth c) (hl : lv_has ls M.2.2.1 (lvc g lv)) : c.maxLocals = ls.size := hA.2.2.1.trans hl.1.symm
theorem ev_mmax {idx : Nat} {x y : Int32} (d : decode M.2.1 pc = .ok (.invokestatic idx, 3)) (h1 : Cond.methodLink M.1.cls idx Lib.Math.max.name ∈ Ts) (h2 : Cond.static Lib.Math.max.name ∈ Ts) (h3 : Cond.initialized "java/lang/Math" ∈ Ts) (h4 : Cond.code Lib.Math.max.name Lib.Math.max.code 2 (some .int) ∈ Ts) (hf : Nat.ble 1 M.2.2.2.2.frames = true) (hw : Nat.ble ((st.map fun v => v.category).sum + 13) M.2.2.2.2.locals = true) (k : Ev g M (pc + 3) lv (.int (if x < y then y else x) :: st) hp Post) : Ev g M pc lv (.int y :: .int x :: st) hp Post := by
  intro p e s m args below meth c A H locs ls hA hP hD hS hl
  exact va_mmax hA.1 hA.2.1 (ls_ml hA hl) hA.2.2.2.1 (hA.2.2.2.2.1 _ h1) (hA.2.2.2.2.1 _ h2) (hA.2.2.2.2.1 _ h3) (hA.2.2.2.2.1 _ h4) (Nat.le_of_ble_eq_true hf) (by rw [cat_sum]; exact Nat.le_of_ble_eq_true hw) (Nat.zero_le _) (Nat.zero_le _) d (k p e s m args below meth c A H locs ls hA hP hD hS hl)
theorem ev_mmin {idx : Nat} {x y : Int32} (d : decode M.2.1 pc = .ok (.invokestatic idx, 3)) (h1 : Cond.methodLink M.1.cls idx Lib.Math.min.name ∈ Ts) (h2 : Cond.static Lib.Math.min.name ∈ Ts) (h3 : Cond.initialized "java/lang/Math" ∈ Ts) (h4 : Cond.code Lib.Math.min.name Lib.Math.min.code 2 (some .int) ∈ Ts) (hf : Nat.ble 1 M.2.2.2.2.frames = true) (hw : Nat.ble ((st.map fun v => v.category).sum + 13) M.2.2.2.2.locals = true) (k : Ev g M (pc + 3) lv (.int (if y < x then y else x) :: st) hp Post) : Ev g M pc lv (.int y :: .int x :: st) hp Post := by
  intro p e s m args below meth c A H locs ls hA hP hD hS hl
  exact va_mmin hA.1 hA.2.1 (ls_ml hA hl) hA.2.2.2.1 (hA.2.2.2.2.1 _ h1) (hA.2.2.2.2.1 _ h2) (hA.2.2.2.2.1 _ h3) (hA.2.2.2.2.1 _ h4) (Nat.le_of_ble_eq_true hf) (by rw [cat_sum]; exact Nat.le_of_ble_eq_true hw) (Nat.zero_le _) (Nat.zero_le _) d (k p e s m args below meth c A H locs ls hA hP hD hS hl)
theorem ev_mmax_long {idx : Nat} {x y : Int64} (d : decode M.2.1 pc = .ok (.invokestatic idx, 3)) (h1 : Cond.methodLink M.1.cls idx Lib.MathLoose.max_long.x ∈ Ts) (h2 : Cond.static Lib.MathLoose.max_long.x ∈ Ts) (h3 : Cond.initialized "java/lang/Math" ∈ Ts) (h4 : Cond.code Lib.MathLoose.max_long.x Lib.MathLoose.max_long.code 4 (some .long) ∈ Ts) (hf : Nat.ble 1 M.2.2.2.2.frames = true) (hw : Nat.ble ((st.map fun v => v.category).sum + 15) M.2.2.2.2.locals = true) (k : Ev g M (pc + 3) lv (.long (if y < x then x else y) :: st) hp Post) : Ev g M pc lv (.long y :: .long x :: st) hp Post := by
  intro p e s m args below meth c A H locs ls hA hP hD hS hl
  exact va_mmax_long hA.1 hA.2.1 (ls_ml hA hl) hA.2.2.2.1 (hA.2.2.2.2.1 _ h1) (hA.2.2.2.2.1 _ h2) (hA.2.2.2.2.1 _ h3) (hA.2.2.2.2.1 _ h4) (Nat.le_of_ble_eq_true hf) (by rw [cat_sum]; exact Nat.le_of_ble_eq_true hw) (Nat.zero_le _) (Nat.zero_le _) d (k p e s m args below meth c A H locs ls hA hP hD hS hl)
theorem ev_mmin_long {idx : Nat} {x y : Int64} (d : decode M.2.1 pc = .ok (.invokestatic idx, 3)) (h1 : Cond.methodLink M.1.cls idx Lib.MathLoose.min_long.x ∈ Ts) (h2 : Cond.static Lib.MathLoose.min_long.x ∈ Ts) (h3 : Cond.initialized "java/lang/Math" ∈ Ts) (h4 : Cond.code Lib.MathLoose.min_long.x Lib.MathLoose.min_long.code 4 (some .long) ∈ Ts) (hf : Nat.ble 1 M.2.2.2.2.frames = true) (hw : Nat.ble ((st.map fun v => v.category).sum + 15) M.2.2.2.2.locals = true) (k : Ev g M (pc + 3) lv (.long (if y < x then y else x) :: st) hp Post) : Ev g M pc lv (.long y :: .long x :: st) hp Post := by
  intro p e s m args below meth c A H locs ls hA hP hD hS hl
  exact va_mmin_long hA.1 hA.2.1 (ls_ml hA hl) hA.2.2.2.1 (hA.2.2.2.2.1 _ h1) (hA.2.2.2.2.1 _ h2) (hA.2.2.2.2.1 _ h3) (hA.2.2.2.2.1 _ h4) (Nat.le_of_ble_eq_true hf) (by rw [cat_sum]; exact Nat.le_of_ble_eq_true hw) (Nat.zero_le _) (Nat.zero_le _) d (k p e s m args below meth c A H locs ls hA hP hD hS hl)
theorem ev_copyl {idx q0 q1 n0 n1 : Nat} {f f1 : Nat → Int64} {sp dp n : Int32} {hp' : List va_E} (d : decode M.2.1 pc = .ok (.invokestatic idx, 3)) (h1 : Cond.methodLink M.1.cls idx arraycopyName ∈ Ts) (h2 : Cond.native arraycopyName ∈ Ts) (h3 : Cond.static arraycopyName ∈ Ts) (h4 : Cond.initialized "java/lang/System" ∈ Ts)
    (he0 : hp[q0]? = some (.inl (1, n0, .inr (.inl f)))) (he1 : hp[q1]? = some (.inl (1, n1, .inr (.inl f1)))) (g1 : ¬ sp < 0) (g2 : ¬ dp < 0) (g3 : ¬ n < 0) (g4 : sp.toNatClampNeg + n.toNatClampNeg ≤ n0) (g5 : dp.toNatClampNeg + n.toNatClampNeg ≤ n1) (hf : Nat.ble 1 M.2.2.2.2.frames = true) (hw : Nat.ble ((st.map fun v => v.category).sum + (nativeFrameWords "java/lang/System" "arraycopy" 5 + 11)) M.2.2.2.2.locals = true)
    (hs : hp.set q1 (.inl (1, n1, .inr (.inl (va_cpy f f1 sp.toNatClampNeg dp.toNatClampNeg n.toNatClampNeg)))) = hp') (k : Ev g M (pc + 3) lv st hp' Post) : Ev g M pc lv (.int n :: .int dp :: .ref q1 :: .int sp :: .ref q0 :: st) hp Post := by
  intro p e s m args below meth c A H locs ls hA hP hD hS hl
  subst hs
  refine va_copyl hA.1 hA.2.1 (ls_ml hA hl) hA.2.2.2.1 (hA.2.2.2.2.1 _ h1) (hA.2.2.2.2.1 _ h2) (hA.2.2.2.2.1 _ h3) (hA.2.2.2.2.1 _ h4) hA.2.2.2.2.2.2.2.1 hP hD hS q0 q1 1 1 (wd_at (g := g) he0) (wd_at (g := g) he1) rfl rfl rfl g1 g2 g3 g4 g5 (fun _ _ => rfl) (Nat.le_of_ble_eq_true hf) (by rw [cat_sum]; exact Nat.le_of_ble_eq_true hw) d (fun H1 locs1 hP1 hD1 hS1 => ?_)
  have z : (wd g hp).set q1 (g.2.2.1 q1, .inl (g.2.2.2 1, n1, .inr (.inl (va_cpy f f1 sp.toNatClampNeg dp.toNatClampNeg n.toNatClampNeg)))) = wd g (hp.set q1 (.inl (1, n1, .inr (.inl (va_cpy f f1 sp.toNatClampNeg dp.toNatClampNeg n.toNatClampNeg))))) := wd_set (g := g) (e := .inl (1, n1, .inr (.inl (va_cpy f f1 sp.toNatClampNeg dp.toNatClampNeg n.toNatClampNeg))))
  rw [z] at hP1 hD1
  exact k p e s m args below meth c A H1 locs1 ls hA hP1 hD1 hS1 hl
theorem pl1 : plainName "java/lang/String" = true := by decide +kernel
theorem pl2 : plainName "java/lang/StringLatin1" = true := by decide +kernel
theorem pl4 : plainName "java/util/Arrays" = true := by decide +kernel
end EVS
