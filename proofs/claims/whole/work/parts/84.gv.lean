/-! the judgement with any end: for the law's own body, and for constructors -/
abbrev CX : Type := Program × Env × State × MethodId × Array Value × List Frame × Method × Code × (Nat → Prop) × (State → Prop)
def Gv (xq : CX) (g : GG) (M : MD) (kc nc : Nat) (pc : Nat) (lv : List (Nat × Value)) (st : List Value) (hp : List va_E) : Prop :=
  Act g M xq.2.2.2.2.2.2.2.2.1 xq.1 xq.2.2.1 xq.2.2.2.1 xq.2.2.2.2.1 xq.2.2.2.2.2.2.1 xq.2.2.2.2.2.2.2.1 → ∀ (H : Heap) (locs : List Loc) (ls : Array Slot), va_P g.2.1 vwCl (wd g hp) H → va_D xq.2.2.2.2.2.2.2.2.1 (wd g hp) → va_S xq.2.2.2.2.2.2.2.2.1 xq.2.2.1.heap H locs → lv_has ls M.2.2.1 (lvc g lv) → W xq.1 g.1 xq.2.1 M.2.2.2.2 xq.2.2.1 xq.2.2.2.1 xq.2.2.2.2.1 xq.2.2.2.2.2.1 xq.2.2.2.2.2.2.1 xq.2.2.2.2.2.2.2.1 H locs kc nc xq.2.2.2.2.2.2.2.2.2 (F0 xq.2.2.2.1 pc ls (st.map (cv g.2.2.1)))
section GVR
variable {xq : CX} {g : GG} {M : MD} {kc nc : Nat} {pc : Nat} {lv : List (Nat × Value)} {st : List Value} {hp : List va_E}
theorem gv_iadd {x y : Int32} (d : decode M.2.1 pc = .ok (.iadd, 1)) (k : Gv xq g M kc nc (pc + 1) lv (.int (x + y) :: st) hp) : Gv xq g M kc nc pc lv (.int y :: .int x :: st) hp := by
  obtain ⟨p, e, s, m, args, below, meth, c, A, Q⟩ := xq
  intro hA H locs ls hP hD hS hl
  exact lv_iadd hA.1 hA.2.1 d (k hA H locs ls hP hD hS hl)
theorem gv_isub {x y : Int32} (d : decode M.2.1 pc = .ok (.isub, 1)) (k : Gv xq g M kc nc (pc + 1) lv (.int (x - y) :: st) hp) : Gv xq g M kc nc pc lv (.int y :: .int x :: st) hp := by
  obtain ⟨p, e, s, m, args, below, meth, c, A, Q⟩ := xq
  intro hA H locs ls hP hD hS hl
  exact lv_isub hA.1 hA.2.1 d (k hA H locs ls hP hD hS hl)
theorem gv_iand {x y : Int32} (d : decode M.2.1 pc = .ok (.iand, 1)) (k : Gv xq g M kc nc (pc + 1) lv (.int (x &&& y) :: st) hp) : Gv xq g M kc nc pc lv (.int y :: .int x :: st) hp := by
  obtain ⟨p, e, s, m, args, below, meth, c, A, Q⟩ := xq
  intro hA H locs ls hP hD hS hl
  exact lv_iand hA.1 hA.2.1 d (k hA H locs ls hP hD hS hl)
theorem gv_iconst {n : Int} {v : Int32} (d : decode M.2.1 pc = .ok (.iconst n, 1)) (h : Int32.ofInt n = v) (k : Gv xq g M kc nc (pc + 1) lv (.int v :: st) hp) : Gv xq g M kc nc pc lv (st) hp := by
  obtain ⟨p, e, s, m, args, below, meth, c, A, Q⟩ := xq
  intro hA H locs ls hP hD hS hl
  exact lv_iconst hA.1 hA.2.1 d h (k hA H locs ls hP hD hS hl)
theorem gv_bipush {n : Int} {v : Int32} (d : decode M.2.1 pc = .ok (.bipush n, 2)) (h : (Int8.ofInt n).toInt32 = v) (k : Gv xq g M kc nc (pc + 2) lv (.int v :: st) hp) : Gv xq g M kc nc pc lv (st) hp := by
  obtain ⟨p, e, s, m, args, below, meth, c, A, Q⟩ := xq
  intro hA H locs ls hP hD hS hl
  exact lv_bipush hA.1 hA.2.1 d h (k hA H locs ls hP hD hS hl)
theorem gv_sipush {n : Int} {v : Int32} (d : decode M.2.1 pc = .ok (.sipush n, 3)) (h : (Int16.ofInt n).toInt32 = v) (k : Gv xq g M kc nc (pc + 3) lv (.int v :: st) hp) : Gv xq g M kc nc pc lv (st) hp := by
  obtain ⟨p, e, s, m, args, below, meth, c, A, Q⟩ := xq
  intro hA H locs ls hP hD hS hl
  exact lv_sipush hA.1 hA.2.1 d h (k hA H locs ls hP hD hS hl)
theorem gv_iload_n {k : _root_.Fin 4} {x : Int32} (d : decode M.2.1 pc = .ok (.iload_n k, 1)) (h : lvGet lv k.1 = some (.int x)) (kk : Gv xq g M kc nc (pc + 1) lv (.int x :: st) hp) : Gv xq g M kc nc pc lv st hp := by
  obtain ⟨p, e, s, m, args, below, meth, c, A, Q⟩ := xq
  intro hA H locs ls hP hD hS hl
  exact lv_iload_n hA.1 hA.2.1 d rfl (lvGet_has hl h) (kk hA H locs ls hP hD hS hl)
theorem gv_istore_n {k : _root_.Fin 4} {x : Int32} {lv' : List (Nat × Value)} (d : decode M.2.1 pc = .ok (.istore_n k, 1)) (hn : k.1 < M.2.2.1) (h : lvSt1 lv k.1 (.int x) = lv') (kk : Gv xq g M kc nc (pc + 1) lv' st hp) : Gv xq g M kc nc pc lv (.int x :: st) hp := by
  obtain ⟨p, e, s, m, args, below, meth, c, A, Q⟩ := xq
  intro hA H locs ls hP hD hS hl
  subst h
  exact lv_istore_n hA.1 hA.2.1 d rfl hl hn rfl (fun ls' hl' => kk hA H locs ls' hP hD hS (lv_memG hl' lvc_st1))
theorem gv_aload_n {k : _root_.Fin 4} {x : Nat} (d : decode M.2.1 pc = .ok (.aload_n k, 1)) (h : lvGet lv k.1 = some (.ref x)) (kk : Gv xq g M kc nc (pc + 1) lv (.ref x :: st) hp) : Gv xq g M kc nc pc lv st hp := by
  obtain ⟨p, e, s, m, args, below, meth, c, A, Q⟩ := xq
  intro hA H locs ls hP hD hS hl
  exact lv_aload_n hA.1 hA.2.1 d rfl (lvGet_has hl h) (kk hA H locs ls hP hD hS hl)
theorem gv_astore_n {k : _root_.Fin 4} {x : Nat} {lv' : List (Nat × Value)} (d : decode M.2.1 pc = .ok (.astore_n k, 1)) (hn : k.1 < M.2.2.1) (h : lvSt1 lv k.1 (.ref x) = lv') (kk : Gv xq g M kc nc (pc + 1) lv' st hp) : Gv xq g M kc nc pc lv (.ref x :: st) hp := by
  obtain ⟨p, e, s, m, args, below, meth, c, A, Q⟩ := xq
  intro hA H locs ls hP hD hS hl
  subst h
  exact lv_astore_n hA.1 hA.2.1 d rfl hl hn rfl (fun ls' hl' => kk hA H locs ls' hP hD hS (lv_memG hl' lvc_st1))
theorem gv_iinc {i : Nat} {n : Int} {x : Int32} {lv' : List (Nat × Value)} (d : decode M.2.1 pc = .ok (.iinc i n, 3)) (hx : lvGet lv i = some (.int x)) (hn : i < M.2.2.1) (h : lvSt1 lv i (.int (x + Int32.ofInt n)) = lv') (kk : Gv xq g M kc nc (pc + 3) lv' st hp) : Gv xq g M kc nc pc lv st hp := by
  obtain ⟨p, e, s, m, args, below, meth, c, A, Q⟩ := xq
  intro hA H locs ls hP hD hS hl
  subst h
  obtain ⟨k, hk⟩ := lvc_get (g := g) hx
  exact lv_iinc hA.1 hA.2.1 d hl hk rfl hn rfl (fun ls' hl' => kk hA H locs ls' hP hD hS (lv_memG hl' lvc_st1))
theorem gv_dup {v : Value} (d : decode M.2.1 pc = .ok (.dup, 1)) (h : v.category = 1) (k : Gv xq g M kc nc (pc + 1) lv (v :: v :: st) hp) : Gv xq g M kc nc pc lv (v :: st) hp := by
  obtain ⟨p, e, s, m, args, below, meth, c, A, Q⟩ := xq
  intro hA H locs ls hP hD hS hl
  exact lv_dup hA.1 hA.2.1 d ((cv_cat _ _).trans h) (k hA H locs ls hP hD hS hl)
theorem gv_if_eq {x : Int32} {off : Int} {tgt : Nat} (d : decode M.2.1 pc = .ok (.ifCond .eq off, 3)) (ht : (pc : Int) + off = (tgt : Int)) (kt : x = 0 → Gv xq g M kc nc tgt lv st hp) (kf : ¬ (x = 0) → Gv xq g M kc nc (pc + 3) lv st hp) : Gv xq g M kc nc pc lv (.int x :: st) hp := by
  obtain ⟨p, e, s, m, args, below, meth, c, A, Q⟩ := xq
  intro hA H locs ls hP hD hS hl
  exact lv_if_eq hA.1 hA.2.1 d ht (fun q => kt q hA H locs ls hP hD hS hl) (fun q => kf q hA H locs ls hP hD hS hl)
theorem gv_icmp_eq {x y : Int32} {off : Int} {tgt : Nat} (d : decode M.2.1 pc = .ok (.if_icmp .eq off, 3)) (ht : (pc : Int) + off = (tgt : Int)) (kt : x = y → Gv xq g M kc nc tgt lv st hp) (kf : ¬ (x = y) → Gv xq g M kc nc (pc + 3) lv st hp) : Gv xq g M kc nc pc lv (.int y :: .int x :: st) hp := by
  obtain ⟨p, e, s, m, args, below, meth, c, A, Q⟩ := xq
  intro hA H locs ls hP hD hS hl
  exact lv_icmp_eq hA.1 hA.2.1 d ht (fun q => kt q hA H locs ls hP hD hS hl) (fun q => kf q hA H locs ls hP hD hS hl)
theorem gv_icmp_gt {x y : Int32} {off : Int} {tgt : Nat} (d : decode M.2.1 pc = .ok (.if_icmp .gt off, 3)) (ht : (pc : Int) + off = (tgt : Int)) (kt : y < x → Gv xq g M kc nc tgt lv st hp) (kf : ¬ (y < x) → Gv xq g M kc nc (pc + 3) lv st hp) : Gv xq g M kc nc pc lv (.int y :: .int x :: st) hp := by
  obtain ⟨p, e, s, m, args, below, meth, c, A, Q⟩ := xq
  intro hA H locs ls hP hD hS hl
  exact lv_icmp_gt hA.1 hA.2.1 d ht (fun q => kt q hA H locs ls hP hD hS hl) (fun q => kf q hA H locs ls hP hD hS hl)
theorem gv_goto {off : Int} {tgt : Nat} (d : decode M.2.1 pc = .ok (.goto off, 3)) (ht : (pc : Int) + off = (tgt : Int)) (k : Gv xq g M kc nc tgt lv st hp) : Gv xq g M kc nc pc lv st hp := by
  obtain ⟨p, e, s, m, args, below, meth, c, A, Q⟩ := xq
  intro hA H locs ls hP hD hS hl
  exact lv_goto hA.1 hA.2.1 d ht (k hA H locs ls hP hD hS hl)
theorem gv_tabOut {x : Int32} {dflt lo hi : Int} {offs : Array Int} {len tgt : Nat} (d : decode M.2.1 pc = .ok (.tableswitch dflt lo hi offs, len)) (h : x.toInt < lo ∨ hi < x.toInt) (ht : (pc : Int) + dflt = (tgt : Int)) (k : Gv xq g M kc nc tgt lv st hp) : Gv xq g M kc nc pc lv (.int x :: st) hp := by
  obtain ⟨p, e, s, m, args, below, meth, c, A, Q⟩ := xq
  intro hA H locs ls hP hD hS hl
  exact lv_tableOut hA.1 hA.2.1 d h ht (k hA H locs ls hP hD hS hl)
theorem gv_tabIn {x : Int32} {dflt lo hi : Int} {offs : Array Int} {len tgt : Nat} {off : Int} (d : decode M.2.1 pc = .ok (.tableswitch dflt lo hi offs, len)) (h1 : ¬ x.toInt < lo) (h2 : ¬ hi < x.toInt) (ho : offs[(x.toInt - lo).toNat]? = some off) (ht : (pc : Int) + off = (tgt : Int)) (k : Gv xq g M kc nc tgt lv st hp) : Gv xq g M kc nc pc lv (.int x :: st) hp := by
  obtain ⟨p, e, s, m, args, below, meth, c, A, Q⟩ := xq
  intro hA H locs ls hP hD hS hl
  exact lv_tableIn hA.1 hA.2.1 d h1 h2 ho ht (k hA H locs ls hP hD hS hl)
theorem gv_lcmp {x y : Int64} (d : decode M.2.1 pc = .ok (.lcmp, 1)) (k : Gv xq g M kc nc (pc + 1) lv (.int (lg_cmp x y) :: st) hp) : Gv xq g M kc nc pc lv (.long y :: .long x :: st) hp := by
  obtain ⟨p, e, s, m, args, below, meth, c, A, Q⟩ := xq
  intro hA H locs ls hP hD hS hl
  exact W.lcmp hA.1 hA.2.1 d (k hA H locs ls hP hD hS hl)
theorem gv_lcmp_eq {x y : Int64} {off : Int} {tgt : Nat} (d0 : decode M.2.1 pc = .ok (.lcmp, 1)) (d : decode M.2.1 (pc + 1) = .ok (.ifCond .eq off, 3)) (ht : ((pc + 1 : Nat) : Int) + off = (tgt : Int)) (kt : x = y → Gv xq g M kc nc tgt lv st hp) (kf : ¬ (x = y) → Gv xq g M kc nc (pc + 1 + 3) lv st hp) : Gv xq g M kc nc pc lv (.long y :: .long x :: st) hp := gv_lcmp d0 (gv_if_eq d ht (fun q => kt ((lg_cmp_eq x y).mp q)) (fun q => kf (fun z => q ((lg_cmp_eq x y).mpr z))))
theorem gv_getf {idx ci k q : Nat} {fs : List Value} {v : Value} (d : decode M.2.1 pc = .ok (.getfield idx, 3)) (f : Fl M.1.cls idx ci k) (he : hp[q]? = some (.inr (ci, fs))) (hv : fs[k]? = some v) (kk : Gv xq g M kc nc (pc + 3) lv (v :: st) hp) : Gv xq g M kc nc pc lv (.ref q :: st) hp := by
  obtain ⟨p, e, s, m, args, below, meth, c, A, Q⟩ := xq
  intro hA H locs ls hP hD hS hl
  obtain ⟨C, T, N, ⟨hc, hin, -⟩, hk, h | ⟨host, h⟩⟩ := f
  · exact va_get hA.1 hA.2.1 hA.2.2.2.2.1 hin hA.2.2.2.1 hA.2.2.2.2.2.2.2.1 hP q (wd_at (g := g) he) hc k hk (hA.2.2.2.2.1 _ h) (fun _ z => z) (map_get? hv) d (kk hA H locs ls hP hD hS hl)
  · exact va_getN hA.1 hA.2.1 hA.2.2.2.2.1 hin hA.2.2.2.1 hA.2.2.2.2.2.2.2.1 hP q (wd_at (g := g) he) hc k hk (va_Nw.use rfl (hA.2.2.2.2.2.2.2.2.1 _ h)) (fun _ z => z) (map_get? hv) d (kk hA H locs ls hP hD hS hl)
theorem gv_putf {idx ci k q : Nat} {fs : List Value} {v : Value} {ty : FieldType} {hp' : List va_E} (d : decode M.2.1 pc = .ok (.putfield idx, 3)) (f : Fp M.1.cls idx ci k ty) (he : hp[q]? = some (.inr (ci, fs))) (hkl : Nat.blt k fs.length = true) (hn : ∀ ad : Nat → Nat, narrow ty (cv ad v) = cv ad v) (hf : ∀ ad : Nat → Nat, fits ty (cv ad v) = true) (hs : hp.set q (.inr (ci, fs.set k v)) = hp') (kk : Gv xq g M kc nc (pc + 3) lv st hp') : Gv xq g M kc nc pc lv (v :: .ref q :: st) hp := by
  obtain ⟨p, e, s, m, args, below, meth, c, A, Q⟩ := xq
  intro hA H locs ls hP hD hS hl
  subst hs
  obtain ⟨C, T, N, ⟨hc, hin, ty0, h1, h2⟩, hk, h, hfin, hd⟩ := f
  have hlen : k < (fs.map (cv g.2.2.1)).length := by rw [List.length_map]; simpa [Nat.blt_eq] using hkl
  have fin : ∀ (H1 : Heap) (locs1 : List Loc), va_P g.2.1 vwCl ((wd g hp).set q (g.2.2.1 q, .inr (ci, (fs.map (cv g.2.2.1)).set k (cv g.2.2.1 v)))) H1 → va_D A ((wd g hp).set q (g.2.2.1 q, .inr (ci, (fs.map (cv g.2.2.1)).set k (cv g.2.2.1 v)))) → va_S A s.heap H1 locs1 → W p g.1 e M.2.2.2.2 s m args below meth c H1 locs1 kc nc Q (F0 m (pc + 3) ls (st.map (cv g.2.2.1))) := by
    intro H1 locs1 hP1 hD1 hS1
    rw [← cz_set, wd_set] at hP1 hD1
    exact kk hA H1 locs1 ls hP1 hD1 hS1 hl
  rcases h with h | ⟨host, h⟩
  · exact va_put hA.1 hA.2.1 hA.2.2.2.2.1 hin ty0 h1 h2 hA.2.2.2.1 hA.2.2.2.2.2.2.2.1 hP hD hS q (wd_at (g := g) he) hc k hk (hA.2.2.2.2.1 _ h) (fun _ z => z) hfin hd (hn _) (hf _) hlen d fin
  · exact va_putN hA.1 hA.2.1 hA.2.2.2.2.1 hin ty0 h1 h2 hA.2.2.2.1 hA.2.2.2.2.2.2.2.1 hP hD hS q (wd_at (g := g) he) hc k hk (va_Nw.use rfl (hA.2.2.2.2.2.2.2.2.1 _ h)) (fun _ z => z) hfin hd (hn _) (hf _) hlen d fin
theorem gv_iast {q n : Nat} {f : Nat → Int32} {i x : Int32} {hp' : List va_E} (d : decode M.2.1 pc = .ok (.iastore, 1)) (he : hp[q]? = some (.inl (0, n, .inl f))) (hin : vp_in i n) (hs : hp.set q (.inl (0, n, .inl (upd f i.toNatClampNeg x))) = hp') (kk : Gv xq g M kc nc (pc + 1) lv st hp') : Gv xq g M kc nc pc lv (.int x :: .int i :: .ref q :: st) hp := by
  obtain ⟨p, e, s, m, args, below, meth, c, A, Q⟩ := xq
  intro hA H locs ls hP hD hS hl
  subst hs
  refine va_iast hA.1 hA.2.1 hA.2.2.2.2.2.2.2.1 hP hD hS q 0 (wd_at (g := g) he) rfl hin d (fun H1 locs1 hP1 hD1 hS1 => ?_)
  have z : (wd g hp).set q (g.2.2.1 q, .inl (g.2.2.2 0, n, .inl (upd f i.toNatClampNeg x))) = wd g (hp.set q (.inl (0, n, .inl (upd f i.toNatClampNeg x)))) := wd_set (g := g) (e := .inl (0, n, .inl (upd f i.toNatClampNeg x)))
  rw [z] at hP1 hD1
  exact kk hA H1 locs1 ls hP1 hD1 hS1 hl
theorem gv_keep (ks : List Nat) (k : Gv xq g M kc nc pc (lv.filter (fun q => ks.contains q.1)) st hp) : Gv xq g M kc nc pc lv st hp := by
  obtain ⟨p, e, s, m, args, below, meth, c, A, Q⟩ := xq
  intro hA H locs ls hP hD hS hl
  exact k hA H locs ls hP hD hS (lv_memG hl (fun q hq => by obtain ⟨r, hr, rfl⟩ := List.mem_map.mp hq; exact List.mem_map.mpr ⟨r, (List.mem_filter.mp hr).1, rfl⟩))
/-- the script -/
def Scr (xq : CX) (b L : Nat) (xs : Nat → Int32) : Prop := va_X b L xs xq.2.2.1 xq.2.2.1.heap ∧ b < xq.2.2.1.heap.size ∧ ¬ xq.2.2.2.2.2.2.2.2.1 b
theorem gv_slen {L : Nat} {xs : Nat → Int32} (hX : Scr xq (g.2.2.1 400) L xs) (d : decode M.2.1 pc = .ok (.arraylength, 1)) (kk : Gv xq g M kc nc (pc + 1) lv (.int (Int32.ofNat L) :: st) hp) : Gv xq g M kc nc pc lv (.ref 400 :: st) hp := by
  obtain ⟨p, e, s, m, args, below, meth, c, A, Q⟩ := xq
  intro hA H locs ls hP hD hS hl
  exact va_slen hA.1 hA.2.1 hX.1 hX.2.1 hX.2.2 hS d (kk hA H locs ls hP hD hS hl)
theorem gv_sld {L : Nat} {xs : Nat → Int32} {i : Int32} (hX : Scr xq (g.2.2.1 400) L xs) (hin : vp_in i L) (d : decode M.2.1 pc = .ok (.iaload, 1)) (kk : Gv xq g M kc nc (pc + 1) lv (.int (xs i.toNatClampNeg) :: st) hp) : Gv xq g M kc nc pc lv (.int i :: .ref 400 :: st) hp := by
  obtain ⟨p, e, s, m, args, below, meth, c, A, Q⟩ := xq
  intro hA H locs ls hP hD hS hl
  exact va_sld hA.1 hA.2.1 hX.1 hX.2.1 hX.2.2 hS hin d (kk hA H locs ls hP hD hS hl)
theorem callH {p : Program} {l : Launch} {e : Env} {R : Room} {s : State} {m : MethodId} {args : Array Value} {below : List Frame} {meth : Method} {c : Code} {H H0 : Heap} {locs : List Loc} {Q : State → Prop} {ls : Array Slot} {rest st0 : List Value} {a : Array Value} {A A1 : Nat → Prop} {Post' : Option Value → List va_E → Prop} {k n : Nat}
    (hr : va_Run p l e R s m args below meth c H locs k n 0 0 (F0 m pc ls st0) rest (Qg g A1 Post' a) A1) (hS : va_S A H0 H locs) (hF : ∀ q, A1 q → A q)
    (kk : ∀ (v : Option Value) (hp' : List va_E) (t : State) (H1 : Heap) (locs1 : List Loc), t.heap = H1 → Post' v hp' → va_P g.2.1 vwCl (wd g hp') H1 → va_D A1 (wd g hp') → va_S A H0 H1 locs1 → W p l e R s m args below meth c H1 locs1 k n Q (F0 m (pc + 3) ls ((v.map (cv g.2.2.1)).toList ++ rest))) : W p l e R s m args below meth c H locs k n Q (F0 m pc ls st0) := by
  intro T hT X
  obtain ⟨v, st₀, t, T', L, h0, X', hL, e1, e2, ⟨⟨v', hp', hv, hp, hP, hK, hD⟩, hz, hk⟩, st⟩ := hr T hT X
  cases hv
  rw [h0] at hz hk
  obtain ⟨t2, a1, b1⟩ := kk v' hp' t T'.heap (locs ++ L) e1.symm hp (by rw [e1]; exact hP) hD
    ⟨Nat.le_trans hS.1 (by rw [e1]; exact hz), fun q h1 h2 => by rw [e1, hk q (Nat.lt_of_lt_of_le h1 hS.1) (fun z => h2 (hF q z))]; exact hS.2.1 q h1 h2, fun q hq => by
      rcases List.mem_append.mp hq with h | h
      · exact hS.2.2 q h
      · exact hF _ (hL q h)⟩ T' rfl X'
  exact ⟨t2, st t2 a1, b1⟩
theorem gv_callV {idx n q : Nat} {M' : MD} {as rest : List Value} {Post' : Option Value → List va_E → Prop} (d : decode M.2.1 pc = .ok (.invokevirtual idx, 3)) (ml : Ml M.1.cls idx M') (mv : Mv M' n) (hr : (Nat.ble (M'.2.2.2.2.frames + 1) M.2.2.2.2.frames && Nat.ble (8 + (M'.2.2.1 + 11) + M'.2.2.2.2.locals) M.2.2.2.2.locals) = true) (hn : as.length = n) (hw : Nat.ble (rest.map fun v => v.category).sum 8 = true) (hkn : kc + 0 ≤ M.2.2.2.2.cells ∧ nc + 0 ≤ M.2.2.2.2.slots)
    {ci : Nat} {fs : List Value} (hq : hp[q]? = some (.inr (ci, fs))) (hci : (vwCl[ci]?).map (fun z => z.1) = some M'.1.cls) (ct : Ct g M' (.ref q :: as) hp Post') (kk : ∀ v hp', Post' v hp' → Gv xq g M kc nc (pc + 3) lv (v.toList ++ rest) hp') : Gv xq g M kc nc pc lv (as.reverse ++ .ref q :: rest) hp := by
  obtain ⟨p, e, s, m, args, below, meth, c, A, Q⟩ := xq
  intro hA H locs ls hP hD hS hl
  obtain ⟨hF, hU⟩ := call_pre hA hP hD hS
  have hR := room_of hr
  have hcl : ∃ z, vwCl[ci]? = some z ∧ z.1 = M'.1.cls := by
    cases hz : vwCl[ci]? with
    | none => rw [hz] at hci; cases hci
    | some z => rw [hz] at hci; exact ⟨z, rfl, Option.some.inj hci⟩
  obtain ⟨z, hz, hz1⟩ := hcl
  have hrecv := va_recv hA.2.2.2.2.2.2.2.1 hP hz (wd_at (g := g) hq)
  rw [hz1] at hrecv
  have hst : ((as.reverse ++ Value.ref q :: rest).map (cv g.2.2.1)) = (as.map (cv g.2.2.1)).reverse ++ .ref (g.2.2.1 q) :: rest.map (cv g.2.2.1) := by
    rw [List.map_append, List.map_reverse, List.map_cons]; rfl
  have hsum : (((rest.map (cv g.2.2.1)).map fun v => v.category)).sum ≤ 8 := by rw [cat_sum]; exact Nat.le_of_ble_eq_true hw
  have fin : ∀ (v : Option Value) (hp' : List va_E) (t : State) (H1 : Heap) (locs1 : List Loc), t.heap = H1 → Post' v hp' → va_P g.2.1 vwCl (wd g hp') H1 → va_D (va_A (wd g hp) H.size) (wd g hp') → va_S A s.heap H1 locs1 → W p g.1 e M.2.2.2.2 s m args below meth c H1 locs1 kc nc Q (F0 m (pc + 3) ls ((v.map (cv g.2.2.1)).toList ++ rest.map (cv g.2.2.1))) := by
    intro v hp' t H1 locs1 ht hp1 hP1 hD1 hS1
    have := kk v hp' hp1 hA H1 locs1 ls hP1 (hD1.weaken (fun _ _ _ h => hF _ h)) hS1 hl
    rw [List.map_append] at this
    cases v <;> exact this
  have hpre : PreV s H M'.1.cls (g.2.2.1 q) (va_Pc ((Value.ref q :: as).map (cv g.2.2.1)) (fun U => U.heap.size = H.size ∧ va_P g.2.1 vwCl (wd g hp) U.heap ∧ va_K g.2.1 vwCl (tysG g) U ∧ va_D (fun _ => True) (wd g hp) ∧ Nst U ∧ Sx g (va_A (wd g hp) H.size) U U.heap)) (as.map (cv g.2.2.1)) := ⟨call_blind, hrecv, fun U h1 h2 => ⟨rfl, hU U h1 h2⟩⟩
  show W p g.1 e M.2.2.2.2 s m args below meth c H locs kc nc Q (F0 m pc ls ((as.reverse ++ Value.ref q :: rest).map (cv g.2.2.1)))
  rw [hst]
  rcases ml with hml | ⟨host, hml⟩
  · exact callH (va_runV (As := as.map (cv g.2.2.1)) ⟨hA.1, hA.2.1, hA.2.2.1, hA.2.2.2.1, hA.2.2.2.2.1⟩ (ct H.size) ⟨call_B mv.1 hA.2.2.2.2.1 hR hml, hA.2.2.2.2.1 _ mv.2.1, hA.2.2.2.2.1 _ mv.2.2⟩ hpre rfl (by rw [List.length_map]; exact hn) hl.1 rfl (lv_room hsum) d hkn) hS hF fin
  · exact callH (va_runVN (As := as.map (cv g.2.2.1)) ⟨hA.1, hA.2.1, hA.2.2.1, hA.2.2.2.1, hA.2.2.2.2.1⟩ (ct H.size) ⟨call_N mv.1 hA.2.2.2.2.1 hR (hA.2.2.2.2.2.2.2.2.1 _ hml), hA.2.2.2.2.1 _ mv.2.1, hA.2.2.2.2.1 _ mv.2.2⟩ hpre rfl (by rw [List.length_map]; exact hn) hl.1 rfl (lv_room hsum) d hkn) hS hF fin
end GVR
