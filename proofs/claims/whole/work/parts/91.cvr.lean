section CVR
variable {g : GG} {n0 mc ms : Nat} {hpf : List va_E} {M M' : MD} {kc nc : Nat} {pc : Nat} {lv : List (Nat × Value)} {st : List Value} {hp hp' : List va_E}
theorem cv_aload {k : _root_.Fin 4} {x : Nat} (d : decode M.2.1 pc = .ok (.aload_n k, 1)) (h : lvGet lv k.1 = some (.ref x)) (kk : Cv g n0 hpf mc ms M kc nc (pc + 1) lv (.ref x :: st) hp) : Cv g n0 hpf mc ms M kc nc pc lv st hp := fun p e s m args below meth c A ad hi ha => gv_aload_n d h (kk p e s m args below meth c A ad hi ha)
theorem cv_iconst {n : Int} {v : Int32} (d : decode M.2.1 pc = .ok (.iconst n, 1)) (h : Int32.ofInt n = v) (kk : Cv g n0 hpf mc ms M kc nc (pc + 1) lv (.int v :: st) hp) : Cv g n0 hpf mc ms M kc nc pc lv st hp := fun p e s m args below meth c A ad hi ha => gv_iconst d h (kk p e s m args below meth c A ad hi ha)
theorem cv_bipush {n : Int} {v : Int32} (d : decode M.2.1 pc = .ok (.bipush n, 2)) (h : (Int8.ofInt n).toInt32 = v) (kk : Cv g n0 hpf mc ms M kc nc (pc + 2) lv (.int v :: st) hp) : Cv g n0 hpf mc ms M kc nc pc lv st hp := fun p e s m args below meth c A ad hi ha => gv_bipush d h (kk p e s m args below meth c A ad hi ha)
theorem cv_sipush {n : Int} {v : Int32} (d : decode M.2.1 pc = .ok (.sipush n, 3)) (h : (Int16.ofInt n).toInt32 = v) (kk : Cv g n0 hpf mc ms M kc nc (pc + 3) lv (.int v :: st) hp) : Cv g n0 hpf mc ms M kc nc pc lv st hp := fun p e s m args below meth c A ad hi ha => gv_sipush d h (kk p e s m args below meth c A ad hi ha)
theorem cv_dup {v : Value} (d : decode M.2.1 pc = .ok (.dup, 1)) (h : v.category = 1) (kk : Cv g n0 hpf mc ms M kc nc (pc + 1) lv (v :: v :: st) hp) : Cv g n0 hpf mc ms M kc nc pc lv (v :: st) hp := fun p e s m args below meth c A ad hi ha => gv_dup d h (kk p e s m args below meth c A ad hi ha)
theorem cv_getf {idx ci k q : Nat} {fs : List Value} {v : Value} (d : decode M.2.1 pc = .ok (.getfield idx, 3)) (f : Fl M.1.cls idx ci k) (he : hp[q]? = some (.inr (ci, fs))) (hv : fs[k]? = some v) (kk : Cv g n0 hpf mc ms M kc nc (pc + 3) lv (v :: st) hp) : Cv g n0 hpf mc ms M kc nc pc lv (.ref q :: st) hp := fun p e s m args below meth c A ad hi ha => gv_getf d f he hv (kk p e s m args below meth c A ad hi ha)
theorem cv_putf {idx ci k q : Nat} {fs : List Value} {v : Value} {ty : FieldType} (d : decode M.2.1 pc = .ok (.putfield idx, 3)) (f : Fp M.1.cls idx ci k ty) (he : hp[q]? = some (.inr (ci, fs))) (hkl : Nat.blt k fs.length = true) (hn : ∀ ad : Nat → Nat, narrow ty (cv ad v) = cv ad v) (hf : ∀ ad : Nat → Nat, fits ty (cv ad v) = true) (hs : hp.set q (.inr (ci, fs.set k v)) = hp') (kk : Cv g n0 hpf mc ms M kc nc (pc + 3) lv st hp') : Cv g n0 hpf mc ms M kc nc pc lv (v :: .ref q :: st) hp := fun p e s m args below meth c A ad hi ha => gv_putf d f he hkl hn hf hs (kk p e s m args below meth c A ad hi ha)
theorem cv_putF {idx ci k q : Nat} {fs : List Value} {v : Value} {ty : FieldType} (d : decode M.2.1 pc = .ok (.putfield idx, 3)) (f : Ff M.1.cls idx ci k ty) (he : hp[q]? = some (.inr (ci, fs))) (hkl : Nat.blt k fs.length = true) (hn : ∀ ad : Nat → Nat, narrow ty (cv ad v) = cv ad v) (hf : ∀ ad : Nat → Nat, fits ty (cv ad v) = true) (hs : hp.set q (.inr (ci, fs.set k v)) = hp') (kk : Cv g n0 hpf mc ms M kc nc (pc + 3) lv st hp') : Cv g n0 hpf mc ms M kc nc pc lv (v :: .ref q :: st) hp := fun p e s m args below meth c A ad hi ha => gv_putF hi d f he hkl hn hf hs (kk p e s m args below meth c A ad hi ha)
theorem cv_iast {q n i : Nat} {f : Nat → Int32} {x : Int32} (d : decode M.2.1 pc = .ok (.iastore, 1)) (he : hp[q]? = some (.inl (0, n, .inl f))) (hi : i < n) (hn : n < 100000) (hs : hp.set q (.inl (0, n, .inl (upd f i x))) = hp') (kk : Cv g n0 hpf mc ms M kc nc (pc + 1) lv st hp') : Cv g n0 hpf mc ms M kc nc pc lv (.int x :: .int (nI i) :: .ref q :: st) hp := fun p e s m args below meth c A ad hi' ha => gv_iast d he (vp_in_nI hi (by omega)) (by rw [nI_clamp (by omega)]; exact hs) (kk p e s m args below meth c A ad hi' ha)
theorem cv_obj {idx q : Nat} (d : decode M.2.1 pc = .ok (.invokespecial idx, 3)) (h : Cond.methodLink M.1.cls idx objectInit ∈ Ts) (hf : 1 ≤ M.2.2.2.2.frames) (hl2 : 12 ≤ M.2.2.2.2.locals) (kk : Cv g n0 hpf mc ms M kc nc (pc + 3) lv [] hp) : Cv g n0 hpf mc ms M kc nc pc lv [.ref q] hp := fun p e s m args below meth c A ad hi ha => gv_obj d h hf hl2 (kk p e s m args below meth c A ad hi ha)
theorem cv_newI {v : Int32} {N k : Nat} (d : decode M.2.1 pc = .ok (.newarray .int, 2)) (hlen : hp.length = k) (h0 : n0 ≤ k) (hN : v = nI N) (hn : N < 100000) (ok1 : hp.all (okE k) = true) (ok2 : lv.all (fun q => okV k q.2) = true) (ok3 : st.all (okV k) = true) (h77 : k < 77) (hc : kc + 1 ≤ M.2.2.2.2.cells) (hs : nc + N ≤ M.2.2.2.2.slots) (kk : Cv g n0 hpf mc ms M (kc + 1) (nc + N) (pc + 2) lv (.ref k :: st) (hp ++ [.inl (0, N, .inl (fun _ => 0))])) : Cv g n0 hpf mc ms M kc nc pc lv (.int v :: st) hp := fun p e s m args below meth c A ad hi ha => gv_newI d hlen hN hn ok1 ok2 ok3 h77 hc hs (fun q => kk p e s m args below meth c A (va_up ad k q) hi ((Ag.up h0 h77).tr ha))
theorem cv_newL {v : Int32} {N k : Nat} (d : decode M.2.1 pc = .ok (.newarray .long, 2)) (hlen : hp.length = k) (h0 : n0 ≤ k) (hN : v = nI N) (hn : N < 100000) (ok1 : hp.all (okE k) = true) (ok2 : lv.all (fun q => okV k q.2) = true) (ok3 : st.all (okV k) = true) (h77 : k < 77) (hc : kc + 1 ≤ M.2.2.2.2.cells) (hs : nc + N ≤ M.2.2.2.2.slots) (kk : Cv g n0 hpf mc ms M (kc + 1) (nc + N) (pc + 2) lv (.ref k :: st) (hp ++ [.inl (1, N, .inr (.inl (fun _ => 0)))])) : Cv g n0 hpf mc ms M kc nc pc lv (.int v :: st) hp := fun p e s m args below meth c A ad hi ha => gv_newL d hlen hN hn ok1 ok2 ok3 h77 hc hs (fun q => kk p e s m args below meth c A (va_up ad k q) hi ((Ag.up h0 h77).tr ha))
theorem cv_new {idx ci N k : Nat} {fs : List Value} (d : decode M.2.1 pc = .ok (.new idx, 3)) (hw : Nw M.1.cls idx ci N fs) (hlen : hp.length = k) (h0 : n0 ≤ k) (okf : fs.all okN = true) (ok1 : hp.all (okE k) = true) (ok2 : lv.all (fun q => okV k q.2) = true) (ok3 : st.all (okV k) = true) (h77 : k < 77) (hc : kc + 1 ≤ M.2.2.2.2.cells) (hs : nc + N ≤ M.2.2.2.2.slots) (kk : Cv g n0 hpf mc ms M (kc + 1) (nc + N) (pc + 3) lv (.ref k :: st) (hp ++ [.inr (ci, fs)])) : Cv g n0 hpf mc ms M kc nc pc lv st hp := fun p e s m args below meth c A ad hi ha => gv_new d hw hlen okf ok1 ok2 ok3 h77 hc hs (fun q => kk p e s m args below meth c A (va_up ad k q) hi ((Ag.up h0 h77).tr ha))
theorem cv_callI {idx n i mc' ms' : Nat} (rho : List Nat) {as rest stk : List Value} {hp1 hpc : List va_E} {e0 : va_E} (d : decode M.2.1 pc = .ok (.invokespecial idx, 3)) (ml : Ml M.1.cls idx M') (mi : Mi M' n mc' ms') (hr : (Nat.ble (M'.2.2.2.2.frames + 1) M.2.2.2.2.frames && Nat.ble (8 + (M'.2.2.1 + 11) + M'.2.2.2.2.locals) M.2.2.2.2.locals) = true) (hn : as.length = n) (hw : Nat.ble (rest.map fun v => v.category).sum 8 = true) (hkn : kc + mc' ≤ M.2.2.2.2.cells ∧ nc + ms' ≤ M.2.2.2.2.slots)
    (hlen : hp1.length = i) (h0n : n0 ≤ i + 1) (h77 : i + hpc.length ≤ 77) (hrl : rho.length ≤ 77) (h0 : 0 < rho.length) (hr0 : rho.getD 0 0 = i) (hhp : hp = hp1 ++ [e0]) (ok0 : okE 0 e0 = true) (ok1 : hp1.all (okE i) = true) (ok2 : hpc.all (okRE hpc.length i rho) = true) (ok3 : lv.all (fun q => okV (i + 1) q.2) = true) (ok4 : rest.all (okV (i + 1)) = true) (hst : stk = (as.map (renV (fun j => rho.getD j j))).reverse ++ .ref i :: rest) (hh : hp1 ++ hpc.map (renE (ren2 hpc.length i rho)) = hp')
    (ct : ∀ g' : GG, Ci g' M' (.ref 0 :: as) [e0] hpc rho.length mc' ms')
    (kk : Cv g n0 hpf mc ms M (kc + mc') (nc + ms') (pc + 3) lv rest hp') : Cv g n0 hpf mc ms M kc nc pc lv stk hp := fun p e s m args below meth c A ad hi ha => gv_callI rho d ml mi hr hn hw hkn hlen h77 hrl h0 hr0 hhp ok0 ok1 ok2 ok3 ok4 hst hh ct (fun ad2 h2 => kk p e s m args below meth c A ad2 hi ((h2.le h0n).tr ha))
theorem cv_callV {idx n q : Nat} {as rest : List Value} (d : decode M.2.1 pc = .ok (.invokevirtual idx, 3)) (ml : Ml M.1.cls idx M') (mv : Mv M' n) (hr : (Nat.ble (M'.2.2.2.2.frames + 1) M.2.2.2.2.frames && Nat.ble (8 + (M'.2.2.1 + 11) + M'.2.2.2.2.locals) M.2.2.2.2.locals) = true) (hn : as.length = n) (hw : Nat.ble (rest.map fun v => v.category).sum 8 = true) (hkn : kc + 0 ≤ M.2.2.2.2.cells ∧ nc + 0 ≤ M.2.2.2.2.slots) {ci : Nat} {fs : List Value} (hq : hp[q]? = some (.inr (ci, fs))) (hci : (vwCl[ci]?).map (fun z => z.1) = some M'.1.cls) (ct : ∀ g' : GG, Ct g' M' (.ref q :: as) hp (fun v h => v = none ∧ h = hp')) (kk : Cv g n0 hpf mc ms M kc nc (pc + 3) lv rest hp') : Cv g n0 hpf mc ms M kc nc pc lv (as.reverse ++ .ref q :: rest) hp := fun p e s m args below meth c A ad hi ha => gv_callV d ml mv hr hn hw hkn hq hci (ct _) (fun v h z => by obtain ⟨rfl, rfl⟩ := z; exact kk p e s m args below meth c A ad hi ha)
end CVR
section TM4
variable {g : GG} {pr up lo : Nat → Int32} {q n : Int32}
def tm4 (pr up lo : Nat → Int32) (q n : Int32) : List va_E := [.inr (8, [.ref 1, .ref 2, .ref 3, .int q, .int n]), .inl (0, 5, .inl pr), .inl (0, 4, .inl up), .inl (0, 4, .inl lo)]
theorem c_share4 {k : Nat} {x y : Int32} (hk : k < 4) : Ct g mX8_setShare [.ref 0, .int (nI k), .int x, .int y] (tm4 pr up lo q n) (fun v h => v = none ∧ h = tm4 pr (upd up k x) (upd lo k y) q n) := by
  refine ct_of rfl rfl ?_
  refine ev_iload_n (pc := 0) dX8_setShare_0 rfl ?_
  refine ev_if_lt (pc := 1) (tgt := 9) dX8_setShare_1 (by decide) (fun z => absurd z (nI_pos (by omega))) (fun _ => ?_)
  refine ev_iload_n (pc := 4) dX8_setShare_4 rfl ?_
  refine ev_iconst (pc := 5) (v := nI 4) dX8_setShare_5 (by decide) ?_
  refine ev_icmp_lt (pc := 6) (tgt := 10) dX8_setShare_6 (by decide) (fun _ => ?_) (fun z => absurd (by rw [Int32.lt_iff_toInt_lt, nI_toInt (by omega), nI_toInt (by omega)]; omega) z)
  refine ev_aload_n (pc := 10) dX8_setShare_10 rfl ?_
  refine ev_getf (pc := 11) dX8_setShare_11 Fl_X8_15 rfl rfl ?_
  refine ev_iload_n (pc := 14) dX8_setShare_14 rfl ?_
  refine ev_iload_n (pc := 15) dX8_setShare_15 rfl ?_
  refine ev_iast (pc := 16) (hp' := tm4 pr (upd up k x) lo q n) dX8_setShare_16 rfl (vp_in_nI hk (by decide)) (by rw [nI_clamp (by omega)]; rfl) ?_
  refine ev_aload_n (pc := 17) dX8_setShare_17 rfl ?_
  refine ev_getf (pc := 18) dX8_setShare_18 Fl_X8_18 rfl rfl ?_
  refine ev_iload_n (pc := 21) dX8_setShare_21 rfl ?_
  refine ev_iload_n (pc := 22) dX8_setShare_22 rfl ?_
  refine ev_iast (pc := 23) (hp' := tm4 pr (upd up k x) (upd lo k y) q n) dX8_setShare_23 rfl (vp_in_nI hk (by decide)) (by rw [nI_clamp (by omega)]; rfl) ?_
  exact ev_ret (pc := 24) dX8_setShare_24 rfl ⟨rfl, rfl⟩
def up4T (f : Nat → Int32) : Nat → Int32 := upd (upd (upd (upd f 0 1) 1 1) 2 0) 3 0
def lo4T (f : Nat → Int32) : Nat → Int32 := upd (upd (upd (upd f 0 1) 1 1) 2 1) 3 1
theorem c_reset4 : Ct g mX8_reset [.ref 0] (tm4 pr up lo q n) (fun v h => v = none ∧ h = tm4 (fillF 5 0 pr) (up4T up) (lo4T lo) (-1) 0) := by
  refine ct_of rfl rfl ?_
  refine ev_aload_n (pc := 0) dX8_reset_0 rfl ?_
  refine ev_getf (pc := 1) dX8_reset_1 Fl_X8_9 rfl rfl ?_
  refine ev_iconst (pc := 4) (v := 0) dX8_reset_4 (by decide) ?_
  refine ev_callS (pc := 5) (as := [.ref 1, .int 0]) (rest := []) dX8_reset_5 Ml_X8_24 M_J7_fill_53178 rfl rfl rfl (c_fillI (q := 1) (n := 5) (f := pr) rfl (by decide)) ?_
  rintro v h ⟨rfl, rfl⟩
  show Ev g mX8_reset 8 [(0, .ref 0)] [] (tm4 (fillF 5 0 pr) up lo q n) _
  refine ev_aload_n (pc := 8) dX8_reset_8 rfl ?_
  refine ev_iconst (pc := 9) (v := nI 0) dX8_reset_9 (by decide) ?_
  refine ev_iconst (pc := 10) (v := 1) dX8_reset_10 (by decide) ?_
  refine ev_iconst (pc := 11) (v := 1) dX8_reset_11 (by decide) ?_
  refine ev_callV (pc := 12) (as := [.int (nI 0), .int 1, .int 1]) (rest := []) (q := 0) dX8_reset_12 Ml_X8_30 M_X8_setShare rfl rfl rfl rfl rfl (c_share4 (by omega)) ?_
  rintro v h ⟨rfl, rfl⟩
  show Ev g mX8_reset 15 [(0, .ref 0)] [] (tm4 (fillF 5 0 pr) (upd up 0 1) (upd lo 0 1) q n) _
  refine ev_aload_n (pc := 15) dX8_reset_15 rfl ?_
  refine ev_iconst (pc := 16) (v := nI 1) dX8_reset_16 (by decide) ?_
  refine ev_iconst (pc := 17) (v := 1) dX8_reset_17 (by decide) ?_
  refine ev_iconst (pc := 18) (v := 1) dX8_reset_18 (by decide) ?_
  refine ev_callV (pc := 19) (as := [.int (nI 1), .int 1, .int 1]) (rest := []) (q := 0) dX8_reset_19 Ml_X8_30 M_X8_setShare rfl rfl rfl rfl rfl (c_share4 (by omega)) ?_
  rintro v h ⟨rfl, rfl⟩
  show Ev g mX8_reset 22 [(0, .ref 0)] [] (tm4 (fillF 5 0 pr) (upd (upd up 0 1) 1 1) (upd (upd lo 0 1) 1 1) q n) _
  refine ev_aload_n (pc := 22) dX8_reset_22 rfl ?_
  refine ev_iconst (pc := 23) (v := nI 2) dX8_reset_23 (by decide) ?_
  refine ev_iconst (pc := 24) (v := 0) dX8_reset_24 (by decide) ?_
  refine ev_iconst (pc := 25) (v := 1) dX8_reset_25 (by decide) ?_
  refine ev_callV (pc := 26) (as := [.int (nI 2), .int 0, .int 1]) (rest := []) (q := 0) dX8_reset_26 Ml_X8_30 M_X8_setShare rfl rfl rfl rfl rfl (c_share4 (by omega)) ?_
  rintro v h ⟨rfl, rfl⟩
  show Ev g mX8_reset 29 [(0, .ref 0)] [] (tm4 (fillF 5 0 pr) (upd (upd (upd up 0 1) 1 1) 2 0) (upd (upd (upd lo 0 1) 1 1) 2 1) q n) _
  refine ev_aload_n (pc := 29) dX8_reset_29 rfl ?_
  refine ev_iconst (pc := 30) (v := nI 3) dX8_reset_30 (by decide) ?_
  refine ev_iconst (pc := 31) (v := 0) dX8_reset_31 (by decide) ?_
  refine ev_iconst (pc := 32) (v := 1) dX8_reset_32 (by decide) ?_
  refine ev_callV (pc := 33) (as := [.int (nI 3), .int 0, .int 1]) (rest := []) (q := 0) dX8_reset_33 Ml_X8_30 M_X8_setShare rfl rfl rfl rfl rfl (c_share4 (by omega)) ?_
  rintro v h ⟨rfl, rfl⟩
  show Ev g mX8_reset 36 [(0, .ref 0)] [] (tm4 (fillF 5 0 pr) (upd (upd (upd (upd up 0 1) 1 1) 2 0) 3 0) (upd (upd (upd (upd lo 0 1) 1 1) 2 1) 3 1) q n) _
  refine ev_aload_n (pc := 36) dX8_reset_36 rfl ?_
  refine ev_iconst (pc := 37) (v := -1) dX8_reset_37 (by decide) ?_
  refine ev_putf (pc := 38) (hp' := tm4 (fillF 5 0 pr) (upd (upd (upd (upd up 0 1) 1 1) 2 0) 3 0) (upd (upd (upd (upd lo 0 1) 1 1) 2 1) 3 1) (-1) n) dX8_reset_38 Fp_X8_34 rfl rfl (fun _ => rfl) (fun _ => rfl) rfl ?_
  refine ev_aload_n (pc := 41) dX8_reset_41 rfl ?_
  refine ev_iconst (pc := 42) (v := 0) dX8_reset_42 (by decide) ?_
  refine ev_putf (pc := 43) (hp' := tm4 (fillF 5 0 pr) (upd (upd (upd (upd up 0 1) 1 1) 2 0) 3 0) (upd (upd (upd (upd lo 0 1) 1 1) 2 1) 3 1) (-1) 0) dX8_reset_43 Fp_X8_38 rfl rfl (fun _ => rfl) (fun _ => rfl) rfl ?_
  exact ev_ret (pc := 46) dX8_reset_46 rfl ⟨rfl, rfl⟩
end TM4
