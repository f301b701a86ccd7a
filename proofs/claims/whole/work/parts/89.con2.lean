section CON2
theorem getD_far {l : List Nat} {j d : Nat} (h : l.length ≤ j) : l.getD j d = d := by
  rw [List.getD_eq_getElem?_getD, List.getElem?_eq_none h]
  rfl
def renV (r : Nat → Nat) (v : Value) : Value := match v with
  | .ref k => .ref (r k)
  | w => w
def renE (r : Nat → Nat) (e : va_E) : va_E := match e with
  | .inl a => .inl a
  | .inr o => .inr (o.1, o.2.map (renV r))
theorem cv_ren (r : Nat → Nat) (a : Nat → Nat) (v : Value) : cv a (renV r v) = cv (fun j => a (r j)) v := by cases v <;> rfl
theorem map_ren (r : Nat → Nat) (a : Nat → Nat) (l : List Value) : (l.map (renV r)).map (cv a) = l.map (cv (fun j => a (r j))) := by
  rw [List.map_map]
  exact List.map_congr_left (fun v _ => cv_ren r a v)
/-- which references a made world may hold -/
def okR (len i : Nat) (rho : List Nat) (v : Value) : Bool := match v with
  | .ref j => Nat.blt j len || (Nat.blt j rho.length && Nat.blt (rho.getD j j) i)
  | _ => true
def okRE (len i : Nat) (rho : List Nat) (e : va_E) : Bool := match e with
  | .inl _ => true
  | .inr o => o.2.all (okR len i rho)
def ren2 (len i : Nat) (rho : List Nat) (j : Nat) : Nat := if j < len then i + j else rho.getD j j
def adN (len i : Nat) (a c : Nat → Nat) (j : Nat) : Nat := if i ≤ j ∧ j < i + len then c (j - i) else a j
/-- a constructor that the tables know -/
def Mi (M' : MD) (n mc ms : Nat) : Prop := Cond.code M'.1 M'.2.1 M'.2.2.1 none ∈ Ts ∧ Cond.initialized M'.1.cls ∈ Ts ∧ (M'.1.cls ≠ "java/lang/invoke/MethodHandle" ∧ M'.1.cls ≠ "java/lang/invoke/VarHandle") ∧ (parseMethodDescriptor M'.1.desc).map (fun d => d.parameters.length) = some n ∧ M'.2.2.2.2.cells = mc ∧ M'.2.2.2.2.slots = ms ∧ M'.1.name = "<init>" ∧ Cond.instanceMethod M'.1 ∈ Ts ∧ M'.2.2.2.1 = none
variable {g : GG} {ad : Nat → Nat} {xq : CX} {M M' : MD} {kc nc : Nat} {pc : Nat} {lv : List (Nat × Value)} {st : List Value} {hp hp' : List va_E}
theorem adN_ag {len i : Nat} {a c : Nat → Nat} (h0 : 0 < len → c 0 = a i) (h77 : i + len ≤ 77) : Ag (i + 1) (adN len i a c) a := by
  intro j hj
  unfold adN
  split
  · rename_i h
    have e : j = i := by omega
    subst e
    rw [Nat.sub_self]
    exact h0 (by omega)
  · rfl
theorem cv_made {len i : Nat} {rho : List Nat} {a c : Nat → Nat} (hc : ∀ j, j < rho.length → c j = a (rho.getD j j)) {v : Value} (hv : okR len i rho v = true) : cv (adN len i a c) (renV (ren2 len i rho) v) = cv c v := by
  cases v with
  | ref j =>
    show Value.ref (adN len i a c (ren2 len i rho j)) = Value.ref (c j)
    congr 1
    unfold okR at hv
    simp only [Bool.or_eq_true, Bool.and_eq_true, Nat.blt_eq] at hv
    unfold ren2 adN
    by_cases q : j < len
    · rw [if_pos q, if_pos (show i ≤ i + j ∧ i + j < i + len from ⟨Nat.le_add_right i j, Nat.add_lt_add_left q i⟩), Nat.add_sub_cancel_left]
    · rw [if_neg q]
      obtain ⟨q1, q2⟩ := hv.resolve_left q
      rw [if_neg (by omega), hc j q1]
  | _ => rfl
theorem wd_made {i : Nat} {rho : List Nat} {c : Nat → Nat} {hp1 hpc : List va_E} (hlen : hp1.length = i) (h77 : i + hpc.length ≤ 77) (h0 : 0 < rho.length) (hr0 : rho.getD 0 0 = i) (hc : ∀ j, j < rho.length → c j = ad (rho.getD j j)) (ok1 : hp1.all (okE i) = true) (ok2 : hpc.all (okRE hpc.length i rho) = true) : wd (wA g (adN hpc.length i ad c)) (hp1 ++ hpc.map (renE (ren2 hpc.length i rho))) = wd (wA g ad) hp1 ++ wd (wA g c) hpc := by
  have hag : Ag (i + 1) (adN hpc.length i ad c) ad := adN_ag (fun _ => by rw [hc 0 h0, hr0]) h77
  have e1 := wd_ag (g := g) hag (hp := hp1) (by omega) (by
    rw [List.all_eq_true] at ok1 ⊢
    intro e he
    have z := ok1 e he
    cases e with
    | inl a => rfl
    | inr o =>
      show o.2.all (okV (i + 1)) = true
      rw [List.all_eq_true]
      intro v hv
      have y := List.all_eq_true.mp z v hv
      cases v with
      | ref k =>
        unfold okV at y ⊢
        simp only [Bool.or_eq_true, Nat.blt_eq, Nat.ble_eq] at y ⊢
        omega
      | _ => rfl)
  rw [← e1]
  unfold wd
  rw [List.mapIdx_append]
  congr 1
  apply List.ext_getElem?
  intro k
  rw [List.getElem?_mapIdx, List.getElem?_mapIdx, List.getElem?_map]
  cases hk : hpc[k]? with
  | none => rfl
  | some e =>
    have hlt := (List.getElem?_eq_some_iff.mp hk).1
    show some (adN hpc.length i ad c (k + hp1.length), cz (wA g (adN hpc.length i ad c)) (renE (ren2 hpc.length i rho) e)) = some (c k, cz (wA g c) e)
    congr 2
    · unfold adN
      rw [if_pos ⟨by omega, by omega⟩]
      congr 1
      omega
    · have z := List.all_eq_true.mp ok2 e (List.mem_of_getElem? hk)
      cases e with
      | inl a => rfl
      | inr o =>
        show Sum.inr (o.1, (o.2.map (renV (ren2 hpc.length i rho))).map (cv (adN hpc.length i ad c))) = Sum.inr (o.1, o.2.map (cv c))
        congr 2
        rw [List.map_map]
        exact List.map_congr_left (fun v hv => cv_made hc (List.all_eq_true.mp z v hv))
/-- a constructor is called on the cell that was made last -/
theorem gv_callI {idx n i mc ms : Nat} (rho : List Nat) {as rest stk : List Value} {hp1 hpc : List va_E} {e0 : va_E} (d : decode M.2.1 pc = .ok (.invokespecial idx, 3)) (ml : Ml M.1.cls idx M') (mi : Mi M' n mc ms) (hr : (Nat.ble (M'.2.2.2.2.frames + 1) M.2.2.2.2.frames && Nat.ble (8 + (M'.2.2.1 + 11) + M'.2.2.2.2.locals) M.2.2.2.2.locals) = true) (hn : as.length = n) (hw : Nat.ble (rest.map fun v => v.category).sum 8 = true) (hkn : kc + mc ≤ M.2.2.2.2.cells ∧ nc + ms ≤ M.2.2.2.2.slots)
    (hlen : hp1.length = i) (h77 : i + hpc.length ≤ 77) (hrl : rho.length ≤ 77) (h0 : 0 < rho.length) (hr0 : rho.getD 0 0 = i) (hhp : hp = hp1 ++ [e0]) (ok0 : okE 0 e0 = true) (ok1 : hp1.all (okE i) = true) (ok2 : hpc.all (okRE hpc.length i rho) = true) (ok3 : lv.all (fun q => okV (i + 1) q.2) = true) (ok4 : rest.all (okV (i + 1)) = true) (hst : stk = (as.map (renV (fun j => rho.getD j j))).reverse ++ .ref i :: rest) (hh : hp1 ++ hpc.map (renE (ren2 hpc.length i rho)) = hp')
    (ct : ∀ g' : GG, Ci g' M' (.ref 0 :: as) [e0] hpc rho.length mc ms)
    (kk : ∀ ad2, Ag (i + 1) ad2 ad → Gv xq (wA g ad2) M (kc + mc) (nc + ms) (pc + 3) lv rest hp') : Gv xq (wA g ad) M kc nc pc lv stk hp := by
  obtain ⟨p, e, s, m, args, below, meth, c, A, Q⟩ := xq
  intro hA H locs ls hP hD hS hl
  subst hhp
  subst hst
  subst hh
  subst hlen
  have hR := room_of hr
  have gi : rho.getD 0 0 = hp1.length := hr0
  -- the callee's addresses
  let c0 : Nat → Nat := fun j => ad (rho.getD j j)
  have ewc : wd (wA g c0) [e0] = [(ad hp1.length, cz (wA g ad) e0)] := by
    show [(ad (rho.getD 0 0), cz (wA g c0) e0)] = _
    rw [gi, cz_ag (n := 0) (ad' := c0) (ad := ad) (fun j hj => by
      show ad (rho.getD j j) = ad j
      rw [getD_far (by omega)]) ok0]
  rw [wd_cat] at hP hD
  have hP1 : va_P g.2.1 vwCl (wd (wA g ad) hp1) H := fun k q hk => hP k q (by rw [List.getElem?_append_left (List.getElem?_eq_some_iff.mp hk).1]; exact hk)
  have hlw : (wd (wA g ad) hp1).length = hp1.length := by unfold wd; rw [List.length_mapIdx]
  have hlast : (wd (wA g ad) hp1 ++ [(ad hp1.length, cz (wA g ad) e0)])[hp1.length]? = some (ad hp1.length, cz (wA g ad) e0) := by
    rw [List.getElem?_append_right (by omega), hlw, Nat.sub_self]
    rfl
  have hPc : va_P g.2.1 vwCl (wd (wA g c0) [e0]) H := by
    rw [ewc]
    intro k q hk
    have hz : k = 0 := by have := (List.getElem?_eq_some_iff.mp hk).1; simp at this; exact this
    subst hz
    cases hk
    exact hP hp1.length _ hlast
  have hF : ∀ q, va_A (wd (wA g c0) [e0]) H.size q → A q := by
    intro q h
    rcases h with ⟨k, e1, h⟩ | h
    · rw [ewc] at h
      have hz : k = 0 := by have := (List.getElem?_eq_some_iff.mp h).1; simp at this; exact this
      subst hz
      cases h
      exact hD.2 hp1.length _ hlast
    · exact hA.2.2.2.2.2.2.2.2.2.2 q (Nat.le_trans hS.1 h)
  have hD1 : va_D A (wd (wA g ad) hp1) := ⟨fun a b x y hx hy hxy => hD.1 a b x y (by rw [List.getElem?_append_left (List.getElem?_eq_some_iff.mp hx).1]; exact hx) (by rw [List.getElem?_append_left (List.getElem?_eq_some_iff.mp hy).1]; exact hy) hxy, fun k q hk => hD.2 k q (by rw [List.getElem?_append_left (List.getElem?_eq_some_iff.mp hk).1]; exact hk)⟩
  have hDc : va_D (fun _ => True) (wd (wA g c0) [e0]) := by
    rw [ewc]
    refine ⟨fun a b x y hx hy _ => ?_, fun _ _ _ => trivial⟩
    have h1 := (List.getElem?_eq_some_iff.mp hx).1
    have h2 := (List.getElem?_eq_some_iff.mp hy).1
    simp at h1 h2
    omega
  have hag0 : Ag 0 c0 ad := fun j hj => by
    show ad (rho.getD j j) = ad j
    rw [getD_far (by omega)]
  have hstm : (((as.map (renV (fun j => rho.getD j j))).reverse ++ Value.ref hp1.length :: rest).map (cv ad)) = (as.map (cv c0)).reverse ++ .ref (ad hp1.length) :: rest.map (cv ad) := by
    rw [List.map_append, List.map_reverse, List.map_cons, map_ren]
    rfl
  have hsum : (((rest.map (cv ad)).map fun v => v.category)).sum ≤ 8 := by
    have := cat_sum (g := wA g ad) rest
    rw [show (wA g ad).2.2.1 = ad from rfl] at this
    rw [this]
    exact Nat.le_of_ble_eq_true hw
  have hargs : (Value.ref (ad hp1.length) :: as.map (cv c0)).toArray = (((Value.ref 0 :: as).map (cv c0))).toArray := by
    rw [List.map_cons]
    show _ = (Value.ref (ad (rho.getD 0 0)) :: as.map (cv c0)).toArray
    rw [gi]
  have hpre : PreS s H (va_Pc ((Value.ref 0 :: as).map (cv c0)) (fun U => U.heap.size = H.size ∧ va_P g.2.1 vwCl (wd (wA g c0) [e0]) U.heap ∧ va_K g.2.1 vwCl (tysG g) U ∧ va_D (fun _ => True) (wd (wA g c0) [e0]) ∧ Nst U ∧ Sx (wA g c0) (va_A (wd (wA g c0) [e0]) H.size) U U.heap)) (Value.ref (ad hp1.length) :: as.map (cv c0)) := by
    refine ⟨call_blind (g := wA g c0), fun U hU hW => ⟨hargs, by rw [hU], by rw [hU]; exact hPc, va_K.moved hW.alike hA.2.2.2.2.2.2.2.1, hDc, hA.2.2.2.2.2.2.2.2.1.warm hW, ?_⟩⟩
    rw [hU]
    exact (((hA.2.2.2.2.2.2.2.2.2.1.kept hS.2.1).warm hW).narrow hF).ag hag0
  have apart : ∀ (k : Nat) (q : Nat × va_E), (wd (wA g ad) hp1)[k]? = some q → q.1 < H.size ∧ ¬ va_A (wd (wA g c0) [e0]) H.size q.1 := by
    intro k q hk
    have hlt := (hP1 k q hk).lt
    have hkl := (List.getElem?_eq_some_iff.mp hk).1
    refine ⟨hlt, fun h => ?_⟩
    rcases h with ⟨k2, e1, h⟩ | h
    · rw [ewc] at h
      have hz : k2 = 0 := by have := (List.getElem?_eq_some_iff.mp h).1; simp at this; exact this
      subst hz
      have h1 : q.1 = ad hp1.length := by
        have := Option.some.inj h
        exact (congrArg Prod.fst this).symm
      have := hD.1 k hp1.length q (ad hp1.length, cz (wA g ad) e0) (by rw [List.getElem?_append_left hkl]; exact hk) hlast h1
      omega
    · omega
  obtain ⟨m1, m2, m3, m4, m5, m6, m7, m8, m9⟩ := mi
  obtain ⟨y', cc', mL', ret', rm'⟩ := M'
  dsimp only at m1 m2 m3 m4 m5 m6 m7 m8 m9 hR
  subst m9
  have hM := ct (wA g c0) H.size
  have run : va_Run p g.1 e M.2.2.2.2 s m args below meth c H locs kc nc mc ms (F0 m pc ls ((as.map (cv c0)).reverse ++ .ref (ad hp1.length) :: rest.map (cv ad))) (rest.map (cv ad)) (Qn (wA g c0) rho.length (va_A (wd (wA g c0) [e0]) H.size) hpc (Value.ref (ad hp1.length) :: as.map (cv c0)).toArray) (va_A (wd (wA g c0) [e0]) H.size) := by
    rcases ml with hml | ⟨host, hml⟩
    · exact va_runI (As := as.map (cv c0)) ⟨hA.1, hA.2.1, hA.2.2.1, hA.2.2.2.1, hA.2.2.2.2.1⟩ hM ⟨callB_of n hA.2.2.2.2.1 (wsM_good (M' := (y', cc', mL', none, rm')) m1) rfl m5 m6 (hA.2.2.2.2.1 _ m2) (hA.2.2.2.2.1 _ hml) ⟨m3.1, m3.2, m4⟩ hR, m7, hA.2.2.2.2.1 _ m8⟩ hpre rfl (by rw [List.length_map]; exact hn) hl.1 rfl (lv_room hsum) d hkn
    · exact va_runIN (As := as.map (cv c0)) ⟨hA.1, hA.2.1, hA.2.2.1, hA.2.2.2.1, hA.2.2.2.2.1⟩ hM ⟨va_cnB n hA.2.2.2.2.1 (wsM_good (M' := (y', cc', mL', none, rm')) m1) rfl m5 m6 (hA.2.2.2.2.2.2.2.2.1 _ hml) (hA.2.2.2.2.1 _ m2) ⟨m3.1, m3.2, m4⟩ hR, m7, hA.2.2.2.2.1 _ m8⟩ hpre rfl (by rw [List.length_map]; exact hn) hl.1 rfl (lv_room hsum) d hkn
  show W p g.1 e M.2.2.2.2 s m args below meth c H locs kc nc Q (F0 m pc ls (((as.map (renV (fun j => rho.getD j j))).reverse ++ Value.ref hp1.length :: rest).map (cv ad)))
  rw [hstm]
  intro T hT X
  obtain ⟨v, st₀, t, T', L, q0, X', hL, e1, e2, ⟨⟨c1, hag1, hv, hP2, hK2, hD2⟩, hz, hk⟩, stp⟩ := run T hT X
  cases hv
  rw [q0] at hz hk
  have hc1 : ∀ j, j < rho.length → c1 j = ad (rho.getD j j) := fun j hj => hag1 j (Or.inl hj)
  have ew := wd_made (g := g) (ad := ad) (c := c1) rfl h77 h0 hr0 hc1 ok1 ok2
  have hag2 : Ag (hp1.length + 1) (adN hpc.length hp1.length ad c1) ad := adN_ag (fun _ => by rw [hc1 0 h0, hr0]) h77
  have hP3 : va_P g.2.1 vwCl (wd (wA g ad) hp1) T'.heap := fun k q hq => (hP1 k q hq).kept (by rw [e1]; exact hk q.1 (apart k q hq).1 (apart k q hq).2)
  have hP4 : va_P g.2.1 vwCl (wd (wA g c1) hpc) T'.heap := by rw [e1]; exact hP2
  have hS2 : va_S A s.heap T'.heap (locs ++ L) := ⟨Nat.le_trans hS.1 (by rw [e1]; exact hz), fun q h1 h2 => by rw [e1, hk q (Nat.lt_of_lt_of_le h1 hS.1) (fun z => h2 (hF q z))]; exact hS.2.1 q h1 h2, fun q hq => by
      rcases List.mem_append.mp hq with h | h
      · exact hS.2.2 q h
      · exact hF _ (hL q h)⟩
  have hD4 : va_D A (wd (wA g ad) hp1 ++ wd (wA g c1) hpc) := va_D.app hD1 (hD2.weaken (fun _ q _ h => hF q.1 h)) (fun a b x y hx hy hxy => (apart a x hx).2 (by rw [hxy]; exact hD2.2 b y hy))
  have fin := kk (adN hpc.length hp1.length ad c1) hag2 (hA.ag hag2) T'.heap (locs ++ L) ls (by rw [ew]; exact va_P.app hP3 hP4) (by rw [ew]; exact hD4) hS2 (by rw [lvc_ag hag2 ok3]; exact hl)
  have fin' : W p g.1 e M.2.2.2.2 s m args below meth c T'.heap (locs ++ L) (kc + mc) (nc + ms) Q (F0 m (pc + 3) ls (rest.map (cv (adN hpc.length hp1.length ad c1)))) := fin
  rw [map_ag hag2 ok4] at fin'
  obtain ⟨t2, a1, b1⟩ := fin' T' rfl X'
  exact ⟨t2, stp t2 a1, b1⟩
end CON2
