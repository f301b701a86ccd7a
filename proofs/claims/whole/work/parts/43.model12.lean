section MO12
variable {g : GG} {S : St}
def mnV (v b : Int32) : Int32 := if b ≤ v then b else v
def lfS (e : Nat → Int32) (lo hi k : Nat) (s : Nat) (b : Int32) : Int32 := mnV (e (atN lo hi s k)) b
def lfK (e : Nat → Int32) (lo hi n : Nat) (i : Nat) (b : Int32) : Int32 := it (lfS e lo hi (n + i)) 2 b
def lfH (e : Nat → Int32) (nv n lo : Nat) (j : Nat) (b : Int32) : Int32 := it (lfK e lo (lo + j) n) (nv + 1 - n) b
def lfL (e : Nat → Int32) (nv m n : Nat) (lo : Nat) (b : Int32) : Int32 := it (lfH e nv n lo) (m - lo) b
def leastV (e : Nat → Int32) (nv m n : Nat) : Int32 := it (lfL e nv m n) m 1000000000
theorem lo_s {m nv n lo hi k : Nat} {b : Int32} (h1 : lo ≤ 16) (h2 : hi ≤ 16) (h4 : k ≤ 16) (Post : Option Value → List va_E → Prop) (hx : Ev g mX10_leastOf 29 [(0, .ref 43), (1, .int (nI n)), (2, .int (it (lfS (S.2.1 47) lo hi k) 2 b)), (3, .int (nI lo)), (4, .int (nI hi)), (5, .int (nI (k + 1)))] [] (hC S) Post) : Ev g mX10_leastOf 38 [(0, .ref 43), (1, .int (nI n)), (2, .int b), (3, .int (nI lo)), (4, .int (nI hi)), (5, .int (nI k))] [] (hC S) Post := by
  have L : ∀ s, s ≤ 2 → Ev g mX10_leastOf 41 [(0, .ref 43), (1, .int (nI n)), (2, .int (it (lfS (S.2.1 47) lo hi k) s b)), (3, .int (nI lo)), (4, .int (nI hi)), (5, .int (nI k)), (6, .int (nI s))] [] (hC S) Post := by
    refine loop_up 2 ?_ ?_
    · skip
      refine ev_iload (pc := 41) dX10_leastOf_41 rfl ?_
      refine ev_iconst (pc := 43) (v := nI 2) dX10_leastOf_43 (by decide) ?_
      refine ev_icmp_geN (pc := 44) (tgt := 83) (by omega) (by omega) dX10_leastOf_44 (by decide) (fun cq44 => ?_) (fun cq44 => absurd (Nat.le_refl 2) cq44)
      refine ev_iincN (pc := 83) (lv' := [(0, .ref 43), (1, .int _), (2, .int _), (3, .int _), (4, .int _), (5, .int _), (6, .int _)]) dX10_leastOf_83 rfl (Nat.le_of_ble_eq_true rfl) rfl ?_
      refine ev_goto (pc := 86) (tgt := 29) dX10_leastOf_86 (by decide) ?_
      exact ev_keep [0, 1, 2, 3, 4, 5] hx
    · intro s hs ih
      have hlt := at_lt h1 h2 hs h4
      rw [it_s] at ih
      generalize it (lfS (S.2.1 47) lo hi k) s b = c at *
      unfold lfS mnV at ih
      refine ev_iload (pc := 41) dX10_leastOf_41 rfl ?_
      refine ev_iconst (pc := 43) (v := nI 2) dX10_leastOf_43 (by decide) ?_
      refine ev_icmp_geN (pc := 44) (tgt := 83) (by omega) (by omega) dX10_leastOf_44 (by decide) (fun cq44 => absurd cq44 (by omega)) (fun cq44 => ?_)
      refine ev_aload_n (pc := 47) dX10_leastOf_47 rfl ?_
      refine get_MO_early (pc := 48) dX10_leastOf_48 Fl_X10_114 ?_
      refine ev_iload_n (pc := 51) dX10_leastOf_51 rfl ?_
      refine ev_iload (pc := 52) dX10_leastOf_52 rfl ?_
      refine ev_iload (pc := 54) dX10_leastOf_54 rfl ?_
      refine ev_iload (pc := 56) dX10_leastOf_56 rfl ?_
      refine callS4I (pc := 58) dX10_leastOf_58 Ml_X10_274 M_X10_at rfl rfl c_X10_at ?_
      refine ldN_MO_early (pc := 61) dX10_leastOf_61 hlt rfl ?_
      refine ev_istore (pc := 62) (lv' := [(0, .ref 43), (1, .int _), (2, .int _), (3, .int _), (4, .int _), (5, .int _), (6, .int _), (7, .int _)]) dX10_leastOf_62 (Nat.le_of_ble_eq_true rfl) rfl ?_
      refine ev_iload (pc := 64) dX10_leastOf_64 rfl ?_
      refine ev_iload_n (pc := 66) dX10_leastOf_66 rfl ?_
      refine ev_icmp_ge (pc := 67) (tgt := 75) dX10_leastOf_67 (by decide) (fun cq67 => ?_) (fun cq67 => ?_)
      · rw [if_pos cq67] at ih
        refine ev_iload_n (pc := 75) dX10_leastOf_75 rfl ?_
        refine ev_istore_n (pc := 76) (lv' := [(0, .ref 43), (1, .int _), (2, .int _), (3, .int _), (4, .int _), (5, .int _), (6, .int _), (7, .int _)]) dX10_leastOf_76 (Nat.le_of_ble_eq_true rfl) rfl ?_
        refine ev_iincN (pc := 77) (lv' := [(0, .ref 43), (1, .int _), (2, .int _), (3, .int _), (4, .int _), (5, .int _), (6, .int _), (7, .int _)]) dX10_leastOf_77 rfl (Nat.le_of_ble_eq_true rfl) rfl ?_
        refine ev_goto (pc := 80) (tgt := 41) dX10_leastOf_80 (by decide) ?_
        exact ev_keep [0, 1, 2, 3, 4, 5, 6] ih
      · rw [if_neg cq67] at ih
        refine ev_iload (pc := 70) dX10_leastOf_70 rfl ?_
        refine ev_goto (pc := 72) (tgt := 76) dX10_leastOf_72 (by decide) ?_
        refine ev_istore_n (pc := 76) (lv' := [(0, .ref 43), (1, .int _), (2, .int _), (3, .int _), (4, .int _), (5, .int _), (6, .int _), (7, .int _)]) dX10_leastOf_76 (Nat.le_of_ble_eq_true rfl) rfl ?_
        refine ev_iincN (pc := 77) (lv' := [(0, .ref 43), (1, .int _), (2, .int _), (3, .int _), (4, .int _), (5, .int _), (6, .int _), (7, .int _)]) dX10_leastOf_77 rfl (Nat.le_of_ble_eq_true rfl) rfl ?_
        refine ev_goto (pc := 80) (tgt := 41) dX10_leastOf_80 (by decide) ?_
        exact ev_keep [0, 1, 2, 3, 4, 5, 6] ih
  have L0 := L 0 (Nat.zero_le _)
  rw [it_0] at L0
  refine ev_iconst (pc := 38) (v := nI 0) dX10_leastOf_38 (by decide) ?_
  refine ev_istore (pc := 39) (lv' := [(0, .ref 43), (1, .int _), (2, .int _), (3, .int _), (4, .int _), (5, .int _), (6, .int _)]) dX10_leastOf_39 (Nat.le_of_ble_eq_true rfl) rfl ?_
  exact L0
theorem lo_k {m nv n lo hi : Nat} {b : Int32} (hv : S.1 37 = nI nv) (hv2 : nv ≤ 16) (hn : n ≤ nv) (h1 : lo ≤ 16) (h2 : hi ≤ 16) (Post : Option Value → List va_E → Prop) (hx : Ev g mX10_leastOf 17 [(0, .ref 43), (1, .int (nI n)), (2, .int (it (lfK (S.2.1 47) lo hi n) (nv + 1 - n) b)), (3, .int (nI lo)), (4, .int (nI (hi + 1)))] [] (hC S) Post) : Ev g mX10_leastOf 26 [(0, .ref 43), (1, .int (nI n)), (2, .int b), (3, .int (nI lo)), (4, .int (nI hi))] [] (hC S) Post := by
  have L : ∀ i, i ≤ nv + 1 - n → Ev g mX10_leastOf 29 [(0, .ref 43), (1, .int (nI n)), (2, .int (it (lfK (S.2.1 47) lo hi n) i b)), (3, .int (nI lo)), (4, .int (nI hi)), (5, .int (nI (n + i)))] [] (hC S) Post := by
    refine loop_up _ ?_ ?_
    · skip
      refine ev_iload (pc := 29) dX10_leastOf_29 rfl ?_
      refine ev_aload_n (pc := 31) dX10_leastOf_31 rfl ?_
      refine get_MO_visits (pc := 32) dX10_leastOf_32 Fl_X10_268 hv ?_
      refine ev_icmp_gtN (pc := 35) (tgt := 89) (by omega) (by omega) dX10_leastOf_35 (by decide) (fun cq35 => ?_) (fun cq35 => absurd (show nv < n + (nv + 1 - n) by omega) cq35)
      refine ev_iincN (pc := 89) (lv' := [(0, .ref 43), (1, .int _), (2, .int _), (3, .int _), (4, .int _), (5, .int _)]) dX10_leastOf_89 rfl (Nat.le_of_ble_eq_true rfl) rfl ?_
      refine ev_goto (pc := 92) (tgt := 17) dX10_leastOf_92 (by decide) ?_
      exact ev_keep [0, 1, 2, 3, 4] hx
    · intro i hi' ih
      have h := lo_s (g := g) (S := S) (m := m) (nv := nv) (n := n) (lo := lo) (hi := hi) (k := n + i) (b := it (lfK (S.2.1 47) lo hi n) i b) h1 h2 (by omega) Post ih
      refine ev_iload (pc := 29) dX10_leastOf_29 rfl ?_
      refine ev_aload_n (pc := 31) dX10_leastOf_31 rfl ?_
      refine get_MO_visits (pc := 32) dX10_leastOf_32 Fl_X10_268 hv ?_
      refine ev_icmp_gtN (pc := 35) (tgt := 89) (by omega) (by omega) dX10_leastOf_35 (by decide) (fun cq35 => absurd cq35 (by omega)) (fun cq35 => ?_)
      exact h
  have L0 := L 0 (Nat.zero_le _)
  rw [it_0] at L0
  refine ev_iload_n (pc := 26) dX10_leastOf_26 rfl ?_
  refine ev_istore (pc := 27) (lv' := [(0, .ref 43), (1, .int _), (2, .int _), (3, .int _), (4, .int _), (5, .int _)]) dX10_leastOf_27 (Nat.le_of_ble_eq_true rfl) rfl ?_
  exact L0
theorem lo_h {m nv n lo : Nat} {b : Int32} (hm : S.1 38 = nI m) (hm2 : m ≤ 17) (hv : S.1 37 = nI nv) (hv2 : nv ≤ 16) (hn : n ≤ nv) (h1 : lo < m) (Post : Option Value → List va_E → Prop) (hx : Ev g mX10_leastOf 6 [(0, .ref 43), (1, .int (nI n)), (2, .int (lfL (S.2.1 47) nv m n lo b)), (3, .int (nI (lo + 1)))] [] (hC S) Post) : Ev g mX10_leastOf 14 [(0, .ref 43), (1, .int (nI n)), (2, .int b), (3, .int (nI lo))] [] (hC S) Post := by
  have L : ∀ j, j ≤ m - lo → Ev g mX10_leastOf 17 [(0, .ref 43), (1, .int (nI n)), (2, .int (it (lfH (S.2.1 47) nv n lo) j b)), (3, .int (nI lo)), (4, .int (nI (lo + j)))] [] (hC S) Post := by
    refine loop_up _ ?_ ?_
    · skip
      refine ev_iload (pc := 17) dX10_leastOf_17 rfl ?_
      refine ev_aload_n (pc := 19) dX10_leastOf_19 rfl ?_
      refine get_MO_places (pc := 20) dX10_leastOf_20 Fl_X10_271 hm ?_
      refine ev_icmp_geN (pc := 23) (tgt := 95) (by omega) (by omega) dX10_leastOf_23 (by decide) (fun cq23 => ?_) (fun cq23 => absurd (show m ≤ lo + (m - lo) by omega) cq23)
      refine ev_iincN (pc := 95) (lv' := [(0, .ref 43), (1, .int _), (2, .int _), (3, .int _), (4, .int _)]) dX10_leastOf_95 rfl (Nat.le_of_ble_eq_true rfl) rfl ?_
      refine ev_goto (pc := 98) (tgt := 6) dX10_leastOf_98 (by decide) ?_
      exact ev_keep [0, 1, 2, 3] hx
    · intro j hj ih
      have h := lo_k (g := g) (S := S) (m := m) (lo := lo) (hi := lo + j) (b := it (lfH (S.2.1 47) nv n lo) j b) hv hv2 hn (by omega) (by omega) Post ih
      refine ev_iload (pc := 17) dX10_leastOf_17 rfl ?_
      refine ev_aload_n (pc := 19) dX10_leastOf_19 rfl ?_
      refine get_MO_places (pc := 20) dX10_leastOf_20 Fl_X10_271 hm ?_
      refine ev_icmp_geN (pc := 23) (tgt := 95) (by omega) (by omega) dX10_leastOf_23 (by decide) (fun cq23 => absurd cq23 (by omega)) (fun cq23 => ?_)
      exact h
  have L0 := L 0 (Nat.zero_le _)
  rw [it_0] at L0
  refine ev_iload_n (pc := 14) dX10_leastOf_14 rfl ?_
  refine ev_istore (pc := 15) (lv' := [(0, .ref 43), (1, .int _), (2, .int _), (3, .int _), (4, .int _)]) dX10_leastOf_15 (Nat.le_of_ble_eq_true rfl) rfl ?_
  exact L0
theorem c_X10_leastOf {m nv n : Nat} (hm : S.1 38 = nI m) (hm2 : m ≤ 17) (hv : S.1 37 = nI nv) (hv2 : nv ≤ 16) (hn : n ≤ nv) : Ct g mX10_leastOf [.ref 43, .int (nI n)] (hC S) (RI (leastV (S.2.1 47) nv m n) S) := by
  have L : ∀ lo, lo ≤ m → Ev g mX10_leastOf 6 [(0, .ref 43), (1, .int (nI n)), (2, .int (it (lfL (S.2.1 47) nv m n) lo 1000000000)), (3, .int (nI lo))] [] (hC S) (RI (leastV (S.2.1 47) nv m n) S) := by
    refine loop_up _ ?_ ?_
    · skip
      refine ev_iload_n (pc := 6) dX10_leastOf_6 rfl ?_
      refine ev_aload_n (pc := 7) dX10_leastOf_7 rfl ?_
      refine get_MO_places (pc := 8) dX10_leastOf_8 Fl_X10_271 hm ?_
      refine ev_icmp_geN (pc := 11) (tgt := 101) (by omega) (by omega) dX10_leastOf_11 (by decide) (fun cq11 => ?_) (fun cq11 => absurd (Nat.le_refl m) cq11)
      refine ev_iload_n (pc := 101) dX10_leastOf_101 rfl ?_
      exact ev_iret (pc := 102) dX10_leastOf_102 rfl rfl ri
    · intro lo hl ih
      have h := lo_h (g := g) (S := S) (lo := lo) (b := it (lfL (S.2.1 47) nv m n) lo 1000000000) hm hm2 hv hv2 hn hl _ ih
      refine ev_iload_n (pc := 6) dX10_leastOf_6 rfl ?_
      refine ev_aload_n (pc := 7) dX10_leastOf_7 rfl ?_
      refine get_MO_places (pc := 8) dX10_leastOf_8 Fl_X10_271 hm ?_
      refine ev_icmp_geN (pc := 11) (tgt := 101) (by omega) (by omega) dX10_leastOf_11 (by decide) (fun cq11 => absurd cq11 (by omega)) (fun cq11 => ?_)
      exact h
  have L0 := L 0 (Nat.zero_le _)
  rw [it_0] at L0
  refine ct_of rfl rfl ?_
  refine ev_ldcw (pc := 0) dX10_leastOf_0 Cn_X10_278 ?_
  refine ev_istore_n (pc := 3) (lv' := [(0, .ref 43), (1, .int _), (2, .int _)]) dX10_leastOf_3 (Nat.le_of_ble_eq_true rfl) rfl ?_
  refine ev_iconst (pc := 4) (v := nI 0) dX10_leastOf_4 (by decide) ?_
  refine ev_istore_n (pc := 5) (lv' := [(0, .ref 43), (1, .int _), (2, .int _), (3, .int _)]) dX10_leastOf_5 (Nat.le_of_ble_eq_true rfl) rfl ?_
  exact L0
/-- how many places there are behind the walk -/
def plN (bg : Int32) (nv : Nat) (S : St) : Nat := (it apB nv (pl0 bg S)).2
theorem walkM_W {bg : Int32} {nv : Nat} (hV : Vm S nv) : Wm (walkM bg nv S) (plN bg nv S) nv := by
  have hV0 : Vm (setI S 38 0) nv := hV
  have e0 : eqPl (pl0 bg S).1 (setI S 38 0) := addP_eq 0 bg (setI S 38 0)
  have h0 := addP_cnt (n := 0) bg (setI S 38 0) (by rw [nI_0]; rfl)
  have hc0 : addPc 0 bg (setI S 38 0) = 1 := by
    unfold addPc
    dsimp only
    rw [if_pos (Nat.zero_le _)]
  rw [hc0] at h0
  have hmem0 : ∃ b, b < (pl0 bg S).2 ∧ (pl0 bg S).1.2.1 46 b = bg := by
    have := addP_mem (n := 0) bg (setI S 38 0) (q := bg) (Or.inl rfl)
    rw [hc0] at this
    exact this
  obtain ⟨c1, c2, c3, -⟩ := apB_cnt (bg := bg) nv (pl0 bg S) h0.1 hmem0
  have hVn : Vm (it apB nv (pl0 bg S)).1 nv := hV0.pl ((apB_eqs nv _).tr e0)
  have hp1 : (pl0 bg S).2 = 1 := rfl
  have hnv := hV.2.1
  have hX : Wm (it apB nv (pl0 bg S)).1 (plN bg nv S) nv := ⟨c1, by unfold plN; omega, hVn⟩
  unfold walkM
  exact hX.eq ((eqE.it (wkW_eq _ nv) _ _).tr ((eqE.e _).tr (eqE.e _)))
def moM (e : Nat → Int32) (nv m : Nat) : Nat → Nat
  | 0 => 0
  | n + 1 => if leastV e nv m (n + 1) = 1000000000 then moM e nv m n else n + 1
def mostM (nv : Nat) (p : Int32) (S : St) : Int32 × St := if outB p 0 1000 = true then (-1, th S) else (nI (moM ((walkM p nv (th S)).2.1 47) nv (plN p nv (th S)) nv), walkM p nv (th S))
theorem c_X10_most {p : Int32} {nv : Nat} (hV : Vm S nv) (h0 : ¬ leastV ((walkM p nv (th S)).2.1 47) nv (plN p nv (th S)) 0 = 1000000000) : Ct g mX10_most [.ref 43, .int p] (hC S) (RI (mostM nv p S).1 (mostM nv p S).2) := by
  have hV1 : Vm (th S) nv := hV
  have hW := walkM_W (bg := p) hV1
  have hw := c_X10_walk (g := g) (bg := p) hV1
  unfold mostM
  generalize walkM p nv (th S) = X at *
  generalize plN p nv (th S) = m at *
  obtain ⟨hm, hm2, hv, hv2, -⟩ := hW
  have L : ∀ n, n ≤ nv → Ev g mX10_most 29 [(0, .ref 43), (1, .int p), (2, .int (nI n))] [] (hC X) (RI (nI (moM (X.2.1 47) nv m n)) X) := by
    intro n
    induction n with
    | zero =>
      intro hn
      refine ev_aload_n (pc := 29) dX10_most_29 rfl ?_
      refine ev_iload_n (pc := 30) dX10_most_30 rfl ?_
      refine callV1I (pc := 31) dX10_most_31 Ml_X10_293 M_X10_leastOf rfl rfl rfl rfl (c_X10_leastOf (n := 0) hm hm2 hv hv2 hn) ?_
      refine ev_ldcw (pc := 34) dX10_most_34 Cn_X10_278 ?_
      refine ev_icmp_ne (pc := 37) (tgt := 46) dX10_most_37 (by decide) (fun cq37 => ?_) (fun cq37 => absurd cq37 h0)
      refine ev_iload_n (pc := 46) dX10_most_46 rfl ?_
      exact ev_iret (pc := 47) dX10_most_47 rfl rfl ri
    | succ n ih =>
      intro hn
      rw [moM]
      refine ev_aload_n (pc := 29) dX10_most_29 rfl ?_
      refine ev_iload_n (pc := 30) dX10_most_30 rfl ?_
      refine callV1I (pc := 31) dX10_most_31 Ml_X10_293 M_X10_leastOf rfl rfl rfl rfl (c_X10_leastOf (n := n + 1) hm hm2 hv hv2 hn) ?_
      refine ev_ldcw (pc := 34) dX10_most_34 Cn_X10_278 ?_
      refine ev_icmp_ne (pc := 37) (tgt := 46) dX10_most_37 (by decide) (fun cq37 => ?_) (fun cq37 => ?_)
      · rw [if_neg cq37]
        refine ev_iload_n (pc := 46) dX10_most_46 rfl ?_
        exact ev_iret (pc := 47) dX10_most_47 rfl rfl ri
      · rw [if_pos cq37]
        refine ev_iinc (pc := 40) (lv' := [(0, .ref 43), (1, .int _), (2, .int _)]) dX10_most_40 rfl (Nat.le_of_ble_eq_true rfl) rfl ?_
        refine ev_goto (pc := 43) (tgt := 29) dX10_most_43 (by decide) ?_
        rw [nI_dec]
        exact ih (by omega)
  refine ct_of rfl rfl ?_
  refine ev_aload_n (pc := 0) dX10_most_0 rfl ?_
  refine ev_iconst (pc := 1) (v := 0) dX10_most_1 (by decide) ?_
  refine put_MO_thrown (pc := 2) dX10_most_2 Fp_X10_117 ?_
  refine ev_iload_n (pc := 5) dX10_most_5 rfl ?_
  refine ev_i2l (pc := 6) dX10_most_6 ?_
  refine ev_lconst (pc := 7) (v := 0) dX10_most_7 (by decide) ?_
  refine ev_ldc2 (pc := 8) dX10_most_8 Cn_X10_134 ?_
  refine callS3I (pc := 11) dX10_most_11 Ml_X10_125 M_X10_in rfl rfl (c_X10_in (lo := 0) (hi := 1000) rfl (by decide) (by decide)) ?_
  refine ev_if_neB (pc := 14) (tgt := 19) dX10_most_14 (by decide) (fun cq14 => ?_) (fun cq14 => ?_)
  · rw [if_neg (bnot_t cq14)]
    refine ev_aload_n (pc := 19) dX10_most_19 rfl ?_
    refine ev_iload_n (pc := 20) dX10_most_20 rfl ?_
    refine callV1V (pc := 21) dX10_most_21 Ml_X10_290 M_X10_walk rfl rfl rfl rfl hw ?_
    refine ev_aload_n (pc := 24) dX10_most_24 rfl ?_
    refine get_MO_visits (pc := 25) dX10_most_25 Fl_X10_268 hv ?_
    refine ev_istore_n (pc := 28) (lv' := [(0, .ref 43), (1, .int _), (2, .int _)]) dX10_most_28 (Nat.le_of_ble_eq_true rfl) rfl ?_
    exact L nv (Nat.le_refl _)
  · rw [if_pos (bnot_f cq14)]
    refine ev_iconst (pc := 17) (v := -1) dX10_most_17 (by decide) ?_
    exact ev_iret (pc := 18) dX10_most_18 rfl rfl ri
def leastM (nv : Nat) (p n : Int32) (S : St) : Int32 × St := if outB p 0 1000 = true then (-1, th S) else if outB n 0 (nI nv) = true then (-1, th S) else
  (if leastV ((walkM p nv (th S)).2.1 47) nv (plN p nv (th S)) n.toNatClampNeg = 1000000000 then -1 else leastV ((walkM p nv (th S)).2.1 47) nv (plN p nv (th S)) n.toNatClampNeg, walkM p nv (th S))
theorem c_X10_least {p n : Int32} {nv : Nat} (hV : Vm S nv) : Ct g mX10_least [.ref 43, .int p, .int n] (hC S) (RI (leastM nv p n S).1 (leastM nv p n S).2) := by
  have hV1 : Vm (th S) nv := hV
  have hW := walkM_W (bg := p) hV1
  have hw := c_X10_walk (g := g) (bg := p) hV1
  have hvS := hV.1
  unfold leastM
  generalize walkM p nv (th S) = X at *
  generalize plN p nv (th S) = m at *
  obtain ⟨hm, hm2, hv, hv2, -⟩ := hW
  refine ct_of rfl rfl ?_
  refine ev_aload_n (pc := 0) dX10_least_0 rfl ?_
  refine ev_iconst (pc := 1) (v := 0) dX10_least_1 (by decide) ?_
  refine put_MO_thrown (pc := 2) dX10_least_2 Fp_X10_117 ?_
  refine ev_iload_n (pc := 5) dX10_least_5 rfl ?_
  refine ev_i2l (pc := 6) dX10_least_6 ?_
  refine ev_lconst (pc := 7) (v := 0) dX10_least_7 (by decide) ?_
  refine ev_ldc2 (pc := 8) dX10_least_8 Cn_X10_134 ?_
  refine callS3I (pc := 11) dX10_least_11 Ml_X10_125 M_X10_in rfl rfl (c_X10_in (lo := 0) (hi := 1000) rfl (by decide) (by decide)) ?_
  refine ev_if_eqB (pc := 14) (tgt := 31) dX10_least_14 (by decide) (fun cq14 => ?_) (fun cq14 => ?_)
  · rw [if_pos (bnot_f cq14)]
    refine ev_iconst (pc := 31) (v := -1) dX10_least_31 (by decide) ?_
    exact ev_iret (pc := 32) dX10_least_32 rfl rfl ri
  · rw [if_neg (bnot_t cq14)]
    refine ev_iload_n (pc := 17) dX10_least_17 rfl ?_
    refine ev_i2l (pc := 18) dX10_least_18 ?_
    refine ev_lconst (pc := 19) (v := 0) dX10_least_19 (by decide) ?_
    refine ev_aload_n (pc := 20) dX10_least_20 rfl ?_
    refine get_MO_visits (pc := 21) dX10_least_21 Fl_X10_268 hvS ?_
    refine ev_i2l (pc := 24) dX10_least_24 ?_
    refine callS3I (pc := 25) dX10_least_25 Ml_X10_125 M_X10_in rfl rfl (c_X10_in (lo := 0) (hi := nI nv) rfl (by decide) rfl) ?_
    refine ev_if_neB (pc := 28) (tgt := 33) dX10_least_28 (by decide) (fun cq28 => ?_) (fun cq28 => ?_)
    · rw [if_neg (bnot_t cq28)]
      obtain ⟨j, hj, rfl⟩ := outB_rng (f := n) (n := nv) (nI_toInt (by omega)) (by simpa using cq28)
      rw [nI_clamp (by omega)]
      refine ev_aload_n (pc := 33) dX10_least_33 rfl ?_
      refine ev_iload_n (pc := 34) dX10_least_34 rfl ?_
      refine callV1V (pc := 35) dX10_least_35 Ml_X10_290 M_X10_walk rfl rfl rfl rfl hw ?_
      refine ev_aload_n (pc := 38) dX10_least_38 rfl ?_
      refine ev_iload_n (pc := 39) dX10_least_39 rfl ?_
      refine callV1I (pc := 40) dX10_least_40 Ml_X10_293 M_X10_leastOf rfl rfl rfl rfl (c_X10_leastOf hm hm2 hv hv2 hj) ?_
      refine ev_istore_n (pc := 43) (lv' := [(0, .ref 43), (1, .int _), (2, .int _), (3, .int _)]) dX10_least_43 (Nat.le_of_ble_eq_true rfl) rfl ?_
      refine ev_iload_n (pc := 44) dX10_least_44 rfl ?_
      refine ev_ldcw (pc := 45) dX10_least_45 Cn_X10_278 ?_
      refine ev_icmp_ne (pc := 48) (tgt := 55) dX10_least_48 (by decide) (fun cq48 => ?_) (fun cq48 => ?_)
      · rw [if_neg cq48]
        refine ev_iload_n (pc := 55) dX10_least_55 rfl ?_
        exact ev_iret (pc := 56) dX10_least_56 rfl rfl ri
      · rw [if_pos cq48]
        refine ev_iconst (pc := 51) (v := -1) dX10_least_51 (by decide) ?_
        refine ev_goto (pc := 52) (tgt := 56) dX10_least_52 (by decide) ?_
        exact ev_iret (pc := 56) dX10_least_56 rfl rfl ri
    · rw [if_pos (bnot_f cq28)]
      refine ev_iconst (pc := 31) (v := -1) dX10_least_31 (by decide) ?_
      exact ev_iret (pc := 32) dX10_least_32 rfl rfl ri
end MO12
