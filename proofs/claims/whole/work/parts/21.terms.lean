section TM
variable {g : GG} {S : St}
def fillF {α : Type} (n : Nat) (x : α) (f : Nat → α) : Nat → α := fun j => if j < n then x else f j
theorem fillF_0 {α : Type} (x : α) (f : Nat → α) : fillF 0 x f = f := by funext j; simp [fillF]
theorem fillF_s (k : Nat) (x : Int32) (f : Nat → Int32) : upd (fillF k x f) k x = fillF (k + 1) x f := by
  funext j
  simp only [upd, fillF]
  by_cases h : j = k
  · simp [h]
  · by_cases h2 : j < k
    · simp [h, h2, Nat.lt_succ_of_lt h2]
    · simp [h, h2, show ¬ j < k + 1 by omega]
theorem fillF_sL (k : Nat) (x : Int64) (f : Nat → Int64) : vp_updL (fillF k x f) k x = fillF (k + 1) x f := by
  funext j
  simp only [vp_updL, fillF]
  by_cases h : j = k
  · simp [h]
  · by_cases h2 : j < k
    · simp [h, h2, Nat.lt_succ_of_lt h2]
    · simp [h, h2, show ¬ j < k + 1 by omega]
theorem set_set {α : Type} (l : List α) (q : Nat) (a b : α) : (l.set q a).set q b = l.set q b := by
  apply List.ext_getElem?
  intro i
  simp only [List.getElem?_set, List.length_set]
  split <;> rfl
theorem get_set_self {α : Type} {l : List α} {q : Nat} {a b : α} (h : l[q]? = some a) : (l.set q b)[q]? = some b := by
  have := (List.getElem?_eq_some_iff.mp h).1
  simp [List.getElem?_set, this]
theorem set_same {α : Type} {l : List α} {q : Nat} {a : α} (h : l[q]? = some a) : l.set q a = l := by
  apply List.ext_getElem?
  intro i
  simp only [List.getElem?_set]
  split
  · rename_i hi
    subst hi
    have := (List.getElem?_eq_some_iff.mp h).1
    rw [h]
    simp [this]
  · rfl
theorem c_fillI {hp : List va_E} {q n : Nat} {f : Nat → Int32} {x : Int32} (hq : hp[q]? = some (.inl (0, n, .inl f))) (hn : n < 2 ^ 31) : Ct g mJ7_fill_53178 [.ref q, .int x] hp (fun v h => v = none ∧ h = hp.set q (.inl (0, n, .inl (fillF n x f)))) := by
  refine ct_of rfl rfl ?_
  refine ev_iconst (pc := 0) (v := nI 0) dJ7_fill_53178_0 (by decide) ?_
  refine ev_istore_n (pc := 1) (lv' := [(0, .ref q), (1, .int x), (2, .int (nI 0))]) dJ7_fill_53178_1 (Nat.le_of_ble_eq_true rfl) rfl ?_
  refine ev_aload_n (pc := 2) dJ7_fill_53178_2 rfl ?_
  refine ev_alenI (pc := 3) (v := nI n) dJ7_fill_53178_3 hq rfl ?_
  refine ev_istore_n (pc := 4) (lv' := [(0, .ref q), (1, .int x), (2, .int (nI 0)), (3, .int (nI n))]) dJ7_fill_53178_4 (Nat.le_of_ble_eq_true rfl) rfl ?_
  have key : ∀ k, k ≤ n → Ev g mJ7_fill_53178 5 [(0, .ref q), (1, .int x), (2, .int (nI k)), (3, .int (nI n))] [] (hp.set q (.inl (0, n, .inl (fillF k x f)))) (fun v h => v = none ∧ h = hp.set q (.inl (0, n, .inl (fillF n x f)))) := by
    refine loop_up n ?_ ?_
    · refine ev_iload_n (pc := 5) dJ7_fill_53178_5 rfl ?_
      refine ev_iload_n (pc := 6) dJ7_fill_53178_6 rfl ?_
      refine ev_icmp_geN (pc := 7) (tgt := 20) hn hn dJ7_fill_53178_7 (by decide) (fun c => ?_) (fun c => absurd (Nat.le_refl n) c)
      exact ev_ret (pc := 20) dJ7_fill_53178_20 rfl ⟨rfl, rfl⟩
    · intro k hk ih
      refine ev_iload_n (pc := 5) dJ7_fill_53178_5 rfl ?_
      refine ev_iload_n (pc := 6) dJ7_fill_53178_6 rfl ?_
      refine ev_icmp_geN (pc := 7) (tgt := 20) (by omega) hn dJ7_fill_53178_7 (by decide) (fun c => absurd hk (by omega)) (fun c => ?_)
      refine ev_aload_n (pc := 10) dJ7_fill_53178_10 rfl ?_
      refine ev_iload_n (pc := 11) dJ7_fill_53178_11 rfl ?_
      refine ev_iload_n (pc := 12) dJ7_fill_53178_12 rfl ?_
      refine ev_iast (pc := 13) dJ7_fill_53178_13 (get_set_self hq) (vp_in_nI hk hn) (by rw [set_set, nI_clamp (by omega), fillF_s]) ?_
      refine ev_iincN (pc := 14) (lv' := [(0, .ref q), (1, .int x), (2, .int (nI (k + 1))), (3, .int (nI n))]) dJ7_fill_53178_14 rfl (Nat.le_of_ble_eq_true rfl) rfl ?_
      refine ev_goto (pc := 17) (tgt := 5) dJ7_fill_53178_17 (by decide) ?_
      exact ih
  have h0 := key 0 (Nat.zero_le _)
  rw [fillF_0, set_same hq] at h0
  exact h0
theorem c_fillL {hp : List va_E} {q n : Nat} {f : Nat → Int64} {x : Int64} (hq : hp[q]? = some (.inl (1, n, .inr (.inl f)))) (hn : n < 2 ^ 31) : Ct g mJ7_fill_d0a16 [.ref q, .long x] hp (fun v h => v = none ∧ h = hp.set q (.inl (1, n, .inr (.inl (fillF n x f))))) := by
  refine ct_of rfl rfl ?_
  refine ev_iconst (pc := 0) (v := nI 0) dJ7_fill_d0a16_0 (by decide) ?_
  refine ev_istore_n (pc := 1) (lv' := [(0, .ref q), (1, .long x), (3, .int (nI 0))]) dJ7_fill_d0a16_1 (Nat.le_of_ble_eq_true rfl) rfl ?_
  refine ev_aload_n (pc := 2) dJ7_fill_d0a16_2 rfl ?_
  refine ev_alenL (pc := 3) (v := nI n) dJ7_fill_d0a16_3 hq rfl ?_
  refine ev_istore (pc := 4) (lv' := [(0, .ref q), (1, .long x), (3, .int (nI 0)), (4, .int (nI n))]) dJ7_fill_d0a16_4 (Nat.le_of_ble_eq_true rfl) rfl ?_
  have key : ∀ k, k ≤ n → Ev g mJ7_fill_d0a16 6 [(0, .ref q), (1, .long x), (3, .int (nI k)), (4, .int (nI n))] [] (hp.set q (.inl (1, n, .inr (.inl (fillF k x f))))) (fun v h => v = none ∧ h = hp.set q (.inl (1, n, .inr (.inl (fillF n x f))))) := by
    refine loop_up n ?_ ?_
    · refine ev_iload_n (pc := 6) dJ7_fill_d0a16_6 rfl ?_
      refine ev_iload (pc := 7) dJ7_fill_d0a16_7 rfl ?_
      refine ev_icmp_geN (pc := 9) (tgt := 22) hn hn dJ7_fill_d0a16_9 (by decide) (fun c => ?_) (fun c => absurd (Nat.le_refl n) c)
      exact ev_ret (pc := 22) dJ7_fill_d0a16_22 rfl ⟨rfl, rfl⟩
    · intro k hk ih
      refine ev_iload_n (pc := 6) dJ7_fill_d0a16_6 rfl ?_
      refine ev_iload (pc := 7) dJ7_fill_d0a16_7 rfl ?_
      refine ev_icmp_geN (pc := 9) (tgt := 22) (by omega) hn dJ7_fill_d0a16_9 (by decide) (fun c => absurd hk (by omega)) (fun c => ?_)
      refine ev_aload_n (pc := 12) dJ7_fill_d0a16_12 rfl ?_
      refine ev_iload_n (pc := 13) dJ7_fill_d0a16_13 rfl ?_
      refine ev_lload_n (pc := 14) dJ7_fill_d0a16_14 rfl ?_
      refine ev_last (pc := 15) dJ7_fill_d0a16_15 (get_set_self hq) (vp_in_nI hk hn) (by rw [set_set, nI_clamp (by omega), fillF_sL]) ?_
      refine ev_iincN (pc := 16) (lv' := [(0, .ref q), (1, .long x), (3, .int (nI (k + 1))), (4, .int (nI n))]) dJ7_fill_d0a16_16 rfl (Nat.le_of_ble_eq_true rfl) rfl ?_
      refine ev_goto (pc := 19) (tgt := 6) dJ7_fill_d0a16_19 (by decide) ?_
      exact ih
  have h0 := key 0 (Nat.zero_le _)
  rw [fillF_0, set_same hq] at h0
  exact h0
theorem c_fill_T0_price {x : Int32} : Ct g mJ7_fill_53178 [.ref 36, .int x] (hC S) (RV (setA S 18 (fillF 5 x (S.2.1 18)))) := c_fillI (g := g) (hp := hC S) (q := 36) rfl (by decide)
theorem c_fill_T1_price {x : Int32} : Ct g mJ7_fill_53178 [.ref 40, .int x] (hC S) (RV (setA S 19 (fillF 5 x (S.2.1 19)))) := c_fillI (g := g) (hp := hC S) (q := 40) rfl (by decide)
theorem c_fill_RD_earliest {x : Int32} : Ct g mJ7_fill_53178 [.ref 33, .int x] (hC S) (RV (setA S 16 (fillF 2754 x (S.2.1 16)))) := c_fillI (g := g) (hp := hC S) (q := 33) rfl (by decide)
theorem c_fill_RD_hourOfCount {x : Int32} : Ct g mJ7_fill_53178 [.ref 34, .int x] (hC S) (RV (setA S 17 (fillF 17 x (S.2.1 17)))) := c_fillI (g := g) (hp := hC S) (q := 34) rfl (by decide)
theorem c_fill_BK_weight {x : Int64} : Ct g mJ7_fill_d0a16 [.ref 18, .long x] (hC S) (RV (setB S 0 (fillF 40 x (S.2.2.2.1 0)))) := c_fillL (g := g) (hp := hC S) (q := 18) rfl (by decide)
theorem c_fill_BK_lent {x : Int64} : Ct g mJ7_fill_d0a16 [.ref 19, .long x] (hC S) (RV (setB S 1 (fillF 40 x (S.2.2.2.1 1)))) := c_fillL (g := g) (hp := hC S) (q := 19) rfl (by decide)
theorem c_fill_BK_check {x : Int64} : Ct g mJ7_fill_d0a16 [.ref 20, .long x] (hC S) (RV (setB S 2 (fillF 40 x (S.2.2.2.1 2)))) := c_fillL (g := g) (hp := hC S) (q := 20) rfl (by decide)
theorem c_fill_BK_beyond {x : Int64} : Ct g mJ7_fill_d0a16 [.ref 21, .long x] (hC S) (RV (setB S 3 (fillF 40 x (S.2.2.2.1 3)))) := c_fillL (g := g) (hp := hC S) (q := 21) rfl (by decide)
theorem c_fill_BK_able {x : Int64} : Ct g mJ7_fill_d0a16 [.ref 23, .long x] (hC S) (RV (setB S 5 (fillF 40 x (S.2.2.2.1 5)))) := c_fillL (g := g) (hp := hC S) (q := 23) rfl (by decide)
def shareSet (b k : Nat) (x y : Int32) (S : St) : St := setA (setA S (20 + b) (upd (S.2.1 (20 + b)) k x)) (22 + b) (upd (S.2.1 (22 + b)) k y)
def shareF (S : St) (b k : Nat) (v : Int64) : Int64 := if 1 ≤ S.2.1 (22 + b) k then v * (S.2.1 (20 + b) k).toInt64 / (S.2.1 (22 + b) k).toInt64 else 0
theorem i64ne {x : Int32} (h : 1 ≤ x) : ¬ x.toInt64 = 0 := by
  intro h0
  have h1 := congrArg Int64.toInt h0
  rw [Int32.toInt_toInt64] at h1
  have h2 := Int32.le_iff_toInt_le.mp h
  have h3 : (1 : Int32).toInt = 1 := by decide
  have h4 : (0 : Int64).toInt = 0 := by decide
  omega
def resetS (b : Nat) (S : St) : St := setI (setI (shareSet b 3 0 1 (shareSet b 2 0 1 (shareSet b 1 1 1 (shareSet b 0 1 1 (setA S (18 + b) (fillF 5 0 (S.2.1 (18 + b)))))))) (16 + b) (-1)) (18 + b) 0
theorem c_X8_setShare_0 {k : Nat} {x y : Int32} (hk : k < 4) : Ct g mX8_setShare [.ref 35, .int (nI k), .int x, .int y] (hC S) (RV (shareSet 0 k x y S)) := by
  refine ct_of rfl rfl ?_
  refine ev_iload_n (pc := 0) dX8_setShare_0 rfl ?_
  refine ev_if_lt (pc := 1) (tgt := 9) dX8_setShare_1 (by decide) (fun cq1 => absurd cq1 (nI_pos (by omega))) (fun cq1 => ?_)
  refine ev_iload_n (pc := 4) dX8_setShare_4 rfl ?_
  refine ev_iconst (pc := 5) (v := nI 4) dX8_setShare_5 (by decide) ?_
  refine ev_icmp_ltN (pc := 6) (tgt := 10) (by omega) (by omega) dX8_setShare_6 (by decide) (fun cq6 => ?_) (fun cq6 => absurd hk cq6)
  refine ev_aload_n (pc := 10) dX8_setShare_10 rfl ?_
  refine get_T0_upper (pc := 11) dX8_setShare_11 Fl_X8_15 ?_
  refine ev_iload_n (pc := 14) dX8_setShare_14 rfl ?_
  refine ev_iload_n (pc := 15) dX8_setShare_15 rfl ?_
  refine asN_T0_upper (pc := 16) dX8_setShare_16 (by omega) ?_
  refine ev_aload_n (pc := 17) dX8_setShare_17 rfl ?_
  refine get_T0_lower (pc := 18) dX8_setShare_18 Fl_X8_18 ?_
  refine ev_iload_n (pc := 21) dX8_setShare_21 rfl ?_
  refine ev_iload_n (pc := 22) dX8_setShare_22 rfl ?_
  refine asN_T0_lower (pc := 23) dX8_setShare_23 (by omega) ?_
  exact ev_ret (pc := 24) dX8_setShare_24 rfl rv
theorem c_X8_shareOf_0 {k : Nat} {v : Int64} (hk : k < 4) : Ct g mX8_shareOf [.ref 35, .int (nI k), .long v] (hC S) (RJl (shareF S 0 k v) S) := by
  refine ct_of rfl rfl ?_
  refine ev_iload_n (pc := 0) dX8_shareOf_0 rfl ?_
  refine ev_if_lt (pc := 1) (tgt := 19) dX8_shareOf_1 (by decide) (fun cq1 => absurd cq1 (nI_pos (by omega))) (fun cq1 => ?_)
  refine ev_iload_n (pc := 4) dX8_shareOf_4 rfl ?_
  refine ev_iconst (pc := 5) (v := nI 4) dX8_shareOf_5 (by decide) ?_
  refine ev_icmp_geN (pc := 6) (tgt := 19) (by omega) (by omega) dX8_shareOf_6 (by decide) (fun cq6 => absurd hk (by omega)) (fun cq6 => ?_)
  refine ev_aload_n (pc := 9) dX8_shareOf_9 rfl ?_
  refine get_T0_lower (pc := 10) dX8_shareOf_10 Fl_X8_18 ?_
  refine ev_iload_n (pc := 13) dX8_shareOf_13 rfl ?_
  refine ldN_T0_lower (pc := 14) dX8_shareOf_14 (by omega) rfl ?_
  refine ev_iconst (pc := 15) (v := 1) dX8_shareOf_15 (by decide) ?_
  refine ev_icmp_ge (pc := 16) (tgt := 21) dX8_shareOf_16 (by decide) (fun cq16 => ?_) (fun cq16 => ?_)
  · refine ev_lload_n (pc := 21) dX8_shareOf_21 rfl ?_
    refine ev_aload_n (pc := 22) dX8_shareOf_22 rfl ?_
    refine get_T0_upper (pc := 23) dX8_shareOf_23 Fl_X8_15 ?_
    refine ev_iload_n (pc := 26) dX8_shareOf_26 rfl ?_
    refine ldN_T0_upper (pc := 27) dX8_shareOf_27 (by omega) rfl ?_
    refine ev_i2l (pc := 28) dX8_shareOf_28 ?_
    refine ev_lmul (pc := 29) dX8_shareOf_29 ?_
    refine ev_aload_n (pc := 30) dX8_shareOf_30 rfl ?_
    refine get_T0_lower (pc := 31) dX8_shareOf_31 Fl_X8_18 ?_
    refine ev_iload_n (pc := 34) dX8_shareOf_34 rfl ?_
    refine ldN_T0_lower (pc := 35) dX8_shareOf_35 (by omega) rfl ?_
    refine ev_i2l (pc := 36) dX8_shareOf_36 ?_
    refine ev_ldiv (pc := 37) dX8_shareOf_37 (i64ne cq16) ?_
    exact ev_lret (pc := 38) dX8_shareOf_38 rfl (rl' (if_pos cq16).symm rfl)
  · refine ev_lconst (pc := 19) (v := 0) dX8_shareOf_19 (by decide) ?_
    exact ev_lret (pc := 20) dX8_shareOf_20 rfl (rl' (if_neg cq16).symm rfl)
theorem c_X8_reset_0 : Ct g mX8_reset [.ref 35] (hC S) (RV (resetS 0 S)) := by
  refine ct_of rfl rfl ?_
  refine ev_aload_n (pc := 0) dX8_reset_0 rfl ?_
  refine get_T0_price (pc := 1) dX8_reset_1 Fl_X8_9 ?_
  refine ev_iconst (pc := 4) (v := 0) dX8_reset_4 (by decide) ?_
  refine callS2V (pc := 5) dX8_reset_5 Ml_X8_24 M_J7_fill_53178 rfl rfl c_fill_T0_price ?_
  refine ev_aload_n (pc := 8) dX8_reset_8 rfl ?_
  refine ev_iconst (pc := 9) (v := nI 0) dX8_reset_9 (by decide) ?_
  refine ev_iconst (pc := 10) (v := 1) dX8_reset_10 (by decide) ?_
  refine ev_iconst (pc := 11) (v := 1) dX8_reset_11 (by decide) ?_
  refine callV3V (pc := 12) dX8_reset_12 Ml_X8_30 M_X8_setShare rfl rfl rfl rfl (c_X8_setShare_0 (by decide)) ?_
  refine ev_aload_n (pc := 15) dX8_reset_15 rfl ?_
  refine ev_iconst (pc := 16) (v := nI 1) dX8_reset_16 (by decide) ?_
  refine ev_iconst (pc := 17) (v := 1) dX8_reset_17 (by decide) ?_
  refine ev_iconst (pc := 18) (v := 1) dX8_reset_18 (by decide) ?_
  refine callV3V (pc := 19) dX8_reset_19 Ml_X8_30 M_X8_setShare rfl rfl rfl rfl (c_X8_setShare_0 (by decide)) ?_
  refine ev_aload_n (pc := 22) dX8_reset_22 rfl ?_
  refine ev_iconst (pc := 23) (v := nI 2) dX8_reset_23 (by decide) ?_
  refine ev_iconst (pc := 24) (v := 0) dX8_reset_24 (by decide) ?_
  refine ev_iconst (pc := 25) (v := 1) dX8_reset_25 (by decide) ?_
  refine callV3V (pc := 26) dX8_reset_26 Ml_X8_30 M_X8_setShare rfl rfl rfl rfl (c_X8_setShare_0 (by decide)) ?_
  refine ev_aload_n (pc := 29) dX8_reset_29 rfl ?_
  refine ev_iconst (pc := 30) (v := nI 3) dX8_reset_30 (by decide) ?_
  refine ev_iconst (pc := 31) (v := 0) dX8_reset_31 (by decide) ?_
  refine ev_iconst (pc := 32) (v := 1) dX8_reset_32 (by decide) ?_
  refine callV3V (pc := 33) dX8_reset_33 Ml_X8_30 M_X8_setShare rfl rfl rfl rfl (c_X8_setShare_0 (by decide)) ?_
  refine ev_aload_n (pc := 36) dX8_reset_36 rfl ?_
  refine ev_iconst (pc := 37) (v := -1) dX8_reset_37 (by decide) ?_
  refine put_T0_quota (pc := 38) dX8_reset_38 Fp_X8_34 ?_
  refine ev_aload_n (pc := 41) dX8_reset_41 rfl ?_
  refine ev_iconst (pc := 42) (v := 0) dX8_reset_42 (by decide) ?_
  refine put_T0_clauses (pc := 43) dX8_reset_43 Fp_X8_38 ?_
  exact ev_ret (pc := 46) dX8_reset_46 rfl rv
theorem c_X8_setShare_1 {k : Nat} {x y : Int32} (hk : k < 4) : Ct g mX8_setShare [.ref 39, .int (nI k), .int x, .int y] (hC S) (RV (shareSet 1 k x y S)) := by
  refine ct_of rfl rfl ?_
  refine ev_iload_n (pc := 0) dX8_setShare_0 rfl ?_
  refine ev_if_lt (pc := 1) (tgt := 9) dX8_setShare_1 (by decide) (fun cq1 => absurd cq1 (nI_pos (by omega))) (fun cq1 => ?_)
  refine ev_iload_n (pc := 4) dX8_setShare_4 rfl ?_
  refine ev_iconst (pc := 5) (v := nI 4) dX8_setShare_5 (by decide) ?_
  refine ev_icmp_ltN (pc := 6) (tgt := 10) (by omega) (by omega) dX8_setShare_6 (by decide) (fun cq6 => ?_) (fun cq6 => absurd hk cq6)
  refine ev_aload_n (pc := 10) dX8_setShare_10 rfl ?_
  refine get_T1_upper (pc := 11) dX8_setShare_11 Fl_X8_15 ?_
  refine ev_iload_n (pc := 14) dX8_setShare_14 rfl ?_
  refine ev_iload_n (pc := 15) dX8_setShare_15 rfl ?_
  refine asN_T1_upper (pc := 16) dX8_setShare_16 (by omega) ?_
  refine ev_aload_n (pc := 17) dX8_setShare_17 rfl ?_
  refine get_T1_lower (pc := 18) dX8_setShare_18 Fl_X8_18 ?_
  refine ev_iload_n (pc := 21) dX8_setShare_21 rfl ?_
  refine ev_iload_n (pc := 22) dX8_setShare_22 rfl ?_
  refine asN_T1_lower (pc := 23) dX8_setShare_23 (by omega) ?_
  exact ev_ret (pc := 24) dX8_setShare_24 rfl rv
theorem c_X8_shareOf_1 {k : Nat} {v : Int64} (hk : k < 4) : Ct g mX8_shareOf [.ref 39, .int (nI k), .long v] (hC S) (RJl (shareF S 1 k v) S) := by
  refine ct_of rfl rfl ?_
  refine ev_iload_n (pc := 0) dX8_shareOf_0 rfl ?_
  refine ev_if_lt (pc := 1) (tgt := 19) dX8_shareOf_1 (by decide) (fun cq1 => absurd cq1 (nI_pos (by omega))) (fun cq1 => ?_)
  refine ev_iload_n (pc := 4) dX8_shareOf_4 rfl ?_
  refine ev_iconst (pc := 5) (v := nI 4) dX8_shareOf_5 (by decide) ?_
  refine ev_icmp_geN (pc := 6) (tgt := 19) (by omega) (by omega) dX8_shareOf_6 (by decide) (fun cq6 => absurd hk (by omega)) (fun cq6 => ?_)
  refine ev_aload_n (pc := 9) dX8_shareOf_9 rfl ?_
  refine get_T1_lower (pc := 10) dX8_shareOf_10 Fl_X8_18 ?_
  refine ev_iload_n (pc := 13) dX8_shareOf_13 rfl ?_
  refine ldN_T1_lower (pc := 14) dX8_shareOf_14 (by omega) rfl ?_
  refine ev_iconst (pc := 15) (v := 1) dX8_shareOf_15 (by decide) ?_
  refine ev_icmp_ge (pc := 16) (tgt := 21) dX8_shareOf_16 (by decide) (fun cq16 => ?_) (fun cq16 => ?_)
  · refine ev_lload_n (pc := 21) dX8_shareOf_21 rfl ?_
    refine ev_aload_n (pc := 22) dX8_shareOf_22 rfl ?_
    refine get_T1_upper (pc := 23) dX8_shareOf_23 Fl_X8_15 ?_
    refine ev_iload_n (pc := 26) dX8_shareOf_26 rfl ?_
    refine ldN_T1_upper (pc := 27) dX8_shareOf_27 (by omega) rfl ?_
    refine ev_i2l (pc := 28) dX8_shareOf_28 ?_
    refine ev_lmul (pc := 29) dX8_shareOf_29 ?_
    refine ev_aload_n (pc := 30) dX8_shareOf_30 rfl ?_
    refine get_T1_lower (pc := 31) dX8_shareOf_31 Fl_X8_18 ?_
    refine ev_iload_n (pc := 34) dX8_shareOf_34 rfl ?_
    refine ldN_T1_lower (pc := 35) dX8_shareOf_35 (by omega) rfl ?_
    refine ev_i2l (pc := 36) dX8_shareOf_36 ?_
    refine ev_ldiv (pc := 37) dX8_shareOf_37 (i64ne cq16) ?_
    exact ev_lret (pc := 38) dX8_shareOf_38 rfl (rl' (if_pos cq16).symm rfl)
  · refine ev_lconst (pc := 19) (v := 0) dX8_shareOf_19 (by decide) ?_
    exact ev_lret (pc := 20) dX8_shareOf_20 rfl (rl' (if_neg cq16).symm rfl)
theorem c_X8_reset_1 : Ct g mX8_reset [.ref 39] (hC S) (RV (resetS 1 S)) := by
  refine ct_of rfl rfl ?_
  refine ev_aload_n (pc := 0) dX8_reset_0 rfl ?_
  refine get_T1_price (pc := 1) dX8_reset_1 Fl_X8_9 ?_
  refine ev_iconst (pc := 4) (v := 0) dX8_reset_4 (by decide) ?_
  refine callS2V (pc := 5) dX8_reset_5 Ml_X8_24 M_J7_fill_53178 rfl rfl c_fill_T1_price ?_
  refine ev_aload_n (pc := 8) dX8_reset_8 rfl ?_
  refine ev_iconst (pc := 9) (v := nI 0) dX8_reset_9 (by decide) ?_
  refine ev_iconst (pc := 10) (v := 1) dX8_reset_10 (by decide) ?_
  refine ev_iconst (pc := 11) (v := 1) dX8_reset_11 (by decide) ?_
  refine callV3V (pc := 12) dX8_reset_12 Ml_X8_30 M_X8_setShare rfl rfl rfl rfl (c_X8_setShare_1 (by decide)) ?_
  refine ev_aload_n (pc := 15) dX8_reset_15 rfl ?_
  refine ev_iconst (pc := 16) (v := nI 1) dX8_reset_16 (by decide) ?_
  refine ev_iconst (pc := 17) (v := 1) dX8_reset_17 (by decide) ?_
  refine ev_iconst (pc := 18) (v := 1) dX8_reset_18 (by decide) ?_
  refine callV3V (pc := 19) dX8_reset_19 Ml_X8_30 M_X8_setShare rfl rfl rfl rfl (c_X8_setShare_1 (by decide)) ?_
  refine ev_aload_n (pc := 22) dX8_reset_22 rfl ?_
  refine ev_iconst (pc := 23) (v := nI 2) dX8_reset_23 (by decide) ?_
  refine ev_iconst (pc := 24) (v := 0) dX8_reset_24 (by decide) ?_
  refine ev_iconst (pc := 25) (v := 1) dX8_reset_25 (by decide) ?_
  refine callV3V (pc := 26) dX8_reset_26 Ml_X8_30 M_X8_setShare rfl rfl rfl rfl (c_X8_setShare_1 (by decide)) ?_
  refine ev_aload_n (pc := 29) dX8_reset_29 rfl ?_
  refine ev_iconst (pc := 30) (v := nI 3) dX8_reset_30 (by decide) ?_
  refine ev_iconst (pc := 31) (v := 0) dX8_reset_31 (by decide) ?_
  refine ev_iconst (pc := 32) (v := 1) dX8_reset_32 (by decide) ?_
  refine callV3V (pc := 33) dX8_reset_33 Ml_X8_30 M_X8_setShare rfl rfl rfl rfl (c_X8_setShare_1 (by decide)) ?_
  refine ev_aload_n (pc := 36) dX8_reset_36 rfl ?_
  refine ev_iconst (pc := 37) (v := -1) dX8_reset_37 (by decide) ?_
  refine put_T1_quota (pc := 38) dX8_reset_38 Fp_X8_34 ?_
  refine ev_aload_n (pc := 41) dX8_reset_41 rfl ?_
  refine ev_iconst (pc := 42) (v := 0) dX8_reset_42 (by decide) ?_
  refine put_T1_clauses (pc := 43) dX8_reset_43 Fp_X8_38 ?_
  exact ev_ret (pc := 46) dX8_reset_46 rfl rv
end TM
