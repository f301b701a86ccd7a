section RD2
variable {g : GG} {S : St}
/-- how many lie ahead of the beginning -/
def lcF (pl : Nat → Int32) (bg : Int32) : Nat → Nat → Nat
  | 0, k => k
  | r + 1, k => if bg ≤ pl k then k else lcF pl bg r (k + 1)
theorem lcF_le (pl : Nat → Int32) (bg : Int32) : ∀ r k, lcF pl bg r k ≤ k + r
  | 0, k => Nat.le_refl _
  | r + 1, k => by
    unfold lcF
    split
    · omega
    · have := lcF_le pl bg r (k + 1); omega
def goAB (l r a b : Nat) (X : St) : St := goS l r a b 1 (goS l r a b 0 X)
theorem goAB_eq (l r a b : Nat) (X : St) : eqA (goAB l r a b X) X := (goS_eq l r a b 1 _).tr (goS_eq l r a b 0 X)
def goA (l r a : Nat) (X : St) : St := it (goAB l r a) (r + 1) X
theorem goA_eq (l r a : Nat) (X : St) : eqA (goA l r a X) X := eqA.it (goAB_eq l r a) _ _
def walk0 (bg : Int32) (n : Nat) (S : St) : St :=
  let l := lcF (S.2.1 14) bg n 0
  let X1 := setI (setI (setI S 13 bg) 14 (nI l)) 15 (nI (n - l))
  let X2 := setA X1 16 (fillF 2754 1000000 (X1.2.1 16))
  let X3 := setA X2 17 (fillF 17 1000000 (X2.2.1 17))
  setA X3 16 (upd (X3.2.1 16) 0 0)
def walkS (bg : Int32) (n : Nat) (S : St) : St :=
  let l := lcF (S.2.1 14) bg n 0
  it (goA l (n - l)) (l + 1) (walk0 bg n S)
theorem setI_set (S : St) (n : Nat) (x y : Int32) : setI (setI S n x) n y = setI S n y := by
  unfold setI
  congr 1
  funext j
  simp only [va_up]
  split <;> rfl
theorem wk_left {bg : Int32} {n : Nat} (hs : S.1 12 = nI n) (hn : n ≤ 16) (Post : Option Value → List va_E → Prop) (k : Ev g mX6_walk 50 [(0, .ref 30), (1, .int bg)] [] (hC (setI (setI S 13 bg) 14 (nI (lcF (S.2.1 14) bg n 0)))) Post) : Ev g mX6_walk 0 [(0, .ref 30), (1, .int bg)] [] (hC S) Post := by
  have L : ∀ (r j : Nat), j + r = n → Ev g mX6_walk 50 [(0, .ref 30), (1, .int bg)] [] (hC (setI (setI S 13 bg) 14 (nI (lcF (S.2.1 14) bg r j)))) Post → Ev g mX6_walk 10 [(0, .ref 30), (1, .int bg)] [] (hC (setI (setI S 13 bg) 14 (nI j))) Post := by
    intro r
    induction r with
    | zero =>
      intro j hj k
      refine ev_aload_n (pc := 10) dX6_walk_10 rfl ?_
      refine get_RD_left (pc := 11) dX6_walk_11 Fl_X6_31 (show _ = nI j from rfl) ?_
      refine ev_aload_n (pc := 14) dX6_walk_14 rfl ?_
      refine get_RD_size (pc := 15) dX6_walk_15 Fl_X6_24 hs ?_
      refine ev_icmp_geN (pc := 18) (tgt := 50) (by omega) (by omega) dX6_walk_18 (by decide) (fun cq18 => ?_) (fun cq18 => absurd (show n ≤ j by omega) cq18)
      exact k
    | succ r ih =>
      intro j hj k
      unfold lcF at k
      refine ev_aload_n (pc := 10) dX6_walk_10 rfl ?_
      refine get_RD_left (pc := 11) dX6_walk_11 Fl_X6_31 (show _ = nI j from rfl) ?_
      refine ev_aload_n (pc := 14) dX6_walk_14 rfl ?_
      refine get_RD_size (pc := 15) dX6_walk_15 Fl_X6_24 hs ?_
      refine ev_icmp_geN (pc := 18) (tgt := 50) (by omega) (by omega) dX6_walk_18 (by decide) (fun cq18 => absurd cq18 (by omega)) (fun cq18 => ?_)
      refine ev_aload_n (pc := 21) dX6_walk_21 rfl ?_
      refine get_RD_place (pc := 22) dX6_walk_22 Fl_X6_9 ?_
      refine ev_aload_n (pc := 25) dX6_walk_25 rfl ?_
      refine get_RD_left (pc := 26) dX6_walk_26 Fl_X6_31 (show _ = nI j from rfl) ?_
      refine ldN_RD_place (pc := 29) dX6_walk_29 (by omega) rfl ?_
      refine ev_aload_n (pc := 30) dX6_walk_30 rfl ?_
      refine get_RD_begin (pc := 31) dX6_walk_31 Fl_X6_28 (show _ = bg from rfl) ?_
      refine ev_icmp_ge (pc := 34) (tgt := 50) dX6_walk_34 (by decide) (fun cq34 => ?_) (fun cq34 => ?_)
      · have cq34 : bg ≤ S.2.1 14 j := cq34
        rw [if_pos cq34] at k
        exact k
      · have cq34 : ¬ bg ≤ S.2.1 14 j := cq34
        rw [if_neg cq34] at k
        refine ev_aload_n (pc := 37) dX6_walk_37 rfl ?_
        refine ev_dup (pc := 38) dX6_walk_38 rfl ?_
        refine get_RD_left (pc := 39) dX6_walk_39 Fl_X6_31 (show _ = nI j from rfl) ?_
        refine ev_iconst (pc := 42) (v := 1) dX6_walk_42 (by decide) ?_
        refine ev_iadd (pc := 43) dX6_walk_43 ?_
        rw [nI_1]
        refine put_RD_left (pc := 44) dX6_walk_44 Fp_X6_31 ?_
        refine ev_goto (pc := 47) (tgt := 10) dX6_walk_47 (by decide) ?_
        rw [setI_set]
        exact ih (j + 1) (by omega) k
  refine ev_aload_n (pc := 0) dX6_walk_0 rfl ?_
  refine ev_iload_n (pc := 1) dX6_walk_1 rfl ?_
  refine put_RD_begin (pc := 2) dX6_walk_2 Fp_X6_28 ?_
  refine ev_aload_n (pc := 5) dX6_walk_5 rfl ?_
  refine ev_iconst (pc := 6) (v := nI 0) dX6_walk_6 (by decide) ?_
  refine put_RD_left (pc := 7) dX6_walk_7 Fp_X6_31 ?_
  exact L n 0 (by omega) k
theorem wk_mid {bg : Int32} {n l : Nat} (hs : S.1 12 = nI n) (hn : n ≤ 16) (hl : S.1 14 = nI l) (hln : l ≤ n) (Post : Option Value → List va_E → Prop) (k : Ev g mX6_walk 97 [(0, .ref 30), (1, .int bg), (2, .int (nI 0))] [] (hC (
    let X1 := setI S 15 (nI (n - l))
    let X2 := setA X1 16 (fillF 2754 1000000 (X1.2.1 16))
    let X3 := setA X2 17 (fillF 17 1000000 (X2.2.1 17))
    setA X3 16 (upd (X3.2.1 16) 0 0))) Post) : Ev g mX6_walk 50 [(0, .ref 30), (1, .int bg)] [] (hC S) Post := by
  refine ev_aload_n (pc := 50) dX6_walk_50 rfl ?_
  refine ev_aload_n (pc := 51) dX6_walk_51 rfl ?_
  refine get_RD_size (pc := 52) dX6_walk_52 Fl_X6_24 hs ?_
  refine ev_aload_n (pc := 55) dX6_walk_55 rfl ?_
  refine get_RD_left (pc := 56) dX6_walk_56 Fl_X6_31 hl ?_
  refine ev_isub (pc := 59) dX6_walk_59 ?_
  rw [pk_sub hln]
  refine put_RD_right (pc := 60) dX6_walk_60 Fp_X6_34 ?_
  refine ev_aload_n (pc := 63) dX6_walk_63 rfl ?_
  refine get_RD_earliest (pc := 64) dX6_walk_64 Fl_X6_18 ?_
  refine ev_ldc (pc := 67) dX6_walk_67 Cn_X6_37 ?_
  refine callS2V (pc := 69) dX6_walk_69 Ml_X6_38 M_J7_fill_53178 rfl rfl c_fill_RD_earliest ?_
  refine ev_aload_n (pc := 72) dX6_walk_72 rfl ?_
  refine get_RD_hourOfCount (pc := 73) dX6_walk_73 Fl_X6_21 ?_
  refine ev_ldc (pc := 76) dX6_walk_76 Cn_X6_37 ?_
  refine callS2V (pc := 78) dX6_walk_78 Ml_X6_38 M_J7_fill_53178 rfl rfl c_fill_RD_hourOfCount ?_
  refine ev_aload_n (pc := 81) dX6_walk_81 rfl ?_
  refine get_RD_earliest (pc := 82) dX6_walk_82 Fl_X6_18 ?_
  refine ev_aload_n (pc := 85) dX6_walk_85 rfl ?_
  refine ev_iconst (pc := 86) (v := nI 0) dX6_walk_86 (by decide) ?_
  refine ev_iconst (pc := 87) (v := nI 0) dX6_walk_87 (by decide) ?_
  refine ev_iconst (pc := 88) (v := nI 0) dX6_walk_88 (by decide) ?_
  refine ev_iconst (pc := 89) (v := nI 0) dX6_walk_89 (by decide) ?_
  refine callV4I (pc := 90) dX6_walk_90 Ml_X6_44 M_X6_cellOf rfl rfl rfl rfl (c_X6_cellOf (r := n - l) rfl) ?_
  refine ev_iconst (pc := 93) (v := 0) dX6_walk_93 (by decide) ?_
  rw [show cellN (n - l) 0 0 0 0 = 0 by simp [cellN]]
  refine asN_RD_earliest (pc := 94) dX6_walk_94 (by omega) ?_
  refine ev_iconst (pc := 95) (v := nI 0) dX6_walk_95 (by decide) ?_
  refine ev_istore_n (pc := 96) (lv' := [(0, .ref 30), (1, .int _), (2, .int _)]) dX6_walk_96 (Nat.le_of_ble_eq_true rfl) rfl ?_
  exact k
theorem wk_in {bg : Int32} {l r a : Nat} (hR : Rs S l r) (ha : a ≤ l) (Post : Option Value → List va_E → Prop) (k : Ev g mX6_walk 97 [(0, .ref 30), (1, .int bg), (2, .int (nI (a + 1)))] [] (hC (goA l r a S)) Post) : Ev g mX6_walk 97 [(0, .ref 30), (1, .int bg), (2, .int (nI a))] [] (hC S) Post := by
  have L : ∀ b, b ≤ r + 1 → Ev g mX6_walk 107 [(0, .ref 30), (1, .int bg), (2, .int (nI a)), (3, .int (nI b))] [] (hC (it (goAB l r a) b S)) Post := by
    refine loop_up _ ?_ ?_
    · obtain ⟨hl, hr, hlr⟩ := hR.eq (eqA.it (goAB_eq l r a) (r + 1) S)
      refine ev_iload_n (pc := 107) dX6_walk_107 rfl ?_
      refine ev_aload_n (pc := 108) dX6_walk_108 rfl ?_
      refine get_RD_right (pc := 109) dX6_walk_109 Fl_X6_34 hr ?_
      refine ev_icmp_gtN (pc := 112) (tgt := 135) (by omega) (by omega) dX6_walk_112 (by decide) (fun cq112 => ?_) (fun cq112 => absurd (show r < r + 1 by omega) cq112)
      refine ev_iincN (pc := 135) (lv' := [(0, .ref 30), (1, .int _), (2, .int _), (3, .int _)]) dX6_walk_135 rfl (Nat.le_of_ble_eq_true rfl) rfl ?_
      refine ev_goto (pc := 138) (tgt := 97) dX6_walk_138 (by decide) ?_
      exact ev_keep [0, 1, 2] k
    · intro b hb ih
      have hR' := hR.eq (eqA.it (goAB_eq l r a) b S)
      rw [it_s] at ih
      generalize it (goAB l r a) b S = X at *
      obtain ⟨hl, hr, hlr⟩ := id hR'
      refine ev_iload_n (pc := 107) dX6_walk_107 rfl ?_
      refine ev_aload_n (pc := 108) dX6_walk_108 rfl ?_
      refine get_RD_right (pc := 109) dX6_walk_109 Fl_X6_34 hr ?_
      refine ev_icmp_gtN (pc := 112) (tgt := 135) (by omega) (by omega) dX6_walk_112 (by decide) (fun cq112 => absurd cq112 (by omega)) (fun cq112 => ?_)
      refine ev_aload_n (pc := 115) dX6_walk_115 rfl ?_
      refine ev_iload_n (pc := 116) dX6_walk_116 rfl ?_
      refine ev_iload_n (pc := 117) dX6_walk_117 rfl ?_
      refine ev_iconst (pc := 118) (v := nI 0) dX6_walk_118 (by decide) ?_
      refine callV3V (pc := 119) dX6_walk_119 Ml_X6_48 M_X6_goOnFrom rfl rfl rfl rfl (c_X6_goOnFrom hR' ha (by omega) (by decide)) ?_
      refine ev_aload_n (pc := 122) dX6_walk_122 rfl ?_
      refine ev_iload_n (pc := 123) dX6_walk_123 rfl ?_
      refine ev_iload_n (pc := 124) dX6_walk_124 rfl ?_
      refine ev_iconst (pc := 125) (v := nI 1) dX6_walk_125 (by decide) ?_
      refine callV3V (pc := 126) dX6_walk_126 Ml_X6_48 M_X6_goOnFrom rfl rfl rfl rfl (c_X6_goOnFrom (hR'.eq (goS_eq l r a b 0 X)) ha (by omega) (by decide)) ?_
      refine ev_iincN (pc := 129) (lv' := [(0, .ref 30), (1, .int _), (2, .int _), (3, .int _)]) dX6_walk_129 rfl (Nat.le_of_ble_eq_true rfl) rfl ?_
      refine ev_goto (pc := 132) (tgt := 107) dX6_walk_132 (by decide) ?_
      exact ih
  obtain ⟨hl, hr, hlr⟩ := hR
  have L0 := L 0 (Nat.zero_le _)
  rw [it_0] at L0
  refine ev_iload_n (pc := 97) dX6_walk_97 rfl ?_
  refine ev_aload_n (pc := 98) dX6_walk_98 rfl ?_
  refine get_RD_left (pc := 99) dX6_walk_99 Fl_X6_31 hl ?_
  refine ev_icmp_gtN (pc := 102) (tgt := 141) (by omega) (by omega) dX6_walk_102 (by decide) (fun cq102 => absurd cq102 (by omega)) (fun cq102 => ?_)
  refine ev_iconst (pc := 105) (v := nI 0) dX6_walk_105 (by decide) ?_
  refine ev_istore_n (pc := 106) (lv' := [(0, .ref 30), (1, .int _), (2, .int _), (3, .int _)]) dX6_walk_106 (Nat.le_of_ble_eq_true rfl) rfl ?_
  exact L0
theorem wk_out {bg : Int32} {l r : Nat} (hR : Rs S l r) : Ev g mX6_walk 97 [(0, .ref 30), (1, .int bg), (2, .int (nI 0))] [] (hC S) (RV (it (goA l r) (l + 1) S)) := by
  have L : ∀ a, a ≤ l + 1 → Ev g mX6_walk 97 [(0, .ref 30), (1, .int bg), (2, .int (nI a))] [] (hC (it (goA l r) a S)) (RV (it (goA l r) (l + 1) S)) := by
    refine loop_up _ ?_ ?_
    · obtain ⟨hl, hr, hlr⟩ := hR.eq (eqA.it (goA_eq l r) (l + 1) S)
      refine ev_iload_n (pc := 97) dX6_walk_97 rfl ?_
      refine ev_aload_n (pc := 98) dX6_walk_98 rfl ?_
      refine get_RD_left (pc := 99) dX6_walk_99 Fl_X6_31 hl ?_
      refine ev_icmp_gtN (pc := 102) (tgt := 141) (by omega) (by omega) dX6_walk_102 (by decide) (fun cq102 => ?_) (fun cq102 => absurd (show l < l + 1 by omega) cq102)
      exact ev_ret (pc := 141) dX6_walk_141 rfl rv
    · intro a ha ih
      exact wk_in (hR.eq (eqA.it (goA_eq l r) a S)) (by omega) _ ih
  have L0 := L 0 (Nat.zero_le _)
  rw [it_0] at L0
  exact L0
theorem c_X6_walk {bg : Int32} {n : Nat} (hs : S.1 12 = nI n) (hn : n ≤ 16) : Ct g mX6_walk [.ref 30, .int bg] (hC S) (RV (walkS bg n S)) := by
  have hl := lcF_le (S.2.1 14) bg n 0
  have h : Ev g mX6_walk 97 [(0, .ref 30), (1, .int bg), (2, .int (nI 0))] [] (hC (walk0 bg n S)) (RV (walkS bg n S)) := wk_out (S := walk0 bg n S) (l := lcF (S.2.1 14) bg n 0) (r := n - lcF (S.2.1 14) bg n 0) ⟨rfl, rfl, by omega⟩
  have h2 := wk_mid (g := g) (S := setI (setI S 13 bg) 14 (nI (lcF (S.2.1 14) bg n 0))) (bg := bg) (n := n) (l := lcF (S.2.1 14) bg n 0) hs hn rfl (by omega) _ h
  exact ct_of rfl rfl (wk_left hs hn _ h2)
def mostF (h : Nat → Int32) : Nat → Nat
  | 0 => 0
  | k + 1 => if h (k + 1) = 1000000 then mostF h k else k + 1
theorem mostF_le (h : Nat → Int32) : ∀ k, mostF h k ≤ k
  | 0 => Nat.le_refl _
  | k + 1 => by
    unfold mostF
    have := mostF_le h k
    split <;> omega
theorem c_X6_mostMet {n : Nat} (hs : S.1 12 = nI n) (hn : n ≤ 16) : Ct g mX6_mostMet [.ref 30] (hC S) (RI (nI (mostF (S.2.1 17) n)) S) := by
  have L : ∀ k, k ≤ n → Ev g mX6_mostMet 4 [(0, .ref 30), (1, .int (nI (mostF (S.2.1 17) k))), (2, .int (nI (k + 1)))] [] (hC S) (RI (nI (mostF (S.2.1 17) n)) S) := by
    refine loop_up n ?_ ?_
    · skip
      refine ev_iload_n (pc := 4) dX6_mostMet_4 rfl ?_
      refine ev_aload_n (pc := 5) dX6_mostMet_5 rfl ?_
      refine get_RD_size (pc := 6) dX6_mostMet_6 Fl_X6_24 hs ?_
      refine ev_icmp_gtN (pc := 9) (tgt := 31) (by omega) (by omega) dX6_mostMet_9 (by decide) (fun cq9 => ?_) (fun cq9 => absurd (show n < n + 1 by omega) cq9)
      refine ev_iload_n (pc := 31) dX6_mostMet_31 rfl ?_
      exact ev_iret (pc := 32) dX6_mostMet_32 rfl rfl ri
    · intro k hk ih
      rw [mostF] at ih
      refine ev_iload_n (pc := 4) dX6_mostMet_4 rfl ?_
      refine ev_aload_n (pc := 5) dX6_mostMet_5 rfl ?_
      refine get_RD_size (pc := 6) dX6_mostMet_6 Fl_X6_24 hs ?_
      refine ev_icmp_gtN (pc := 9) (tgt := 31) (by omega) (by omega) dX6_mostMet_9 (by decide) (fun cq9 => absurd cq9 (by omega)) (fun cq9 => ?_)
      refine ev_aload_n (pc := 12) dX6_mostMet_12 rfl ?_
      refine get_RD_hourOfCount (pc := 13) dX6_mostMet_13 Fl_X6_21 ?_
      refine ev_iload_n (pc := 16) dX6_mostMet_16 rfl ?_
      refine ldN_RD_hourOfCount (pc := 17) dX6_mostMet_17 (by omega) rfl ?_
      refine ev_ldc (pc := 18) dX6_mostMet_18 Cn_X6_37 ?_
      refine ev_icmp_eq (pc := 20) (tgt := 25) dX6_mostMet_20 (by decide) (fun cq20 => ?_) (fun cq20 => ?_)
      · rw [if_pos cq20] at ih
        refine ev_iincN (pc := 25) (lv' := [(0, .ref 30), (1, .int _), (2, .int _)]) dX6_mostMet_25 rfl (Nat.le_of_ble_eq_true rfl) rfl ?_
        refine ev_goto (pc := 28) (tgt := 4) dX6_mostMet_28 (by decide) ?_
        exact ih
      · rw [if_neg cq20] at ih
        refine ev_iload_n (pc := 23) dX6_mostMet_23 rfl ?_
        refine ev_istore_n (pc := 24) (lv' := [(0, .ref 30), (1, .int _), (2, .int _)]) dX6_mostMet_24 (Nat.le_of_ble_eq_true rfl) rfl ?_
        refine ev_iincN (pc := 25) (lv' := [(0, .ref 30), (1, .int _), (2, .int _)]) dX6_mostMet_25 rfl (Nat.le_of_ble_eq_true rfl) rfl ?_
        refine ev_goto (pc := 28) (tgt := 4) dX6_mostMet_28 (by decide) ?_
        exact ih
  refine ct_of rfl rfl ?_
  refine ev_iconst (pc := 0) (v := nI 0) dX6_mostMet_0 (by decide) ?_
  refine ev_istore_n (pc := 1) (lv' := [(0, .ref 30), (1, .int _)]) dX6_mostMet_1 (Nat.le_of_ble_eq_true rfl) rfl ?_
  refine ev_iconst (pc := 2) (v := nI 1) dX6_mostMet_2 (by decide) ?_
  refine ev_istore_n (pc := 3) (lv' := [(0, .ref 30), (1, .int _), (2, .int _)]) dX6_mostMet_3 (Nat.le_of_ble_eq_true rfl) rfl ?_
  exact L 0 (Nat.zero_le _)
def fhF (h : Nat → Int32) : Nat → Nat → Int32 → Int32
  | 0, _, a => a
  | r + 1, k, a => fhF h r (k + 1) (if h k < a then h k else a)
theorem c_X6_firstHourWith {n m : Nat} (hs : S.1 12 = nI n) (hn : n ≤ 16) (hm : m ≤ n) : Ct g mX6_firstHourWith [.ref 30, .int (nI m)] (hC S) (RI (fhF (S.2.1 17) (n + 1 - m) m 1000000) S) := by
  have L : ∀ (r k : Nat) (a : Int32), k + r = n + 1 → Ev g mX6_firstHourWith 5 [(0, .ref 30), (1, .int (nI m)), (2, .int a), (3, .int (nI k))] [] (hC S) (RI (fhF (S.2.1 17) r k a) S) := by
    intro r
    induction r with
    | zero =>
      intro k a hk
      refine ev_iload_n (pc := 5) dX6_firstHourWith_5 rfl ?_
      refine ev_aload_n (pc := 6) dX6_firstHourWith_6 rfl ?_
      refine get_RD_size (pc := 7) dX6_firstHourWith_7 Fl_X6_24 hs ?_
      refine ev_icmp_gtN (pc := 10) (tgt := 30) (by omega) (by omega) dX6_firstHourWith_10 (by decide) (fun cq10 => ?_) (fun cq10 => absurd (show n < k by omega) cq10)
      refine ev_iload_n (pc := 30) dX6_firstHourWith_30 rfl ?_
      exact ev_iret (pc := 31) dX6_firstHourWith_31 rfl rfl ri
    | succ r ih =>
      intro k a hk
      unfold fhF
      refine ev_iload_n (pc := 5) dX6_firstHourWith_5 rfl ?_
      refine ev_aload_n (pc := 6) dX6_firstHourWith_6 rfl ?_
      refine get_RD_size (pc := 7) dX6_firstHourWith_7 Fl_X6_24 hs ?_
      refine ev_icmp_gtN (pc := 10) (tgt := 30) (by omega) (by omega) dX6_firstHourWith_10 (by decide) (fun cq10 => absurd cq10 (by omega)) (fun cq10 => ?_)
      refine ev_iload_n (pc := 13) dX6_firstHourWith_13 rfl ?_
      refine ev_aload_n (pc := 14) dX6_firstHourWith_14 rfl ?_
      refine get_RD_hourOfCount (pc := 15) dX6_firstHourWith_15 Fl_X6_21 ?_
      refine ev_iload_n (pc := 18) dX6_firstHourWith_18 rfl ?_
      refine ldN_RD_hourOfCount (pc := 19) dX6_firstHourWith_19 (by omega) rfl ?_
      refine ev_mmin (pc := 20) dX6_firstHourWith_20 Mx_X6_56 Mxs_minI In_Math Mxc_minI rfl rfl ?_
      refine ev_istore_n (pc := 23) (lv' := [(0, .ref 30), (1, .int _), (2, .int _), (3, .int _)]) dX6_firstHourWith_23 (Nat.le_of_ble_eq_true rfl) rfl ?_
      refine ev_iincN (pc := 24) (lv' := [(0, .ref 30), (1, .int _), (2, .int _), (3, .int _)]) dX6_firstHourWith_24 rfl (Nat.le_of_ble_eq_true rfl) rfl ?_
      refine ev_goto (pc := 27) (tgt := 5) dX6_firstHourWith_27 (by decide) ?_
      exact ih _ _ (by omega)
  refine ct_of rfl rfl ?_
  refine ev_ldc (pc := 0) dX6_firstHourWith_0 Cn_X6_37 ?_
  refine ev_istore_n (pc := 2) (lv' := [(0, .ref 30), (1, .int _), (2, .int _)]) dX6_firstHourWith_2 (Nat.le_of_ble_eq_true rfl) rfl ?_
  refine ev_iload_n (pc := 3) dX6_firstHourWith_3 rfl ?_
  refine ev_istore_n (pc := 4) (lv' := [(0, .ref 30), (1, .int _), (2, .int _), (3, .int _)]) dX6_firstHourWith_4 (Nat.le_of_ble_eq_true rfl) rfl ?_
  exact L _ _ _ (by omega)
/-- room for one at its place: what stands behind goes on by one -/
def shS (k : Nat) (X : St) : St :=
  let Y := setA X 14 (upd (X.2.1 14) (k + 1) (X.2.1 14 k))
  setA Y 15 (upd (Y.2.1 15) (k + 1) (Y.2.1 15 k))
def insP (p : Int32) : Nat → St → Nat × St
  | 0, X => (0, X)
  | k + 1, X => if X.2.1 14 k ≤ p then (k + 1, X) else insP p k (shS k X)
def addV (n : Nat) (p h : Int32) (S : St) : St :=
  let q := insP p n S
  let Y := setA q.2 14 (upd (q.2.2.1 14) q.1 p)
  setI (setA Y 15 (upd (Y.2.1 15) q.1 h)) 12 (nI n + 1)
theorem insP_le (p : Int32) : ∀ k X, (insP p k X).1 ≤ k ∧ (insP p k X).2.1 = X.1
  | 0, X => ⟨Nat.le_refl _, rfl⟩
  | k + 1, X => by
    unfold insP
    split
    · exact ⟨Nat.le_refl _, rfl⟩
    · have := insP_le p k (shS k X)
      exact ⟨by omega, this.2⟩
theorem c_X6_add {p h : Int32} {n : Nat} (hs : S.1 12 = nI n) (hn : n < 16) : Ct g mX6_add [.ref 30, .int p, .int h] (hC S) (RV (addV n p h S)) := by
  have L : ∀ (k : Nat) (X : St) (Post : Option Value → List va_E → Prop), k ≤ n → Ev g mX6_add 65 [(0, .ref 30), (1, .int p), (2, .int h), (3, .int (nI (insP p k X).1))] [] (hC (insP p k X).2) Post → Ev g mX6_add 15 [(0, .ref 30), (1, .int p), (2, .int h), (3, .int (nI k))] [] (hC X) Post := by
    intro k
    induction k with
    | zero =>
      intro X Post hk ih
      refine ev_iload_n (pc := 15) dX6_add_15 rfl ?_
      refine ev_if_leN (pc := 16) (tgt := 65) (by omega) dX6_add_16 (by decide) (fun cq16 => ?_) (fun cq16 => absurd rfl cq16)
      exact ih
    | succ k ihk =>
      intro X Post hk ih
      unfold insP at ih
      refine ev_iload_n (pc := 15) dX6_add_15 rfl ?_
      refine ev_if_leN (pc := 16) (tgt := 65) (by omega) dX6_add_16 (by decide) (fun cq16 => absurd cq16 (by omega)) (fun cq16 => ?_)
      refine ev_aload_n (pc := 19) dX6_add_19 rfl ?_
      refine get_RD_place (pc := 20) dX6_add_20 Fl_X6_9 ?_
      refine ev_iload_n (pc := 23) dX6_add_23 rfl ?_
      refine ev_iconst (pc := 24) (v := 1) dX6_add_24 (by decide) ?_
      refine ev_isub (pc := 25) dX6_add_25 ?_
      rw [nI_pred]
      refine ldN_RD_place (pc := 26) dX6_add_26 (by omega) rfl ?_
      refine ev_iload_n (pc := 27) dX6_add_27 rfl ?_
      refine ev_icmp_le (pc := 28) (tgt := 65) dX6_add_28 (by decide) (fun cq28 => ?_) (fun cq28 => ?_)
      · rw [if_pos cq28] at ih
        exact ih
      · rw [if_neg cq28] at ih
        refine ev_aload_n (pc := 31) dX6_add_31 rfl ?_
        refine get_RD_place (pc := 32) dX6_add_32 Fl_X6_9 ?_
        refine ev_iload_n (pc := 35) dX6_add_35 rfl ?_
        refine ev_aload_n (pc := 36) dX6_add_36 rfl ?_
        refine get_RD_place (pc := 37) dX6_add_37 Fl_X6_9 ?_
        refine ev_iload_n (pc := 40) dX6_add_40 rfl ?_
        refine ev_iconst (pc := 41) (v := 1) dX6_add_41 (by decide) ?_
        refine ev_isub (pc := 42) dX6_add_42 ?_
        rw [nI_pred]
        refine ldN_RD_place (pc := 43) dX6_add_43 (by omega) rfl ?_
        refine asN_RD_place (pc := 44) dX6_add_44 (by omega) ?_
        refine ev_aload_n (pc := 45) dX6_add_45 rfl ?_
        refine get_RD_hour (pc := 46) dX6_add_46 Fl_X6_15 ?_
        refine ev_iload_n (pc := 49) dX6_add_49 rfl ?_
        refine ev_aload_n (pc := 50) dX6_add_50 rfl ?_
        refine get_RD_hour (pc := 51) dX6_add_51 Fl_X6_15 ?_
        refine ev_iload_n (pc := 54) dX6_add_54 rfl ?_
        refine ev_iconst (pc := 55) (v := 1) dX6_add_55 (by decide) ?_
        refine ev_isub (pc := 56) dX6_add_56 ?_
        rw [nI_pred]
        refine ldN_RD_hour (pc := 57) dX6_add_57 (by omega) rfl ?_
        refine asN_RD_hour (pc := 58) dX6_add_58 (by omega) ?_
        refine ev_iinc (pc := 59) (lv' := [(0, .ref 30), (1, .int _), (2, .int _), (3, .int _)]) dX6_add_59 rfl (Nat.le_of_ble_eq_true rfl) rfl ?_
        refine ev_goto (pc := 62) (tgt := 15) dX6_add_62 (by decide) ?_
        rw [nI_dec]
        exact ihk _ _ (by omega) ih
  obtain ⟨h1, h2⟩ := insP_le p n S
  have hs2 : (insP p n S).2.1 12 = nI n := by rw [h2]; exact hs
  refine ct_of rfl rfl ?_
  unfold addV
  have fin : ∀ (q : Nat) (X : St), q ≤ n → X.1 12 = nI n → Ev g mX6_add 65 [(0, .ref 30), (1, .int p), (2, .int h), (3, .int (nI q))] [] (hC X) (RV (
      let Y := setA X 14 (upd (X.2.1 14) q p)
      setI (setA Y 15 (upd (Y.2.1 15) q h)) 12 (nI n + 1))) := by
    intro q X hq hs
    refine ev_aload_n (pc := 65) dX6_add_65 rfl ?_
    refine get_RD_place (pc := 66) dX6_add_66 Fl_X6_9 ?_
    refine ev_iload_n (pc := 69) dX6_add_69 rfl ?_
    refine ev_iload_n (pc := 70) dX6_add_70 rfl ?_
    refine asN_RD_place (pc := 71) dX6_add_71 (by omega) ?_
    refine ev_aload_n (pc := 72) dX6_add_72 rfl ?_
    refine get_RD_hour (pc := 73) dX6_add_73 Fl_X6_15 ?_
    refine ev_iload_n (pc := 76) dX6_add_76 rfl ?_
    refine ev_iload_n (pc := 77) dX6_add_77 rfl ?_
    refine asN_RD_hour (pc := 78) dX6_add_78 (by omega) ?_
    refine ev_aload_n (pc := 79) dX6_add_79 rfl ?_
    refine ev_dup (pc := 80) dX6_add_80 rfl ?_
    refine get_RD_size (pc := 81) dX6_add_81 Fl_X6_24 hs ?_
    refine ev_iconst (pc := 84) (v := 1) dX6_add_84 (by decide) ?_
    refine ev_iadd (pc := 85) dX6_add_85 ?_
    refine put_RD_size (pc := 86) dX6_add_86 Fp_X6_24 ?_
    exact ev_ret (pc := 89) dX6_add_89 rfl rv
  refine ev_aload_n (pc := 0) dX6_add_0 rfl ?_
  refine get_RD_size (pc := 1) dX6_add_1 Fl_X6_24 hs ?_
  refine ev_bipush (pc := 4) (v := nI 16) dX6_add_4 (by decide) ?_
  refine ev_icmp_ltN (pc := 6) (tgt := 10) (by omega) (by omega) dX6_add_6 (by decide) (fun cq6 => ?_) (fun cq6 => absurd hn cq6)
  refine ev_aload_n (pc := 10) dX6_add_10 rfl ?_
  refine get_RD_size (pc := 11) dX6_add_11 Fl_X6_24 hs ?_
  refine ev_istore_n (pc := 14) (lv' := [(0, .ref 30), (1, .int _), (2, .int _), (3, .int _)]) dX6_add_14 (Nat.le_of_ble_eq_true rfl) rfl ?_
  exact L n S _ (Nat.le_refl _) (fin _ _ h1 hs2)
end RD2
