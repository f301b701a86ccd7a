section BK3
variable {g : GG} {S : St}
def pdB (grp : Int32) (k : Nat) (p : St × Int64) : St × Int64 :=
  if p.1.2.1 0 k = grp then
    (setB p.1 7 (vp_updL (p.1.2.2.2.1 7) k (if p.1.2.2.2.1 1 k - p.1.2.2.2.1 4 k < p.2 then p.1.2.2.2.1 1 k - p.1.2.2.2.1 4 k else p.2)),
     p.2 - vp_updL (p.1.2.2.2.1 7) k (if p.1.2.2.2.1 1 k - p.1.2.2.2.1 4 k < p.2 then p.1.2.2.2.1 1 k - p.1.2.2.2.1 4 k else p.2) k)
  else p
theorem pdB_eq (grp : Int32) (k : Nat) (p : St × Int64) : eqB (pdB grp k p).1 p.1 := by
  unfold pdB
  by_cases h : p.1.2.1 0 k = grp
  · rw [if_pos h]; exact eqB.rf
  · rw [if_neg h]; exact eqB.rf
theorem pdB_eqs (grp : Int32) : ∀ (k : Nat) (p : St × Int64), eqB (it (pdB grp) k p).1 p.1
  | 0, _ => eqB.rf
  | k + 1, p => (pdB_eq grp k _).tr (pdB_eqs grp k p)
theorem pd_step {grp : Int32} {nf nc nb : Nat} (p : St × Int64) (k : Nat) (Post : Option Value → List va_E → Prop) (hk : k < nf) (hB : Bs p.1 nf nc nb) (ih : Ev g mX1_payDebts 8 [(0, .ref 17), (1, .ref 1), (2, .int grp), (3, .long (pdB grp k p).2), (5, .int (nI (k + 1)))] [] (hC (pdB grp k p).1) Post) : Ev g mX1_payDebts 8 [(0, .ref 17), (1, .ref 1), (2, .int grp), (3, .long p.2), (5, .int (nI k))] [] (hC p.1) Post := by
  obtain ⟨hs, hc, -⟩ := hB
  unfold pdB at ih
  refine ev_iload (pc := 8) dX1_payDebts_8 rfl ?_
  refine ev_aload_n (pc := 10) dX1_payDebts_10 rfl ?_
  refine get_F_size (pc := 11) dX1_payDebts_11 Fl_X1_50 hs ?_
  refine ev_icmp_geN (pc := 14) (tgt := 61) (by omega) (by omega) dX1_payDebts_14 (by decide) (fun cq14 => absurd cq14 (by omega)) (fun cq14 => ?_)
  refine ev_aload_n (pc := 17) dX1_payDebts_17 rfl ?_
  refine get_F_group (pc := 18) dX1_payDebts_18 Fl_X1_110 ?_
  refine ev_iload (pc := 21) dX1_payDebts_21 rfl ?_
  refine ldN_F_group (pc := 23) dX1_payDebts_23 (by omega) rfl ?_
  refine ev_iload_n (pc := 24) dX1_payDebts_24 rfl ?_
  refine ev_icmp_ne (pc := 25) (tgt := 55) dX1_payDebts_25 (by decide) (fun cq25 => ?_) (fun cq25 => ?_)
  · rw [if_neg cq25] at ih
    refine ev_iincN (pc := 55) (lv' := [(0, .ref 17), (1, .ref 1), (2, .int _), (3, .long _), (5, .int _)]) dX1_payDebts_55 rfl (Nat.le_of_ble_eq_true rfl) rfl ?_
    refine ev_goto (pc := 58) (tgt := 8) dX1_payDebts_58 (by decide) ?_
    exact ih
  · rw [if_pos cq25] at ih
    refine ev_aload_n (pc := 28) dX1_payDebts_28 rfl ?_
    refine get_BK_paid (pc := 29) dX1_payDebts_29 Fl_X1_33 ?_
    refine ev_iload (pc := 32) dX1_payDebts_32 rfl ?_
    refine ev_lload_n (pc := 34) dX1_payDebts_34 rfl ?_
    refine ev_aload_n (pc := 35) dX1_payDebts_35 rfl ?_
    refine ev_iload (pc := 36) dX1_payDebts_36 rfl ?_
    refine callV1L (pc := 38) dX1_payDebts_38 Ml_X1_117 M_X1_debt rfl rfl rfl rfl (c_X1_debt (by omega)) ?_
    refine ev_mmin_long (pc := 41) dX1_payDebts_41 Mx_X1_62 Mxs_minJ In_Math Mxc_minJ rfl rfl ?_
    refine asN_BK_paid (pc := 44) dX1_payDebts_44 (by omega) ?_
    refine ev_lload_n (pc := 45) dX1_payDebts_45 rfl ?_
    refine ev_aload_n (pc := 46) dX1_payDebts_46 rfl ?_
    refine get_BK_paid (pc := 47) dX1_payDebts_47 Fl_X1_33 ?_
    refine ev_iload (pc := 50) dX1_payDebts_50 rfl ?_
    refine ldN_BK_paid (pc := 52) dX1_payDebts_52 (by omega) rfl ?_
    refine ev_lsub (pc := 53) dX1_payDebts_53 ?_
    refine ev_lstore_n (pc := 54) (lv' := [(0, .ref 17), (1, .ref 1), (2, .int _), (3, .long _), (5, .int _)]) dX1_payDebts_54 (Nat.le_of_ble_eq_true rfl) rfl ?_
    refine ev_iincN (pc := 55) (lv' := [(0, .ref 17), (1, .ref 1), (2, .int _), (3, .long _), (5, .int _)]) dX1_payDebts_55 rfl (Nat.le_of_ble_eq_true rfl) rfl ?_
    refine ev_goto (pc := 58) (tgt := 8) dX1_payDebts_58 (by decide) ?_
    exact ih
theorem c_X1_payDebts {grp : Int32} {nf nc nb : Nat} (hB : Bs S nf nc nb) : Ct g mX1_payDebts [.ref 17, .ref 1, .int grp] (hC S) (RV (it (pdB grp) nf (S, S.2.2.1 2)).1) := by
  have L : ∀ (m0 : Int64) (k : Nat), k ≤ nf → Ev g mX1_payDebts 8 [(0, .ref 17), (1, .ref 1), (2, .int grp), (3, .long (it (pdB grp) k (S, m0)).2), (5, .int (nI k))] [] (hC (it (pdB grp) k (S, m0)).1) (RV (it (pdB grp) nf (S, m0)).1) := by
    intro m0
    refine loop_up nf ?_ ?_
    · obtain ⟨hs, hc, -⟩ := hB.eq (pdB_eqs grp nf (S, m0))
      refine ev_iload (pc := 8) dX1_payDebts_8 rfl ?_
      refine ev_aload_n (pc := 10) dX1_payDebts_10 rfl ?_
      refine get_F_size (pc := 11) dX1_payDebts_11 Fl_X1_50 hs ?_
      refine ev_icmp_geN (pc := 14) (tgt := 61) (by omega) (by omega) dX1_payDebts_14 (by decide) (fun cq14 => ?_) (fun cq14 => absurd (Nat.le_refl nf) cq14)
      exact ev_ret (pc := 61) dX1_payDebts_61 rfl rv
    · intro k hk ih
      exact pd_step _ k _ hk (hB.eq (pdB_eqs grp k (S, m0))) ih
  refine ct_of rfl rfl ?_
  refine ev_aload_n (pc := 0) dX1_payDebts_0 rfl ?_
  refine get_BK_givenTogether (pc := 1) dX1_payDebts_1 Fl_X1_134 rfl ?_
  refine ev_lstore_n (pc := 4) (lv' := [(0, .ref 17), (1, .ref 1), (2, .int _), (3, .long _)]) dX1_payDebts_4 (Nat.le_of_ble_eq_true rfl) rfl ?_
  refine ev_iconst (pc := 5) (v := nI 0) dX1_payDebts_5 (by decide) ?_
  refine ev_istore (pc := 6) (lv' := [(0, .ref 17), (1, .ref 1), (2, .int _), (3, .long _), (5, .int _)]) dX1_payDebts_6 (Nat.le_of_ble_eq_true rfl) rfl ?_
  exact L _ 0 (Nat.zero_le _)
def sdB (b : Nat) (grp : Int32) (k : Nat) (X : St) : St :=
  if X.2.1 0 k = grp then
    let X1 := setB X 5 (vp_updL (X.2.2.2.1 5) k (shareF X b 2 (X.2.2.2.1 2 k - X.2.2.2.1 4 k)))
    let X2 := setL X1 1 (X1.2.2.1 1 + X1.2.2.2.1 5 k)
    setL X2 0 (X2.2.2.1 0 + (X2.2.2.2.1 1 k - X2.2.2.2.1 4 k))
  else X
theorem sdB_eq (b : Nat) (grp : Int32) (k : Nat) (X : St) : eqB (sdB b grp k X) X := by
  unfold sdB
  by_cases h : X.2.1 0 k = grp
  · rw [if_pos h]; exact eqB.rf
  · rw [if_neg h]; exact eqB.rf
def sd0 (S : St) : St := setL (setL (setB S 5 (fillF 40 0 (S.2.2.2.1 5))) 0 0) 1 0
theorem sd0_eq (S : St) : eqB (sd0 S) S := eqB.rf
def standS (b : Nat) (grp : Int32) (nf : Nat) (S : St) : St :=
  let X2 := giveS nf (it (sdB b grp) nf (sd0 S))
  (it (pdB grp) nf (X2, X2.2.2.1 2)).1
theorem standS_eq (b : Nat) (grp : Int32) (nf : Nat) (S : St) : eqB (standS b grp nf S) S := (pdB_eqs grp nf _).tr ((giveS_eq nf _).tr ((eqB.it (sdB_eq b grp) nf _).tr (sd0_eq S)))
theorem sd_step_0 {grp : Int32} {nf nc nb : Nat} (X : St) (k : Nat) (Post : Option Value → List va_E → Prop) (hk : k < nf) (hB : Bs X nf nc nb) (ih : Ev g mX1_stand 21 [(0, .ref 17), (1, .ref 1), (2, .ref 35), (3, .int grp), (4, .int (nI (k + 1)))] [] (hC (sdB 0 grp k X)) Post) : Ev g mX1_stand 21 [(0, .ref 17), (1, .ref 1), (2, .ref 35), (3, .int grp), (4, .int (nI k))] [] (hC X) Post := by
  obtain ⟨hs, hc, -⟩ := hB
  unfold sdB at ih
  refine ev_iload (pc := 21) dX1_stand_21 rfl ?_
  refine ev_aload_n (pc := 23) dX1_stand_23 rfl ?_
  refine get_F_size (pc := 24) dX1_stand_24 Fl_X1_50 hs ?_
  refine ev_icmp_geN (pc := 27) (tgt := 96) (by omega) (by omega) dX1_stand_27 (by decide) (fun cq27 => absurd cq27 (by omega)) (fun cq27 => ?_)
  refine ev_aload_n (pc := 30) dX1_stand_30 rfl ?_
  refine get_F_group (pc := 31) dX1_stand_31 Fl_X1_110 ?_
  refine ev_iload (pc := 34) dX1_stand_34 rfl ?_
  refine ldN_F_group (pc := 36) dX1_stand_36 (by omega) rfl ?_
  refine ev_iload_n (pc := 37) dX1_stand_37 rfl ?_
  refine ev_icmp_ne (pc := 38) (tgt := 90) dX1_stand_38 (by decide) (fun cq38 => ?_) (fun cq38 => ?_)
  · rw [if_neg cq38] at ih
    refine ev_iincN (pc := 90) (lv' := [(0, .ref 17), (1, .ref 1), (2, .ref 35), (3, .int _), (4, .int _)]) dX1_stand_90 rfl (Nat.le_of_ble_eq_true rfl) rfl ?_
    refine ev_goto (pc := 93) (tgt := 21) dX1_stand_93 (by decide) ?_
    exact ih
  · rw [if_pos cq38] at ih
    refine ev_aload_n (pc := 41) dX1_stand_41 rfl ?_
    refine get_BK_able (pc := 42) dX1_stand_42 Fl_X1_27 ?_
    refine ev_iload (pc := 45) dX1_stand_45 rfl ?_
    refine ev_aload_n (pc := 47) dX1_stand_47 rfl ?_
    refine ev_iconst (pc := 48) (v := nI 2) dX1_stand_48 (by decide) ?_
    refine ev_aload_n (pc := 49) dX1_stand_49 rfl ?_
    refine ev_iload (pc := 50) dX1_stand_50 rfl ?_
    refine callV1L (pc := 52) dX1_stand_52 Ml_X1_113 M_X1_pay rfl rfl rfl rfl (c_X1_pay (by omega)) ?_
    refine callV2L (pc := 55) dX1_stand_55 Ml_X1_58 M_X8_shareOf rfl rfl rfl rfl (c_X8_shareOf_0 (by decide)) ?_
    refine asN_BK_able (pc := 58) dX1_stand_58 (by omega) ?_
    refine ev_aload_n (pc := 59) dX1_stand_59 rfl ?_
    refine ev_dup (pc := 60) dX1_stand_60 rfl ?_
    refine get_BK_ableTogether (pc := 61) dX1_stand_61 Fl_X1_107 rfl ?_
    refine ev_aload_n (pc := 64) dX1_stand_64 rfl ?_
    refine get_BK_able (pc := 65) dX1_stand_65 Fl_X1_27 ?_
    refine ev_iload (pc := 68) dX1_stand_68 rfl ?_
    refine ldN_BK_able (pc := 70) dX1_stand_70 (by omega) rfl ?_
    refine ev_ladd (pc := 71) dX1_stand_71 ?_
    refine put_BK_ableTogether (pc := 72) dX1_stand_72 Fp_X1_107 ?_
    refine ev_aload_n (pc := 75) dX1_stand_75 rfl ?_
    refine ev_dup (pc := 76) dX1_stand_76 rfl ?_
    refine get_BK_owedTogether (pc := 77) dX1_stand_77 Fl_X1_103 rfl ?_
    refine ev_aload_n (pc := 80) dX1_stand_80 rfl ?_
    refine ev_iload (pc := 81) dX1_stand_81 rfl ?_
    refine callV1L (pc := 83) dX1_stand_83 Ml_X1_117 M_X1_debt rfl rfl rfl rfl (c_X1_debt (by omega)) ?_
    refine ev_ladd (pc := 86) dX1_stand_86 ?_
    refine put_BK_owedTogether (pc := 87) dX1_stand_87 Fp_X1_103 ?_
    refine ev_iincN (pc := 90) (lv' := [(0, .ref 17), (1, .ref 1), (2, .ref 35), (3, .int _), (4, .int _)]) dX1_stand_90 rfl (Nat.le_of_ble_eq_true rfl) rfl ?_
    refine ev_goto (pc := 93) (tgt := 21) dX1_stand_93 (by decide) ?_
    exact ih
theorem sd_loop_0 {grp : Int32} {nf nc nb : Nat} (hB : Bs S nf nc nb) (k : Nat) (hk : k ≤ nf) (Post : Option Value → List va_E → Prop) (hx : Ev g mX1_stand 96 [(0, .ref 17), (1, .ref 1), (2, .ref 35), (3, .int grp), (4, .int (nI nf))] [] (hC (it (sdB 0 grp) nf S)) Post) : Ev g mX1_stand 21 [(0, .ref 17), (1, .ref 1), (2, .ref 35), (3, .int grp), (4, .int (nI k))] [] (hC (it (sdB 0 grp) k S)) Post := by
  revert k
  refine loop_up nf ?_ ?_
  · obtain ⟨hs, hc, -⟩ := hB.eq (eqB.it (sdB_eq 0 grp) nf S)
    refine ev_iload (pc := 21) dX1_stand_21 rfl ?_
    refine ev_aload_n (pc := 23) dX1_stand_23 rfl ?_
    refine get_F_size (pc := 24) dX1_stand_24 Fl_X1_50 hs ?_
    refine ev_icmp_geN (pc := 27) (tgt := 96) (by omega) (by omega) dX1_stand_27 (by decide) (fun cq27 => ?_) (fun cq27 => absurd (Nat.le_refl nf) cq27)
    exact hx
  · intro k hk ih
    exact sd_step_0 _ k _ hk (hB.eq (eqB.it (sdB_eq 0 grp) k S)) ih
theorem sd_end_0 {grp : Int32} {nf nc nb : Nat} (hB : Bs S nf nc nb) : Ev g mX1_stand 96 [(0, .ref 17), (1, .ref 1), (2, .ref 35), (3, .int grp), (4, .int (nI nf))] [] (hC S) (RV (it (pdB grp) nf (giveS nf S, (giveS nf S).2.2.1 2)).1) := by
  obtain ⟨hs, hc, -⟩ := id hB
  refine ev_aload_n (pc := 96) dX1_stand_96 rfl ?_
  refine ev_aload_n (pc := 97) dX1_stand_97 rfl ?_
  refine get_F_size (pc := 98) dX1_stand_98 Fl_X1_50 hs ?_
  refine callV1V (pc := 101) dX1_stand_101 Ml_X1_120 M_X1_giveEvenly rfl rfl rfl rfl (c_X1_giveEvenly hc) ?_
  refine ev_aload_n (pc := 104) dX1_stand_104 rfl ?_
  refine ev_aload_n (pc := 105) dX1_stand_105 rfl ?_
  refine ev_iload_n (pc := 106) dX1_stand_106 rfl ?_
  refine callV2V (pc := 107) dX1_stand_107 Ml_X1_124 M_X1_payDebts rfl rfl rfl rfl (c_X1_payDebts (hB.eq (giveS_eq nf _))) ?_
  exact ev_ret (pc := 110) dX1_stand_110 rfl rv
theorem c_X1_stand_0 {grp : Int32} {nf nc nb : Nat} (hB : Bs S nf nc nb) : Ct g mX1_stand [.ref 17, .ref 1, .ref 35, .int grp] (hC S) (RV (standS 0 grp nf S)) := by
  refine ct_of rfl rfl ?_
  have h2 := sd_loop_0 (hB.eq (sd0_eq S)) 0 (Nat.zero_le _) _ (sd_end_0 (g := g) (grp := grp) (hB.eq ((eqB.it (sdB_eq 0 grp) nf _).tr (sd0_eq S))))
  rw [it_0] at h2
  refine ev_aload_n (pc := 0) dX1_stand_0 rfl ?_
  refine get_BK_able (pc := 1) dX1_stand_1 Fl_X1_27 ?_
  refine ev_lconst (pc := 4) (v := 0) dX1_stand_4 (by decide) ?_
  refine callS2V (pc := 5) dX1_stand_5 Ml_X1_36 M_J7_fill_d0a16 rfl rfl c_fill_BK_able ?_
  refine ev_aload_n (pc := 8) dX1_stand_8 rfl ?_
  refine ev_lconst (pc := 9) (v := 0) dX1_stand_9 (by decide) ?_
  refine put_BK_owedTogether (pc := 10) dX1_stand_10 Fp_X1_103 ?_
  refine ev_aload_n (pc := 13) dX1_stand_13 rfl ?_
  refine ev_lconst (pc := 14) (v := 0) dX1_stand_14 (by decide) ?_
  refine put_BK_ableTogether (pc := 15) dX1_stand_15 Fp_X1_107 ?_
  refine ev_iconst (pc := 18) (v := nI 0) dX1_stand_18 (by decide) ?_
  refine ev_istore (pc := 19) (lv' := [(0, .ref 17), (1, .ref 1), (2, .ref 35), (3, .int _), (4, .int _)]) dX1_stand_19 (Nat.le_of_ble_eq_true rfl) rfl ?_
  exact h2
theorem sd_step_1 {grp : Int32} {nf nc nb : Nat} (X : St) (k : Nat) (Post : Option Value → List va_E → Prop) (hk : k < nf) (hB : Bs X nf nc nb) (ih : Ev g mX1_stand 21 [(0, .ref 17), (1, .ref 1), (2, .ref 39), (3, .int grp), (4, .int (nI (k + 1)))] [] (hC (sdB 1 grp k X)) Post) : Ev g mX1_stand 21 [(0, .ref 17), (1, .ref 1), (2, .ref 39), (3, .int grp), (4, .int (nI k))] [] (hC X) Post := by
  obtain ⟨hs, hc, -⟩ := hB
  unfold sdB at ih
  refine ev_iload (pc := 21) dX1_stand_21 rfl ?_
  refine ev_aload_n (pc := 23) dX1_stand_23 rfl ?_
  refine get_F_size (pc := 24) dX1_stand_24 Fl_X1_50 hs ?_
  refine ev_icmp_geN (pc := 27) (tgt := 96) (by omega) (by omega) dX1_stand_27 (by decide) (fun cq27 => absurd cq27 (by omega)) (fun cq27 => ?_)
  refine ev_aload_n (pc := 30) dX1_stand_30 rfl ?_
  refine get_F_group (pc := 31) dX1_stand_31 Fl_X1_110 ?_
  refine ev_iload (pc := 34) dX1_stand_34 rfl ?_
  refine ldN_F_group (pc := 36) dX1_stand_36 (by omega) rfl ?_
  refine ev_iload_n (pc := 37) dX1_stand_37 rfl ?_
  refine ev_icmp_ne (pc := 38) (tgt := 90) dX1_stand_38 (by decide) (fun cq38 => ?_) (fun cq38 => ?_)
  · rw [if_neg cq38] at ih
    refine ev_iincN (pc := 90) (lv' := [(0, .ref 17), (1, .ref 1), (2, .ref 39), (3, .int _), (4, .int _)]) dX1_stand_90 rfl (Nat.le_of_ble_eq_true rfl) rfl ?_
    refine ev_goto (pc := 93) (tgt := 21) dX1_stand_93 (by decide) ?_
    exact ih
  · rw [if_pos cq38] at ih
    refine ev_aload_n (pc := 41) dX1_stand_41 rfl ?_
    refine get_BK_able (pc := 42) dX1_stand_42 Fl_X1_27 ?_
    refine ev_iload (pc := 45) dX1_stand_45 rfl ?_
    refine ev_aload_n (pc := 47) dX1_stand_47 rfl ?_
    refine ev_iconst (pc := 48) (v := nI 2) dX1_stand_48 (by decide) ?_
    refine ev_aload_n (pc := 49) dX1_stand_49 rfl ?_
    refine ev_iload (pc := 50) dX1_stand_50 rfl ?_
    refine callV1L (pc := 52) dX1_stand_52 Ml_X1_113 M_X1_pay rfl rfl rfl rfl (c_X1_pay (by omega)) ?_
    refine callV2L (pc := 55) dX1_stand_55 Ml_X1_58 M_X8_shareOf rfl rfl rfl rfl (c_X8_shareOf_1 (by decide)) ?_
    refine asN_BK_able (pc := 58) dX1_stand_58 (by omega) ?_
    refine ev_aload_n (pc := 59) dX1_stand_59 rfl ?_
    refine ev_dup (pc := 60) dX1_stand_60 rfl ?_
    refine get_BK_ableTogether (pc := 61) dX1_stand_61 Fl_X1_107 rfl ?_
    refine ev_aload_n (pc := 64) dX1_stand_64 rfl ?_
    refine get_BK_able (pc := 65) dX1_stand_65 Fl_X1_27 ?_
    refine ev_iload (pc := 68) dX1_stand_68 rfl ?_
    refine ldN_BK_able (pc := 70) dX1_stand_70 (by omega) rfl ?_
    refine ev_ladd (pc := 71) dX1_stand_71 ?_
    refine put_BK_ableTogether (pc := 72) dX1_stand_72 Fp_X1_107 ?_
    refine ev_aload_n (pc := 75) dX1_stand_75 rfl ?_
    refine ev_dup (pc := 76) dX1_stand_76 rfl ?_
    refine get_BK_owedTogether (pc := 77) dX1_stand_77 Fl_X1_103 rfl ?_
    refine ev_aload_n (pc := 80) dX1_stand_80 rfl ?_
    refine ev_iload (pc := 81) dX1_stand_81 rfl ?_
    refine callV1L (pc := 83) dX1_stand_83 Ml_X1_117 M_X1_debt rfl rfl rfl rfl (c_X1_debt (by omega)) ?_
    refine ev_ladd (pc := 86) dX1_stand_86 ?_
    refine put_BK_owedTogether (pc := 87) dX1_stand_87 Fp_X1_103 ?_
    refine ev_iincN (pc := 90) (lv' := [(0, .ref 17), (1, .ref 1), (2, .ref 39), (3, .int _), (4, .int _)]) dX1_stand_90 rfl (Nat.le_of_ble_eq_true rfl) rfl ?_
    refine ev_goto (pc := 93) (tgt := 21) dX1_stand_93 (by decide) ?_
    exact ih
theorem sd_loop_1 {grp : Int32} {nf nc nb : Nat} (hB : Bs S nf nc nb) (k : Nat) (hk : k ≤ nf) (Post : Option Value → List va_E → Prop) (hx : Ev g mX1_stand 96 [(0, .ref 17), (1, .ref 1), (2, .ref 39), (3, .int grp), (4, .int (nI nf))] [] (hC (it (sdB 1 grp) nf S)) Post) : Ev g mX1_stand 21 [(0, .ref 17), (1, .ref 1), (2, .ref 39), (3, .int grp), (4, .int (nI k))] [] (hC (it (sdB 1 grp) k S)) Post := by
  revert k
  refine loop_up nf ?_ ?_
  · obtain ⟨hs, hc, -⟩ := hB.eq (eqB.it (sdB_eq 1 grp) nf S)
    refine ev_iload (pc := 21) dX1_stand_21 rfl ?_
    refine ev_aload_n (pc := 23) dX1_stand_23 rfl ?_
    refine get_F_size (pc := 24) dX1_stand_24 Fl_X1_50 hs ?_
    refine ev_icmp_geN (pc := 27) (tgt := 96) (by omega) (by omega) dX1_stand_27 (by decide) (fun cq27 => ?_) (fun cq27 => absurd (Nat.le_refl nf) cq27)
    exact hx
  · intro k hk ih
    exact sd_step_1 _ k _ hk (hB.eq (eqB.it (sdB_eq 1 grp) k S)) ih
theorem sd_end_1 {grp : Int32} {nf nc nb : Nat} (hB : Bs S nf nc nb) : Ev g mX1_stand 96 [(0, .ref 17), (1, .ref 1), (2, .ref 39), (3, .int grp), (4, .int (nI nf))] [] (hC S) (RV (it (pdB grp) nf (giveS nf S, (giveS nf S).2.2.1 2)).1) := by
  obtain ⟨hs, hc, -⟩ := id hB
  refine ev_aload_n (pc := 96) dX1_stand_96 rfl ?_
  refine ev_aload_n (pc := 97) dX1_stand_97 rfl ?_
  refine get_F_size (pc := 98) dX1_stand_98 Fl_X1_50 hs ?_
  refine callV1V (pc := 101) dX1_stand_101 Ml_X1_120 M_X1_giveEvenly rfl rfl rfl rfl (c_X1_giveEvenly hc) ?_
  refine ev_aload_n (pc := 104) dX1_stand_104 rfl ?_
  refine ev_aload_n (pc := 105) dX1_stand_105 rfl ?_
  refine ev_iload_n (pc := 106) dX1_stand_106 rfl ?_
  refine callV2V (pc := 107) dX1_stand_107 Ml_X1_124 M_X1_payDebts rfl rfl rfl rfl (c_X1_payDebts (hB.eq (giveS_eq nf _))) ?_
  exact ev_ret (pc := 110) dX1_stand_110 rfl rv
theorem c_X1_stand_1 {grp : Int32} {nf nc nb : Nat} (hB : Bs S nf nc nb) : Ct g mX1_stand [.ref 17, .ref 1, .ref 39, .int grp] (hC S) (RV (standS 1 grp nf S)) := by
  refine ct_of rfl rfl ?_
  have h2 := sd_loop_1 (hB.eq (sd0_eq S)) 0 (Nat.zero_le _) _ (sd_end_1 (g := g) (grp := grp) (hB.eq ((eqB.it (sdB_eq 1 grp) nf _).tr (sd0_eq S))))
  rw [it_0] at h2
  refine ev_aload_n (pc := 0) dX1_stand_0 rfl ?_
  refine get_BK_able (pc := 1) dX1_stand_1 Fl_X1_27 ?_
  refine ev_lconst (pc := 4) (v := 0) dX1_stand_4 (by decide) ?_
  refine callS2V (pc := 5) dX1_stand_5 Ml_X1_36 M_J7_fill_d0a16 rfl rfl c_fill_BK_able ?_
  refine ev_aload_n (pc := 8) dX1_stand_8 rfl ?_
  refine ev_lconst (pc := 9) (v := 0) dX1_stand_9 (by decide) ?_
  refine put_BK_owedTogether (pc := 10) dX1_stand_10 Fp_X1_103 ?_
  refine ev_aload_n (pc := 13) dX1_stand_13 rfl ?_
  refine ev_lconst (pc := 14) (v := 0) dX1_stand_14 (by decide) ?_
  refine put_BK_ableTogether (pc := 15) dX1_stand_15 Fp_X1_107 ?_
  refine ev_iconst (pc := 18) (v := nI 0) dX1_stand_18 (by decide) ?_
  refine ev_istore (pc := 19) (lv' := [(0, .ref 17), (1, .ref 1), (2, .ref 39), (3, .int _), (4, .int _)]) dX1_stand_19 (Nat.le_of_ble_eq_true rfl) rfl ?_
  exact h2
end BK3
