section MO7
variable {g : GG} {S : St}
def rkB0 (k : Nat) (X : St) : St :=
  let X1 := setB X 8 (vp_updL (X.2.2.2.1 8) k 0)
  let X2 := setB X1 9 (vp_updL (X1.2.2.2.1 9) k 0)
  let X3 := setB X2 10 (vp_updL (X2.2.2.2.1 10) k 0)
  let X4 := setB X3 12 (vp_updL (X3.2.2.2.1 12) k 0)
  setB X4 13 (vp_updL (X4.2.2.2.1 13) k (if X4.1 26 = -1 then 1000000000 else (X4.1 26).toInt64 * (X4.2.1 26 k).toInt64))
def rkB1 (day : Int32) (k : Nat) (X : St) : St := setB X 9 (vp_updL (X.2.2.2.1 9) (X.2.1 27 k).toNatClampNeg (X.2.2.2.1 9 (X.2.1 27 k).toNatClampNeg + (if day < X.2.1 29 k then 0 else (X.2.1 28 k).toInt64)))
def rk2 (f : Nat) (w wi pr : Int64) (X : St) : St :=
  let X1 := setB X 13 (vp_updL (X.2.2.2.1 13) f (X.2.2.2.1 13 f - wi))
  let X2 := setB X1 8 (vp_updL (X1.2.2.2.1 8) f (X1.2.2.2.1 8 f + w))
  let X3 := setB X2 10 (vp_updL (X2.2.2.2.1 10) f (X2.2.2.2.1 10 f + wi * pr))
  setB X3 12 (vp_updL (X3.2.2.2.1 12) f (X3.2.2.2.1 12 f + (w - wi) * pr))
def wiM (q w : Int64) : Int64 := if q ≤ w then q else w
def rkB2 (day : Int32) (k : Nat) (X : St) : St :=
  if X.2.1 33 k ≤ day then rk2 (X.2.1 30 k).toNatClampNeg (X.2.1 31 k).toInt64 (wiM (X.2.2.2.1 13 (X.2.1 30 k).toNatClampNeg) (X.2.1 31 k).toInt64) (X.2.1 34 (X.2.1 32 k).toNatClampNeg).toInt64 X else X
def rkB3 (k : Nat) (X : St) : St :=
  let X1 := setB X 10 (vp_updL (X.2.2.2.1 10) k (X.2.2.2.1 10 k + partM X 0 (X.2.2.2.1 12 k)))
  let off := partM X1 1 (X1.2.2.2.1 10 k)
  let X2 := setB X1 11 (vp_updL (X1.2.2.2.1 11) k (if X1.2.2.2.1 9 k ≤ off then X1.2.2.2.1 9 k else off))
  let X3 := setB X2 14 (vp_updL (X2.2.2.2.1 14) k (partM X2 2 (X2.2.2.2.1 10 k - X2.2.2.2.1 11 k)))
  let X4 := setB X3 15 (vp_updL (X3.2.2.2.1 15) k 0)
  setB X4 16 (vp_updL (X4.2.2.2.1 16) k (X4.2.2.2.1 9 k - X4.2.2.2.1 11 k))
theorem rkB0_eq (k : Nat) (X : St) : eqB (rkB0 k X) X := eqB.rf
theorem rkB1_eq (day : Int32) (k : Nat) (X : St) : eqB (rkB1 day k X) X := eqB.rf
theorem rkB2_eq (day : Int32) (k : Nat) (X : St) : eqB (rkB2 day k X) X := by
  unfold rkB2; split <;> exact eqB.rf
theorem rkB3_eq (k : Nat) (X : St) : eqB (rkB3 k X) X := eqB.rf
def rkS (day : Int32) (nf nc nb : Nat) (S : St) : St := it rkB3 nf (it (rkB2 day) nb (it (rkB1 day) nc (it rkB0 nf S)))
theorem rkS_eq (day : Int32) (nf nc nb : Nat) (S : St) : eqB (rkS day nf nc nb S) S := (eqB.it rkB3_eq nf _).tr ((eqB.it (rkB2_eq day) nb _).tr ((eqB.it (rkB1_eq day) nc _).tr (eqB.it rkB0_eq nf S)))
def stB (n : Nat) (k : Nat) (X : St) : St := standM (nI k) n X
def reckonM (day : Int32) (nf nc nb : Nat) (S : St) : St := it (stB nf) 10 (rkS day nf nc nb S)
theorem stB_eq (n k : Nat) (X : St) : eqB (stB n k X) X := standM_eq _ n X
theorem reckonM_eq (day : Int32) (nf nc nb : Nat) (S : St) : eqB (reckonM day nf nc nb S) S := (eqB.it (stB_eq nf) 10 _).tr (rkS_eq day nf nc nb S)
theorem rk_0 {day : Int32} {nf nc nb : Nat} (hB : Bm S nf nc nb) (Post : Option Value → List va_E → Prop) (hx : Ev g mX10_reckon 77 [(0, .ref 43), (1, .int day)] [] (hC (it rkB0 nf S)) Post) : Ev g mX10_reckon 0 [(0, .ref 43), (1, .int day)] [] (hC S) Post := by
  have L : ∀ k, k ≤ nf → Ev g mX10_reckon 2 [(0, .ref 43), (1, .int day), (2, .int (nI k))] [] (hC (it rkB0 k S)) Post := by
    refine loop_up nf ?_ ?_
    · obtain ⟨hs, hn, -⟩ := hB.eq (eqB.it rkB0_eq nf S)
      refine ev_iload_n (pc := 2) dX10_reckon_2 rfl ?_
      refine ev_aload_n (pc := 3) dX10_reckon_3 rfl ?_
      refine get_MO_farmers (pc := 4) dX10_reckon_4 Fl_X10_129 hs ?_
      refine ev_icmp_geN (pc := 7) (tgt := 77) (by omega) (by omega) dX10_reckon_7 (by decide) (fun cq7 => ?_) (fun cq7 => absurd (Nat.le_refl nf) cq7)
      exact ev_keep [0, 1] hx
    · intro k hk ih
      obtain ⟨hs, hn, -⟩ := hB.eq (eqB.it rkB0_eq k S)
      rw [it_s] at ih
      generalize it rkB0 k S = X at *
      by_cases hq : X.1 26 = -1
      · have ih : Ev g mX10_reckon 2 [(0, .ref 43), (1, .int day), (2, .int (nI (k + 1)))] [] (hC (setB (setB (setB (setB (setB X 8 (vp_updL (X.2.2.2.1 8) k 0)) 9 (vp_updL (X.2.2.2.1 9) k 0)) 10 (vp_updL (X.2.2.2.1 10) k 0)) 12 (vp_updL (X.2.2.2.1 12) k 0)) 13 (vp_updL (X.2.2.2.1 13) k 1000000000))) Post := by
          have e : rkB0 k X = setB (setB (setB (setB (setB X 8 (vp_updL (X.2.2.2.1 8) k 0)) 9 (vp_updL (X.2.2.2.1 9) k 0)) 10 (vp_updL (X.2.2.2.1 10) k 0)) 12 (vp_updL (X.2.2.2.1 12) k 0)) 13 (vp_updL (X.2.2.2.1 13) k (if X.1 26 = -1 then 1000000000 else (X.1 26).toInt64 * (X.2.1 26 k).toInt64)) := rfl
          rw [e, if_pos hq] at ih
          exact ih
        refine ev_iload_n (pc := 2) dX10_reckon_2 rfl ?_
        refine ev_aload_n (pc := 3) dX10_reckon_3 rfl ?_
        refine get_MO_farmers (pc := 4) dX10_reckon_4 Fl_X10_129 hs ?_
        refine ev_icmp_geN (pc := 7) (tgt := 77) (by omega) (by omega) dX10_reckon_7 (by decide) (fun cq7 => absurd cq7 (by omega)) (fun cq7 => ?_)
        refine ev_aload_n (pc := 10) dX10_reckon_10 rfl ?_
        refine get_MO_weights (pc := 11) dX10_reckon_11 Fl_X10_68 ?_
        refine ev_iload_n (pc := 14) dX10_reckon_14 rfl ?_
        refine ev_lconst (pc := 15) (v := 0) dX10_reckon_15 (by decide) ?_
        refine asN_MO_weights (pc := 16) dX10_reckon_16 (by omega) ?_
        refine ev_aload_n (pc := 17) dX10_reckon_17 rfl ?_
        refine get_MO_owes (pc := 18) dX10_reckon_18 Fl_X10_72 ?_
        refine ev_iload_n (pc := 21) dX10_reckon_21 rfl ?_
        refine ev_lconst (pc := 22) (v := 0) dX10_reckon_22 (by decide) ?_
        refine asN_MO_owes (pc := 23) dX10_reckon_23 (by omega) ?_
        refine ev_aload_n (pc := 24) dX10_reckon_24 rfl ?_
        refine get_MO_checks (pc := 25) dX10_reckon_25 Fl_X10_75 ?_
        refine ev_iload_n (pc := 28) dX10_reckon_28 rfl ?_
        refine ev_lconst (pc := 29) (v := 0) dX10_reckon_29 (by decide) ?_
        refine asN_MO_checks (pc := 30) dX10_reckon_30 (by omega) ?_
        refine ev_aload_n (pc := 31) dX10_reckon_31 rfl ?_
        refine get_MO_rests (pc := 32) dX10_reckon_32 Fl_X10_81 ?_
        refine ev_iload_n (pc := 35) dX10_reckon_35 rfl ?_
        refine ev_lconst (pc := 36) (v := 0) dX10_reckon_36 (by decide) ?_
        refine asN_MO_rests (pc := 37) dX10_reckon_37 (by omega) ?_
        refine ev_aload_n (pc := 38) dX10_reckon_38 rfl ?_
        refine get_MO_quotas (pc := 39) dX10_reckon_39 Fl_X10_84 ?_
        refine ev_iload_n (pc := 42) dX10_reckon_42 rfl ?_
        refine ev_aload_n (pc := 43) dX10_reckon_43 rfl ?_
        refine get_MO_quota (pc := 44) dX10_reckon_44 Fl_X10_43 rfl ?_
        refine ev_iconst (pc := 47) (v := -1) dX10_reckon_47 (by decide) ?_
        refine ev_icmp_ne (pc := 48) (tgt := 57) dX10_reckon_48 (by decide) (fun cq48 => absurd hq cq48) (fun cq48 => ?_)
        refine ev_ldc2 (pc := 51) dX10_reckon_51 Cn_X10_234 ?_
        refine ev_goto (pc := 54) (tgt := 70) dX10_reckon_54 (by decide) ?_
        refine asN_MO_quotas (pc := 70) dX10_reckon_70 (by omega) ?_
        refine ev_iincN (pc := 71) (lv' := [(0, .ref 43), (1, .int _), (2, .int _)]) dX10_reckon_71 rfl (Nat.le_of_ble_eq_true rfl) rfl ?_
        refine ev_goto (pc := 74) (tgt := 2) dX10_reckon_74 (by decide) ?_
        exact ih
      · have ih : Ev g mX10_reckon 2 [(0, .ref 43), (1, .int day), (2, .int (nI (k + 1)))] [] (hC (setB (setB (setB (setB (setB X 8 (vp_updL (X.2.2.2.1 8) k 0)) 9 (vp_updL (X.2.2.2.1 9) k 0)) 10 (vp_updL (X.2.2.2.1 10) k 0)) 12 (vp_updL (X.2.2.2.1 12) k 0)) 13 (vp_updL (X.2.2.2.1 13) k ((X.1 26).toInt64 * (X.2.1 26 k).toInt64)))) Post := by
          have e : rkB0 k X = setB (setB (setB (setB (setB X 8 (vp_updL (X.2.2.2.1 8) k 0)) 9 (vp_updL (X.2.2.2.1 9) k 0)) 10 (vp_updL (X.2.2.2.1 10) k 0)) 12 (vp_updL (X.2.2.2.1 12) k 0)) 13 (vp_updL (X.2.2.2.1 13) k (if X.1 26 = -1 then 1000000000 else (X.1 26).toInt64 * (X.2.1 26 k).toInt64)) := rfl
          rw [e, if_neg hq] at ih
          exact ih
        refine ev_iload_n (pc := 2) dX10_reckon_2 rfl ?_
        refine ev_aload_n (pc := 3) dX10_reckon_3 rfl ?_
        refine get_MO_farmers (pc := 4) dX10_reckon_4 Fl_X10_129 hs ?_
        refine ev_icmp_geN (pc := 7) (tgt := 77) (by omega) (by omega) dX10_reckon_7 (by decide) (fun cq7 => absurd cq7 (by omega)) (fun cq7 => ?_)
        refine ev_aload_n (pc := 10) dX10_reckon_10 rfl ?_
        refine get_MO_weights (pc := 11) dX10_reckon_11 Fl_X10_68 ?_
        refine ev_iload_n (pc := 14) dX10_reckon_14 rfl ?_
        refine ev_lconst (pc := 15) (v := 0) dX10_reckon_15 (by decide) ?_
        refine asN_MO_weights (pc := 16) dX10_reckon_16 (by omega) ?_
        refine ev_aload_n (pc := 17) dX10_reckon_17 rfl ?_
        refine get_MO_owes (pc := 18) dX10_reckon_18 Fl_X10_72 ?_
        refine ev_iload_n (pc := 21) dX10_reckon_21 rfl ?_
        refine ev_lconst (pc := 22) (v := 0) dX10_reckon_22 (by decide) ?_
        refine asN_MO_owes (pc := 23) dX10_reckon_23 (by omega) ?_
        refine ev_aload_n (pc := 24) dX10_reckon_24 rfl ?_
        refine get_MO_checks (pc := 25) dX10_reckon_25 Fl_X10_75 ?_
        refine ev_iload_n (pc := 28) dX10_reckon_28 rfl ?_
        refine ev_lconst (pc := 29) (v := 0) dX10_reckon_29 (by decide) ?_
        refine asN_MO_checks (pc := 30) dX10_reckon_30 (by omega) ?_
        refine ev_aload_n (pc := 31) dX10_reckon_31 rfl ?_
        refine get_MO_rests (pc := 32) dX10_reckon_32 Fl_X10_81 ?_
        refine ev_iload_n (pc := 35) dX10_reckon_35 rfl ?_
        refine ev_lconst (pc := 36) (v := 0) dX10_reckon_36 (by decide) ?_
        refine asN_MO_rests (pc := 37) dX10_reckon_37 (by omega) ?_
        refine ev_aload_n (pc := 38) dX10_reckon_38 rfl ?_
        refine get_MO_quotas (pc := 39) dX10_reckon_39 Fl_X10_84 ?_
        refine ev_iload_n (pc := 42) dX10_reckon_42 rfl ?_
        refine ev_aload_n (pc := 43) dX10_reckon_43 rfl ?_
        refine get_MO_quota (pc := 44) dX10_reckon_44 Fl_X10_43 rfl ?_
        refine ev_iconst (pc := 47) (v := -1) dX10_reckon_47 (by decide) ?_
        refine ev_icmp_ne (pc := 48) (tgt := 57) dX10_reckon_48 (by decide) (fun cq48 => ?_) (fun cq48 => absurd cq48 hq)
        refine ev_aload_n (pc := 57) dX10_reckon_57 rfl ?_
        refine get_MO_quota (pc := 58) dX10_reckon_58 Fl_X10_43 rfl ?_
        refine ev_i2l (pc := 61) dX10_reckon_61 ?_
        refine ev_aload_n (pc := 62) dX10_reckon_62 rfl ?_
        refine get_MO_fFields (pc := 63) dX10_reckon_63 Fl_X10_16 ?_
        refine ev_iload_n (pc := 66) dX10_reckon_66 rfl ?_
        refine ldN_MO_fFields (pc := 67) dX10_reckon_67 (by omega) rfl ?_
        refine ev_i2l (pc := 68) dX10_reckon_68 ?_
        refine ev_lmul (pc := 69) dX10_reckon_69 ?_
        refine asN_MO_quotas (pc := 70) dX10_reckon_70 (by omega) ?_
        refine ev_iincN (pc := 71) (lv' := [(0, .ref 43), (1, .int _), (2, .int _)]) dX10_reckon_71 rfl (Nat.le_of_ble_eq_true rfl) rfl ?_
        refine ev_goto (pc := 74) (tgt := 2) dX10_reckon_74 (by decide) ?_
        exact ih
  refine ev_iconst (pc := 0) (v := nI 0) dX10_reckon_0 (by decide) ?_
  refine ev_istore_n (pc := 1) (lv' := [(0, .ref 43), (1, .int _), (2, .int _)]) dX10_reckon_1 (Nat.le_of_ble_eq_true rfl) rfl ?_
  exact L 0 (Nat.zero_le _)
theorem rk_1 {day : Int32} {nf nc nb : Nat} (hB : Bm S nf nc nb) (Post : Option Value → List va_E → Prop) (hx : Ev g mX10_reckon 128 [(0, .ref 43), (1, .int day)] [] (hC (it (rkB1 day) nc S)) Post) : Ev g mX10_reckon 77 [(0, .ref 43), (1, .int day)] [] (hC S) Post := by
  have L : ∀ k, k ≤ nc → Ev g mX10_reckon 79 [(0, .ref 43), (1, .int day), (2, .int (nI k))] [] (hC (it (rkB1 day) k S)) Post := by
    refine loop_up nc ?_ ?_
    · obtain ⟨-, -, hs, hn, -⟩ := hB.eq (eqB.it (rkB1_eq day) nc S)
      refine ev_iload_n (pc := 79) dX10_reckon_79 rfl ?_
      refine ev_aload_n (pc := 80) dX10_reckon_80 rfl ?_
      refine get_MO_credits (pc := 81) dX10_reckon_81 Fl_X10_151 hs ?_
      refine ev_icmp_geN (pc := 84) (tgt := 128) (by omega) (by omega) dX10_reckon_84 (by decide) (fun cq84 => ?_) (fun cq84 => absurd (Nat.le_refl nc) cq84)
      exact ev_keep [0, 1] hx
    · intro k hk ih
      obtain ⟨-, -, hs, hn, -, -, hf, -⟩ := hB.eq (eqB.it (rkB1_eq day) k S)
      rw [it_s] at ih
      generalize it (rkB1 day) k S = X at *
      unfold rkB1 at ih
      refine ev_iload_n (pc := 79) dX10_reckon_79 rfl ?_
      refine ev_aload_n (pc := 80) dX10_reckon_80 rfl ?_
      refine get_MO_credits (pc := 81) dX10_reckon_81 Fl_X10_151 hs ?_
      refine ev_icmp_geN (pc := 84) (tgt := 128) (by omega) (by omega) dX10_reckon_84 (by decide) (fun cq84 => absurd cq84 (by omega)) (fun cq84 => ?_)
      refine ev_aload_n (pc := 87) dX10_reckon_87 rfl ?_
      refine get_MO_owes (pc := 88) dX10_reckon_88 Fl_X10_72 ?_
      refine ev_aload_n (pc := 91) dX10_reckon_91 rfl ?_
      refine get_MO_cFarmer (pc := 92) dX10_reckon_92 Fl_X10_19 ?_
      refine ev_iload_n (pc := 95) dX10_reckon_95 rfl ?_
      refine ldN_MO_cFarmer (pc := 96) dX10_reckon_96 (by omega) rfl ?_
      refine ev_dup2 (pc := 97) dX10_reckon_97 rfl rfl ?_
      refine ld_MO_owes (pc := 98) dX10_reckon_98 (hf k hk) rfl ?_
      refine ev_aload_n (pc := 99) dX10_reckon_99 rfl ?_
      refine get_MO_cKnown (pc := 100) dX10_reckon_100 Fl_X10_25 ?_
      refine ev_iload_n (pc := 103) dX10_reckon_103 rfl ?_
      refine ldN_MO_cKnown (pc := 104) dX10_reckon_104 (by omega) rfl ?_
      refine ev_iload_n (pc := 105) dX10_reckon_105 rfl ?_
      refine ev_icmp_gt (pc := 106) (tgt := 119) dX10_reckon_106 (by decide) (fun cq106 => ?_) (fun cq106 => ?_)
      · rw [if_pos cq106] at ih
        refine ev_lconst (pc := 119) (v := 0) dX10_reckon_119 (by decide) ?_
        refine ev_ladd (pc := 120) dX10_reckon_120 ?_
        refine as_MO_owes (pc := 121) dX10_reckon_121 (hf k hk) ?_
        refine ev_iincN (pc := 122) (lv' := [(0, .ref 43), (1, .int _), (2, .int _)]) dX10_reckon_122 rfl (Nat.le_of_ble_eq_true rfl) rfl ?_
        refine ev_goto (pc := 125) (tgt := 79) dX10_reckon_125 (by decide) ?_
        exact ih
      · rw [if_neg cq106] at ih
        refine ev_aload_n (pc := 109) dX10_reckon_109 rfl ?_
        refine get_MO_cAmount (pc := 110) dX10_reckon_110 Fl_X10_22 ?_
        refine ev_iload_n (pc := 113) dX10_reckon_113 rfl ?_
        refine ldN_MO_cAmount (pc := 114) dX10_reckon_114 (by omega) rfl ?_
        refine ev_i2l (pc := 115) dX10_reckon_115 ?_
        refine ev_goto (pc := 116) (tgt := 120) dX10_reckon_116 (by decide) ?_
        refine ev_ladd (pc := 120) dX10_reckon_120 ?_
        refine as_MO_owes (pc := 121) dX10_reckon_121 (hf k hk) ?_
        refine ev_iincN (pc := 122) (lv' := [(0, .ref 43), (1, .int _), (2, .int _)]) dX10_reckon_122 rfl (Nat.le_of_ble_eq_true rfl) rfl ?_
        refine ev_goto (pc := 125) (tgt := 79) dX10_reckon_125 (by decide) ?_
        exact ih
  refine ev_iconst (pc := 77) (v := nI 0) dX10_reckon_77 (by decide) ?_
  refine ev_istore_n (pc := 78) (lv' := [(0, .ref 43), (1, .int _), (2, .int _)]) dX10_reckon_78 (Nat.le_of_ble_eq_true rfl) rfl ?_
  exact L 0 (Nat.zero_le _)
theorem rk_2 {day : Int32} {nf nc nb : Nat} (hB : Bm S nf nc nb) (Post : Option Value → List va_E → Prop) (hx : Ev g mX10_reckon 282 [(0, .ref 43), (1, .int day)] [] (hC (it (rkB2 day) nb S)) Post) : Ev g mX10_reckon 128 [(0, .ref 43), (1, .int day)] [] (hC S) Post := by
  have tail : ∀ (X : St) (k f : Nat) (fi : Int32) (wi : Int64), k < nb → nb ≤ 300 → vp_in fi 40 → vp_in (X.2.1 32 k) 5 → fi.toNatClampNeg = f → Ev g mX10_reckon 130 [(0, .ref 43), (1, .int day), (2, .int (nI (k + 1)))] [] (hC (rk2 f (X.2.1 31 k).toInt64 wi (X.2.1 34 (X.2.1 32 k).toNatClampNeg).toInt64 X)) Post → Ev g mX10_reckon 193 [(0, .ref 43), (1, .int day), (2, .int (nI k)), (3, .int fi), (4, .long wi)] [] (hC X) Post := by
    intro X k f fi wi hk hn hf hg he ih
    subst he
    refine ev_aload_n (pc := 193) dX10_reckon_193 rfl ?_
    refine get_MO_quotas (pc := 194) dX10_reckon_194 Fl_X10_84 ?_
    refine ev_iload_n (pc := 197) dX10_reckon_197 rfl ?_
    refine ev_dup2 (pc := 198) dX10_reckon_198 rfl rfl ?_
    refine ld_MO_quotas (pc := 199) dX10_reckon_199 hf rfl ?_
    refine ev_lload (pc := 200) dX10_reckon_200 rfl ?_
    refine ev_lsub (pc := 202) dX10_reckon_202 ?_
    refine as_MO_quotas (pc := 203) dX10_reckon_203 hf ?_
    refine ev_aload_n (pc := 204) dX10_reckon_204 rfl ?_
    refine get_MO_weights (pc := 205) dX10_reckon_205 Fl_X10_68 ?_
    refine ev_iload_n (pc := 208) dX10_reckon_208 rfl ?_
    refine ev_dup2 (pc := 209) dX10_reckon_209 rfl rfl ?_
    refine ld_MO_weights (pc := 210) dX10_reckon_210 hf rfl ?_
    refine ev_aload_n (pc := 211) dX10_reckon_211 rfl ?_
    refine get_MO_bWeight (pc := 212) dX10_reckon_212 Fl_X10_31 ?_
    refine ev_iload_n (pc := 215) dX10_reckon_215 rfl ?_
    refine ldN_MO_bWeight (pc := 216) dX10_reckon_216 (by omega) rfl ?_
    refine ev_i2l (pc := 217) dX10_reckon_217 ?_
    refine ev_ladd (pc := 218) dX10_reckon_218 ?_
    refine as_MO_weights (pc := 219) dX10_reckon_219 hf ?_
    refine ev_aload_n (pc := 220) dX10_reckon_220 rfl ?_
    refine get_MO_checks (pc := 221) dX10_reckon_221 Fl_X10_75 ?_
    refine ev_iload_n (pc := 224) dX10_reckon_224 rfl ?_
    refine ev_dup2 (pc := 225) dX10_reckon_225 rfl rfl ?_
    refine ld_MO_checks (pc := 226) dX10_reckon_226 hf rfl ?_
    refine ev_lload (pc := 227) dX10_reckon_227 rfl ?_
    refine ev_aload_n (pc := 229) dX10_reckon_229 rfl ?_
    refine get_MO_prices (pc := 230) dX10_reckon_230 Fl_X10_40 ?_
    refine ev_aload_n (pc := 233) dX10_reckon_233 rfl ?_
    refine get_MO_bGrade (pc := 234) dX10_reckon_234 Fl_X10_34 ?_
    refine ev_iload_n (pc := 237) dX10_reckon_237 rfl ?_
    refine ldN_MO_bGrade (pc := 238) dX10_reckon_238 (by omega) rfl ?_
    refine ld_MO_prices (pc := 239) dX10_reckon_239 hg rfl ?_
    refine ev_i2l (pc := 240) dX10_reckon_240 ?_
    refine ev_lmul (pc := 241) dX10_reckon_241 ?_
    refine ev_ladd (pc := 242) dX10_reckon_242 ?_
    refine as_MO_checks (pc := 243) dX10_reckon_243 hf ?_
    refine ev_aload_n (pc := 244) dX10_reckon_244 rfl ?_
    refine get_MO_rests (pc := 245) dX10_reckon_245 Fl_X10_81 ?_
    refine ev_iload_n (pc := 248) dX10_reckon_248 rfl ?_
    refine ev_dup2 (pc := 249) dX10_reckon_249 rfl rfl ?_
    refine ld_MO_rests (pc := 250) dX10_reckon_250 hf rfl ?_
    refine ev_aload_n (pc := 251) dX10_reckon_251 rfl ?_
    refine get_MO_bWeight (pc := 252) dX10_reckon_252 Fl_X10_31 ?_
    refine ev_iload_n (pc := 255) dX10_reckon_255 rfl ?_
    refine ldN_MO_bWeight (pc := 256) dX10_reckon_256 (by omega) rfl ?_
    refine ev_i2l (pc := 257) dX10_reckon_257 ?_
    refine ev_lload (pc := 258) dX10_reckon_258 rfl ?_
    refine ev_lsub (pc := 260) dX10_reckon_260 ?_
    refine ev_aload_n (pc := 261) dX10_reckon_261 rfl ?_
    refine get_MO_prices (pc := 262) dX10_reckon_262 Fl_X10_40 ?_
    refine ev_aload_n (pc := 265) dX10_reckon_265 rfl ?_
    refine get_MO_bGrade (pc := 266) dX10_reckon_266 Fl_X10_34 ?_
    refine ev_iload_n (pc := 269) dX10_reckon_269 rfl ?_
    refine ldN_MO_bGrade (pc := 270) dX10_reckon_270 (by omega) rfl ?_
    refine ld_MO_prices (pc := 271) dX10_reckon_271 hg rfl ?_
    refine ev_i2l (pc := 272) dX10_reckon_272 ?_
    refine ev_lmul (pc := 273) dX10_reckon_273 ?_
    refine ev_ladd (pc := 274) dX10_reckon_274 ?_
    refine as_MO_rests (pc := 275) dX10_reckon_275 hf ?_
    refine ev_iincN (pc := 276) (lv' := [(0, .ref 43), (1, .int _), (2, .int _), (3, .int _), (4, .long _)]) dX10_reckon_276 rfl (Nat.le_of_ble_eq_true rfl) rfl ?_
    refine ev_goto (pc := 279) (tgt := 130) dX10_reckon_279 (by decide) ?_
    exact ev_keep [0, 1, 2] ih
  have L : ∀ k, k ≤ nb → Ev g mX10_reckon 130 [(0, .ref 43), (1, .int day), (2, .int (nI k))] [] (hC (it (rkB2 day) k S)) Post := by
    refine loop_up nb ?_ ?_
    · obtain ⟨-, -, -, -, hs, hn, -⟩ := hB.eq (eqB.it (rkB2_eq day) nb S)
      refine ev_iload_n (pc := 130) dX10_reckon_130 rfl ?_
      refine ev_aload_n (pc := 131) dX10_reckon_131 rfl ?_
      refine get_MO_baskets (pc := 132) dX10_reckon_132 Fl_X10_156 hs ?_
      refine ev_icmp_geN (pc := 135) (tgt := 282) (by omega) (by omega) dX10_reckon_135 (by decide) (fun cq135 => ?_) (fun cq135 => absurd (Nat.le_refl nb) cq135)
      exact ev_keep [0, 1] hx
    · intro k hk ih
      obtain ⟨-, -, -, -, hs, hn, -, hf, hg, -⟩ := hB.eq (eqB.it (rkB2_eq day) k S)
      rw [it_s] at ih
      generalize it (rkB2 day) k S = X at *
      unfold rkB2 wiM at ih
      refine ev_iload_n (pc := 130) dX10_reckon_130 rfl ?_
      refine ev_aload_n (pc := 131) dX10_reckon_131 rfl ?_
      refine get_MO_baskets (pc := 132) dX10_reckon_132 Fl_X10_156 hs ?_
      refine ev_icmp_geN (pc := 135) (tgt := 282) (by omega) (by omega) dX10_reckon_135 (by decide) (fun cq135 => absurd cq135 (by omega)) (fun cq135 => ?_)
      refine ev_aload_n (pc := 138) dX10_reckon_138 rfl ?_
      refine get_MO_bKnown (pc := 139) dX10_reckon_139 Fl_X10_37 ?_
      refine ev_iload_n (pc := 142) dX10_reckon_142 rfl ?_
      refine ldN_MO_bKnown (pc := 143) dX10_reckon_143 (by omega) rfl ?_
      refine ev_iload_n (pc := 144) dX10_reckon_144 rfl ?_
      refine ev_icmp_le (pc := 145) (tgt := 151) dX10_reckon_145 (by decide) (fun cq145 => ?_) (fun cq145 => ?_)
      · rw [if_pos cq145] at ih
        refine ev_aload_n (pc := 151) dX10_reckon_151 rfl ?_
        refine get_MO_bFarmer (pc := 152) dX10_reckon_152 Fl_X10_28 ?_
        refine ev_iload_n (pc := 155) dX10_reckon_155 rfl ?_
        refine ldN_MO_bFarmer (pc := 156) dX10_reckon_156 (by omega) rfl ?_
        refine ev_istore_n (pc := 157) (lv' := [(0, .ref 43), (1, .int _), (2, .int _), (3, .int _)]) dX10_reckon_157 (Nat.le_of_ble_eq_true rfl) rfl ?_
        refine ev_aload_n (pc := 158) dX10_reckon_158 rfl ?_
        refine get_MO_bWeight (pc := 159) dX10_reckon_159 Fl_X10_31 ?_
        refine ev_iload_n (pc := 162) dX10_reckon_162 rfl ?_
        refine ldN_MO_bWeight (pc := 163) dX10_reckon_163 (by omega) rfl ?_
        refine ev_i2l (pc := 164) dX10_reckon_164 ?_
        refine ev_aload_n (pc := 165) dX10_reckon_165 rfl ?_
        refine get_MO_quotas (pc := 166) dX10_reckon_166 Fl_X10_84 ?_
        refine ev_iload_n (pc := 169) dX10_reckon_169 rfl ?_
        refine ld_MO_quotas (pc := 170) dX10_reckon_170 (hf k hk) rfl ?_
        refine ev_lcmp_ge (pc := 171) (tgt := 185) dX10_reckon_171 dX10_reckon_172 (by decide) (fun cq171 => ?_) (fun cq171 => ?_)
        · rw [if_pos cq171] at ih
          refine ev_aload_n (pc := 185) dX10_reckon_185 rfl ?_
          refine get_MO_quotas (pc := 186) dX10_reckon_186 Fl_X10_84 ?_
          refine ev_iload_n (pc := 189) dX10_reckon_189 rfl ?_
          refine ld_MO_quotas (pc := 190) dX10_reckon_190 (hf k hk) rfl ?_
          refine ev_lstore (pc := 191) (lv' := [(0, .ref 43), (1, .int _), (2, .int _), (3, .int _), (4, .long _)]) dX10_reckon_191 (Nat.le_of_ble_eq_true rfl) rfl ?_
          exact tail X k _ _ _ hk hn (hf k hk) (hg k hk) rfl ih
        · rw [if_neg cq171] at ih
          refine ev_aload_n (pc := 175) dX10_reckon_175 rfl ?_
          refine get_MO_bWeight (pc := 176) dX10_reckon_176 Fl_X10_31 ?_
          refine ev_iload_n (pc := 179) dX10_reckon_179 rfl ?_
          refine ldN_MO_bWeight (pc := 180) dX10_reckon_180 (by omega) rfl ?_
          refine ev_i2l (pc := 181) dX10_reckon_181 ?_
          refine ev_goto (pc := 182) (tgt := 191) dX10_reckon_182 (by decide) ?_
          refine ev_lstore (pc := 191) (lv' := [(0, .ref 43), (1, .int _), (2, .int _), (3, .int _), (4, .long _)]) dX10_reckon_191 (Nat.le_of_ble_eq_true rfl) rfl ?_
          exact tail X k _ _ _ hk hn (hf k hk) (hg k hk) rfl ih
      · rw [if_neg cq145] at ih
        refine ev_goto (pc := 148) (tgt := 276) dX10_reckon_148 (by decide) ?_
        refine ev_iincN (pc := 276) (lv' := [(0, .ref 43), (1, .int _), (2, .int _)]) dX10_reckon_276 rfl (Nat.le_of_ble_eq_true rfl) rfl ?_
        refine ev_goto (pc := 279) (tgt := 130) dX10_reckon_279 (by decide) ?_
        exact ih
  refine ev_iconst (pc := 128) (v := nI 0) dX10_reckon_128 (by decide) ?_
  refine ev_istore_n (pc := 129) (lv' := [(0, .ref 43), (1, .int _), (2, .int _)]) dX10_reckon_129 (Nat.le_of_ble_eq_true rfl) rfl ?_
  exact L 0 (Nat.zero_le _)
theorem rk_3 {day : Int32} {nf nc nb : Nat} (hB : Bm S nf nc nb) (Post : Option Value → List va_E → Prop) (hx : Ev g mX10_reckon 407 [(0, .ref 43), (1, .int day)] [] (hC (it rkB3 nf S)) Post) : Ev g mX10_reckon 282 [(0, .ref 43), (1, .int day)] [] (hC S) Post := by
  have tail : ∀ (X : St) (k : Nat) (of : Int64), k < nf → nf ≤ 40 → (∀ k, k < 4 → 1 ≤ X.2.1 36 k) → Ev g mX10_reckon 284 [(0, .ref 43), (1, .int day), (2, .int (nI (k + 1)))] [] (hC (
      let X3 := setB X 14 (vp_updL (X.2.2.2.1 14) k (partM X 2 (X.2.2.2.1 10 k - X.2.2.2.1 11 k)))
      let X4 := setB X3 15 (vp_updL (X3.2.2.2.1 15) k 0)
      setB X4 16 (vp_updL (X4.2.2.2.1 16) k (X4.2.2.2.1 9 k - X4.2.2.2.1 11 k)))) Post → Ev g mX10_reckon 351 [(0, .ref 43), (1, .int day), (2, .int (nI k)), (3, .long of)] [] (hC X) Post := by
    intro X k of hk hn hp ih
    refine ev_aload_n (pc := 351) dX10_reckon_351 rfl ?_
    refine get_MO_can (pc := 352) dX10_reckon_352 Fl_X10_87 ?_
    refine ev_iload_n (pc := 355) dX10_reckon_355 rfl ?_
    refine ev_aload_n (pc := 356) dX10_reckon_356 rfl ?_
    refine ev_aload_n (pc := 357) dX10_reckon_357 rfl ?_
    refine get_MO_checks (pc := 358) dX10_reckon_358 Fl_X10_75 ?_
    refine ev_iload_n (pc := 361) dX10_reckon_361 rfl ?_
    refine ldN_MO_checks (pc := 362) dX10_reckon_362 (by omega) rfl ?_
    refine ev_aload_n (pc := 363) dX10_reckon_363 rfl ?_
    refine get_MO_offs (pc := 364) dX10_reckon_364 Fl_X10_78 ?_
    refine ev_iload_n (pc := 367) dX10_reckon_367 rfl ?_
    refine ldN_MO_offs (pc := 368) dX10_reckon_368 (by omega) rfl ?_
    refine ev_lsub (pc := 369) dX10_reckon_369 ?_
    refine ev_iconst (pc := 370) (v := nI 2) dX10_reckon_370 (by decide) ?_
    refine callV2L (pc := 371) dX10_reckon_371 Ml_X10_236 M_X10_partOf rfl rfl rfl rfl (c_X10_partOf (by decide) (hp 2 (by decide))) ?_
    refine asN_MO_can (pc := 374) dX10_reckon_374 (by omega) ?_
    refine ev_aload_n (pc := 375) dX10_reckon_375 rfl ?_
    refine get_MO_given (pc := 376) dX10_reckon_376 Fl_X10_90 ?_
    refine ev_iload_n (pc := 379) dX10_reckon_379 rfl ?_
    refine ev_lconst (pc := 380) (v := 0) dX10_reckon_380 (by decide) ?_
    refine asN_MO_given (pc := 381) dX10_reckon_381 (by omega) ?_
    refine ev_aload_n (pc := 382) dX10_reckon_382 rfl ?_
    refine get_MO_left (pc := 383) dX10_reckon_383 Fl_X10_93 ?_
    refine ev_iload_n (pc := 386) dX10_reckon_386 rfl ?_
    refine ev_aload_n (pc := 387) dX10_reckon_387 rfl ?_
    refine get_MO_owes (pc := 388) dX10_reckon_388 Fl_X10_72 ?_
    refine ev_iload_n (pc := 391) dX10_reckon_391 rfl ?_
    refine ldN_MO_owes (pc := 392) dX10_reckon_392 (by omega) rfl ?_
    refine ev_aload_n (pc := 393) dX10_reckon_393 rfl ?_
    refine get_MO_offs (pc := 394) dX10_reckon_394 Fl_X10_78 ?_
    refine ev_iload_n (pc := 397) dX10_reckon_397 rfl ?_
    refine ldN_MO_offs (pc := 398) dX10_reckon_398 (by omega) rfl ?_
    refine ev_lsub (pc := 399) dX10_reckon_399 ?_
    refine asN_MO_left (pc := 400) dX10_reckon_400 (by omega) ?_
    refine ev_iincN (pc := 401) (lv' := [(0, .ref 43), (1, .int _), (2, .int _), (3, .long _)]) dX10_reckon_401 rfl (Nat.le_of_ble_eq_true rfl) rfl ?_
    refine ev_goto (pc := 404) (tgt := 284) dX10_reckon_404 (by decide) ?_
    exact ev_keep [0, 1, 2] ih
  have L : ∀ k, k ≤ nf → Ev g mX10_reckon 284 [(0, .ref 43), (1, .int day), (2, .int (nI k))] [] (hC (it rkB3 k S)) Post := by
    refine loop_up nf ?_ ?_
    · obtain ⟨hs, hn, -⟩ := hB.eq (eqB.it rkB3_eq nf S)
      refine ev_iload_n (pc := 284) dX10_reckon_284 rfl ?_
      refine ev_aload_n (pc := 285) dX10_reckon_285 rfl ?_
      refine get_MO_farmers (pc := 286) dX10_reckon_286 Fl_X10_129 hs ?_
      refine ev_icmp_geN (pc := 289) (tgt := 407) (by omega) (by omega) dX10_reckon_289 (by decide) (fun cq289 => ?_) (fun cq289 => absurd (Nat.le_refl nf) cq289)
      exact ev_keep [0, 1] hx
    · intro k hk ih
      obtain ⟨hs, hn, -, -, -, -, -, -, -, hp⟩ := hB.eq (eqB.it rkB3_eq k S)
      rw [it_s] at ih
      generalize it rkB3 k S = X at *
      unfold rkB3 at ih
      dsimp only at ih
      refine ev_iload_n (pc := 284) dX10_reckon_284 rfl ?_
      refine ev_aload_n (pc := 285) dX10_reckon_285 rfl ?_
      refine get_MO_farmers (pc := 286) dX10_reckon_286 Fl_X10_129 hs ?_
      refine ev_icmp_geN (pc := 289) (tgt := 407) (by omega) (by omega) dX10_reckon_289 (by decide) (fun cq289 => absurd cq289 (by omega)) (fun cq289 => ?_)
      refine ev_aload_n (pc := 292) dX10_reckon_292 rfl ?_
      refine get_MO_checks (pc := 293) dX10_reckon_293 Fl_X10_75 ?_
      refine ev_iload_n (pc := 296) dX10_reckon_296 rfl ?_
      refine ev_dup2 (pc := 297) dX10_reckon_297 rfl rfl ?_
      refine ldN_MO_checks (pc := 298) dX10_reckon_298 (by omega) rfl ?_
      refine ev_aload_n (pc := 299) dX10_reckon_299 rfl ?_
      refine ev_aload_n (pc := 300) dX10_reckon_300 rfl ?_
      refine get_MO_rests (pc := 301) dX10_reckon_301 Fl_X10_81 ?_
      refine ev_iload_n (pc := 304) dX10_reckon_304 rfl ?_
      refine ldN_MO_rests (pc := 305) dX10_reckon_305 (by omega) rfl ?_
      refine ev_iconst (pc := 306) (v := nI 0) dX10_reckon_306 (by decide) ?_
      refine callV2L (pc := 307) dX10_reckon_307 Ml_X10_236 M_X10_partOf rfl rfl rfl rfl (c_X10_partOf (by decide) (hp 0 (by decide))) ?_
      refine ev_ladd (pc := 310) dX10_reckon_310 ?_
      refine asN_MO_checks (pc := 311) dX10_reckon_311 (by omega) ?_
      refine ev_aload_n (pc := 312) dX10_reckon_312 rfl ?_
      refine ev_aload_n (pc := 313) dX10_reckon_313 rfl ?_
      refine get_MO_checks (pc := 314) dX10_reckon_314 Fl_X10_75 ?_
      refine ev_iload_n (pc := 317) dX10_reckon_317 rfl ?_
      refine ldN_MO_checks (pc := 318) dX10_reckon_318 (by omega) rfl ?_
      refine ev_iconst (pc := 319) (v := nI 1) dX10_reckon_319 (by decide) ?_
      refine callV2L (pc := 320) dX10_reckon_320 Ml_X10_236 M_X10_partOf rfl rfl rfl rfl (c_X10_partOf (S := setB X 10 _) (by decide) (hp 1 (by decide))) ?_
      refine ev_lstore_n (pc := 323) (lv' := [(0, .ref 43), (1, .int _), (2, .int _), (3, .long _)]) dX10_reckon_323 (Nat.le_of_ble_eq_true rfl) rfl ?_
      refine ev_aload_n (pc := 324) dX10_reckon_324 rfl ?_
      refine get_MO_offs (pc := 325) dX10_reckon_325 Fl_X10_78 ?_
      refine ev_iload_n (pc := 328) dX10_reckon_328 rfl ?_
      refine ev_lload_n (pc := 329) dX10_reckon_329 rfl ?_
      refine ev_aload_n (pc := 330) dX10_reckon_330 rfl ?_
      refine get_MO_owes (pc := 331) dX10_reckon_331 Fl_X10_72 ?_
      refine ev_iload_n (pc := 334) dX10_reckon_334 rfl ?_
      refine ldN_MO_owes (pc := 335) dX10_reckon_335 (by omega) rfl ?_
      refine ev_lcmp_ge (pc := 336) (tgt := 344) dX10_reckon_336 dX10_reckon_337 (by decide) (fun cq336 => ?_) (fun cq336 => ?_)
      · rw [if_pos cq336] at ih
        refine ev_aload_n (pc := 344) dX10_reckon_344 rfl ?_
        refine get_MO_owes (pc := 345) dX10_reckon_345 Fl_X10_72 ?_
        refine ev_iload_n (pc := 348) dX10_reckon_348 rfl ?_
        refine ldN_MO_owes (pc := 349) dX10_reckon_349 (by omega) rfl ?_
        refine asN_MO_offs (pc := 350) dX10_reckon_350 (by omega) ?_
        exact tail _ k _ hk hn hp ih
      · rw [if_neg cq336] at ih
        refine ev_lload_n (pc := 340) dX10_reckon_340 rfl ?_
        refine ev_goto (pc := 341) (tgt := 350) dX10_reckon_341 (by decide) ?_
        refine asN_MO_offs (pc := 350) dX10_reckon_350 (by omega) ?_
        exact tail _ k _ hk hn hp ih
  refine ev_iconst (pc := 282) (v := nI 0) dX10_reckon_282 (by decide) ?_
  refine ev_istore_n (pc := 283) (lv' := [(0, .ref 43), (1, .int _), (2, .int _)]) dX10_reckon_283 (Nat.le_of_ble_eq_true rfl) rfl ?_
  exact L 0 (Nat.zero_le _)
end MO7
