section BK
variable {g : GG} {S : St}
/-- the rows that the accounts are drawn from -/
def Bs (S : St) (nf nc nb : Nat) : Prop := S.1 2 = nI nf ∧ nf ≤ 40 ∧ S.1 3 = nI nc ∧ nc ≤ 200 ∧ S.1 4 = nI nb ∧ nb ≤ 300 ∧ (∀ k, k < nc → vp_in (S.2.1 3 k) 40) ∧ (∀ k, k < nb → vp_in (S.2.1 6 k) 40) ∧ (∀ k, k < nb → vp_in (S.2.1 8 k) 5)
/-- the same but for long rows and longs -/
def eqB (X S : St) : Prop := X.1 = S.1 ∧ X.2.1 = S.2.1 ∧ X.2.2.2.2 = S.2.2.2.2
theorem eqB.rf : eqB S S := ⟨rfl, rfl, rfl⟩
theorem eqB.b {X : St} (h : eqB X S) (n : Nat) (f : Nat → Int64) : eqB (setB X n f) S := h
theorem eqB.l {X : St} (h : eqB X S) (n : Nat) (x : Int64) : eqB (setL X n x) S := h
theorem eqB.tr {X Y : St} (h : eqB Y X) (h2 : eqB X S) : eqB Y S := ⟨h.1.trans h2.1, h.2.1.trans h2.2.1, h.2.2.trans h2.2.2⟩
theorem eqB.it {f : Nat → St → St} (h : ∀ k X, eqB (f k X) X) : ∀ k S, eqB (it f k S) S
  | 0, _ => eqB.rf
  | k + 1, S => (h k _).tr (eqB.it h k S)
theorem Bs.eq {X : St} {nf nc nb : Nat} (h : Bs S nf nc nb) (e : eqB X S) : Bs X nf nc nb := by
  obtain ⟨e1, e2, -⟩ := e
  unfold Bs
  rw [e1, e2]
  exact h
theorem c_X1_pay {i : Nat} (hi : i < 40) : Ct g mX1_pay [.ref 17, .int (nI i)] (hC S) (RJl (S.2.2.2.1 2 i - S.2.2.2.1 4 i) S) := by
  refine ct_of rfl rfl ?_
  refine ev_aload_n (pc := 0) dX1_pay_0 rfl ?_
  refine get_BK_check (pc := 1) dX1_pay_1 Fl_X1_18 ?_
  refine ev_iload_n (pc := 4) dX1_pay_4 rfl ?_
  refine ldN_BK_check (pc := 5) dX1_pay_5 (by omega) rfl ?_
  refine ev_aload_n (pc := 6) dX1_pay_6 rfl ?_
  refine get_BK_off (pc := 7) dX1_pay_7 Fl_X1_24 ?_
  refine ev_iload_n (pc := 10) dX1_pay_10 rfl ?_
  refine ldN_BK_off (pc := 11) dX1_pay_11 (by omega) rfl ?_
  refine ev_lsub (pc := 12) dX1_pay_12 ?_
  exact ev_lret (pc := 13) dX1_pay_13 rfl rl
theorem c_X1_debt {i : Nat} (hi : i < 40) : Ct g mX1_debt [.ref 17, .int (nI i)] (hC S) (RJl (S.2.2.2.1 1 i - S.2.2.2.1 4 i) S) := by
  refine ct_of rfl rfl ?_
  refine ev_aload_n (pc := 0) dX1_debt_0 rfl ?_
  refine get_BK_lent (pc := 1) dX1_debt_1 Fl_X1_15 ?_
  refine ev_iload_n (pc := 4) dX1_debt_4 rfl ?_
  refine ldN_BK_lent (pc := 5) dX1_debt_5 (by omega) rfl ?_
  refine ev_aload_n (pc := 6) dX1_debt_6 rfl ?_
  refine get_BK_off (pc := 7) dX1_debt_7 Fl_X1_24 ?_
  refine ev_iload_n (pc := 10) dX1_debt_10 rfl ?_
  refine ldN_BK_off (pc := 11) dX1_debt_11 (by omega) rfl ?_
  refine ev_lsub (pc := 12) dX1_debt_12 ?_
  exact ev_lret (pc := 13) dX1_debt_13 rfl rl
def crB (day : Int32) (k : Nat) (X : St) : St := if day < X.2.1 5 k then X else setB X 1 (vp_updL (X.2.2.2.1 1) (X.2.1 3 k).toNatClampNeg (X.2.2.2.1 1 (X.2.1 3 k).toNatClampNeg + (X.2.1 4 k).toInt64))
theorem crB_eq (day : Int32) (k : Nat) (X : St) : eqB (crB day k X) X := by
  unfold crB; split <;> exact eqB.rf
theorem c_X1_addCredits {day : Int32} {nf nc nb : Nat} (hB : Bs S nf nc nb) : Ct g mX1_addCredits [.ref 17, .ref 5, .int day] (hC S) (RV (it (crB day) nc S)) := by
  have step : ∀ (X : St) (k : Nat) (Post : Option Value → List va_E → Prop), k < nc → Bs X nf nc nb → Ev g mX1_addCredits 2 [(0, .ref 17), (1, .ref 5), (2, .int day), (3, .int (nI (k + 1)))] [] (hC (crB day k X)) Post → Ev g mX1_addCredits 2 [(0, .ref 17), (1, .ref 5), (2, .int day), (3, .int (nI k))] [] (hC X) Post := by
    intro X k Post hk hB ih
    obtain ⟨-, -, hs, hc, -, -, hf, -⟩ := hB
    unfold crB at ih
    refine ev_iload_n (pc := 2) dX1_addCredits_2 rfl ?_
    refine ev_aload_n (pc := 3) dX1_addCredits_3 rfl ?_
    refine get_C_size (pc := 4) dX1_addCredits_4 Fl_X1_68 hs ?_
    refine ev_icmp_geN (pc := 7) (tgt := 47) (by omega) (by omega) dX1_addCredits_7 (by decide) (fun cq7 => absurd cq7 (by omega)) (fun cq7 => ?_)
    refine ev_aload_n (pc := 10) dX1_addCredits_10 rfl ?_
    refine get_C_known (pc := 11) dX1_addCredits_11 Fl_X1_71 ?_
    refine ev_iload_n (pc := 14) dX1_addCredits_14 rfl ?_
    refine ldN_C_known (pc := 15) dX1_addCredits_15 (by omega) rfl ?_
    refine ev_iload_n (pc := 16) dX1_addCredits_16 rfl ?_
    refine ev_icmp_gt (pc := 17) (tgt := 41) dX1_addCredits_17 (by decide) (fun cq17 => ?_) (fun cq17 => ?_)
    · rw [if_pos cq17] at ih
      refine ev_iincN (pc := 41) (lv' := [(0, .ref 17), (1, .ref 5), (2, .int _), (3, .int _)]) dX1_addCredits_41 rfl (Nat.le_of_ble_eq_true rfl) rfl ?_
      refine ev_goto (pc := 44) (tgt := 2) dX1_addCredits_44 (by decide) ?_
      exact ih
    · rw [if_neg cq17] at ih
      refine ev_aload_n (pc := 20) dX1_addCredits_20 rfl ?_
      refine get_BK_lent (pc := 21) dX1_addCredits_21 Fl_X1_15 ?_
      refine ev_aload_n (pc := 24) dX1_addCredits_24 rfl ?_
      refine get_C_farmer (pc := 25) dX1_addCredits_25 Fl_X1_75 ?_
      refine ev_iload_n (pc := 28) dX1_addCredits_28 rfl ?_
      refine ldN_C_farmer (pc := 29) dX1_addCredits_29 (by omega) rfl ?_
      refine ev_dup2 (pc := 30) dX1_addCredits_30 rfl rfl ?_
      refine ld_BK_lent (pc := 31) dX1_addCredits_31 (hf k hk) rfl ?_
      refine ev_aload_n (pc := 32) dX1_addCredits_32 rfl ?_
      refine get_C_amount (pc := 33) dX1_addCredits_33 Fl_X1_78 ?_
      refine ev_iload_n (pc := 36) dX1_addCredits_36 rfl ?_
      refine ldN_C_amount (pc := 37) dX1_addCredits_37 (by omega) rfl ?_
      refine ev_i2l (pc := 38) dX1_addCredits_38 ?_
      refine ev_ladd (pc := 39) dX1_addCredits_39 ?_
      refine as_BK_lent (pc := 40) dX1_addCredits_40 (hf k hk) ?_
      refine ev_iincN (pc := 41) (lv' := [(0, .ref 17), (1, .ref 5), (2, .int _), (3, .int _)]) dX1_addCredits_41 rfl (Nat.le_of_ble_eq_true rfl) rfl ?_
      refine ev_goto (pc := 44) (tgt := 2) dX1_addCredits_44 (by decide) ?_
      exact ih
  refine ct_of rfl rfl ?_
  refine ev_iconst (pc := 0) (v := nI 0) dX1_addCredits_0 (by decide) ?_
  refine ev_istore_n (pc := 1) (lv' := [(0, .ref 17), (1, .ref 5), (2, .int _), (3, .int _)]) dX1_addCredits_1 (Nat.le_of_ble_eq_true rfl) rfl ?_
  refine loop_up (P := fun k => Ev g mX1_addCredits 2 [(0, .ref 17), (1, .ref 5), (2, .int day), (3, .int (nI k))] [] (hC (it (crB day) k S)) (RV (it (crB day) nc S))) nc ?_ ?_ 0 (Nat.zero_le _)
  · have hB := hB.eq (eqB.it (crB_eq day) nc S)
    obtain ⟨-, -, hs, hc, -⟩ := hB
    refine ev_iload_n (pc := 2) dX1_addCredits_2 rfl ?_
    refine ev_aload_n (pc := 3) dX1_addCredits_3 rfl ?_
    refine get_C_size (pc := 4) dX1_addCredits_4 Fl_X1_68 hs ?_
    refine ev_icmp_geN (pc := 7) (tgt := 47) (by omega) (by omega) dX1_addCredits_7 (by decide) (fun cq7 => ?_) (fun cq7 => absurd (Nat.le_refl nc) cq7)
    exact ev_ret (pc := 47) dX1_addCredits_47 rfl rv
  · intro k hk ih
    exact step _ k _ hk (hB.eq (eqB.it (crB_eq day) k S)) ih
/-- what is within the quota -/
def withF (quota fields : Int32) (whole sum : Int64) : Int64 := if quota = -1 then whole else
  (if (if quota.toInt64 * fields.toInt64 - sum < whole then quota.toInt64 * fields.toInt64 - sum else whole) < 0 then 0 else (if quota.toInt64 * fields.toInt64 - sum < whole then quota.toInt64 * fields.toInt64 - sum else whole))
def baB1 (f : Nat) (w wi pr : Int64) (X : St) : St := setB X 2 (vp_updL (X.2.2.2.1 2) f (X.2.2.2.1 2 f + wi * pr))
def baB2 (f : Nat) (w wi pr : Int64) (X : St) : St := setB X 3 (vp_updL (X.2.2.2.1 3) f (X.2.2.2.1 3 f + (w - wi) * pr))
def baB3 (f : Nat) (w wi pr : Int64) (X : St) : St := setB X 0 (vp_updL (X.2.2.2.1 0) f (X.2.2.2.1 0 f + w))
def baB (b : Nat) (day : Int32) (k : Nat) (X : St) : St :=
  if X.2.1 9 k ≤ day then
    baB3 (X.2.1 6 k).toNatClampNeg (X.2.1 7 k).toInt64 (withF (X.1 (16 + b)) (X.2.1 2 (X.2.1 6 k).toNatClampNeg) (X.2.1 7 k).toInt64 (X.2.2.2.1 0 (X.2.1 6 k).toNatClampNeg)) (X.2.1 (18 + b) (X.2.1 8 k).toNatClampNeg).toInt64
    (baB2 (X.2.1 6 k).toNatClampNeg (X.2.1 7 k).toInt64 (withF (X.1 (16 + b)) (X.2.1 2 (X.2.1 6 k).toNatClampNeg) (X.2.1 7 k).toInt64 (X.2.2.2.1 0 (X.2.1 6 k).toNatClampNeg)) (X.2.1 (18 + b) (X.2.1 8 k).toNatClampNeg).toInt64
    (baB1 (X.2.1 6 k).toNatClampNeg (X.2.1 7 k).toInt64 (withF (X.1 (16 + b)) (X.2.1 2 (X.2.1 6 k).toNatClampNeg) (X.2.1 7 k).toInt64 (X.2.2.2.1 0 (X.2.1 6 k).toNatClampNeg)) (X.2.1 (18 + b) (X.2.1 8 k).toNatClampNeg).toInt64 X))
  else X
theorem baB_eq (b : Nat) (day : Int32) (k : Nat) (X : St) : eqB (baB b day k X) X := by
  unfold baB; split <;> exact eqB.rf
theorem c_X1_addBaskets_0 {day : Int32} {nf nc nb : Nat} (hB : Bs S nf nc nb) : Ct g mX1_addBaskets [.ref 17, .ref 1, .ref 9, .ref 35, .int day] (hC S) (RV (it (baB 0 day) nb S)) := by
  have tail : ∀ (X : St) (k f : Nat) (fi : Int32) (w wi : Int64) (Post : Option Value → List va_E → Prop), k < nb → k < 300 → vp_in fi 40 → vp_in (X.2.1 8 k) 5 → fi.toNatClampNeg = f → Ev g mX1_addBaskets 3 [(0, .ref 17), (1, .ref 1), (2, .ref 9), (3, .ref 35), (4, .int day), (5, .int (nI (k + 1)))] [] (hC (baB3 f w wi (X.2.1 18 (X.2.1 8 k).toNatClampNeg).toInt64 (baB2 f w wi (X.2.1 18 (X.2.1 8 k).toNatClampNeg).toInt64 (baB1 f w wi (X.2.1 18 (X.2.1 8 k).toNatClampNeg).toInt64 X)))) Post → Ev g mX1_addBaskets 95 [(0, .ref 17), (1, .ref 1), (2, .ref 9), (3, .ref 35), (4, .int day), (5, .int (nI k)), (6, .int fi), (7, .long w), (9, .long wi)] [] (hC X) Post := by
    intro X k f fi w wi Post hk hk3 hf hg he ih
    subst he
    refine ev_aload_n (pc := 95) dX1_addBaskets_95 rfl ?_
    refine get_T0_price (pc := 96) dX1_addBaskets_96 Fl_X1_97 ?_
    refine ev_aload_n (pc := 99) dX1_addBaskets_99 rfl ?_
    refine get_K_grade (pc := 100) dX1_addBaskets_100 Fl_X1_100 ?_
    refine ev_iload (pc := 103) dX1_addBaskets_103 rfl ?_
    refine ldN_K_grade (pc := 105) dX1_addBaskets_105 (by omega) rfl ?_
    refine ld_T0_price (pc := 106) dX1_addBaskets_106 hg rfl ?_
    refine ev_i2l (pc := 107) dX1_addBaskets_107 ?_
    refine ev_lstore (pc := 108) (lv' := [(0, .ref 17), (1, .ref 1), (2, .ref 9), (3, .ref 35), (4, .int _), (5, .int _), (6, .int _), (7, .long _), (9, .long _), (11, .long _)]) dX1_addBaskets_108 (Nat.le_of_ble_eq_true rfl) rfl ?_
    refine ev_aload_n (pc := 110) dX1_addBaskets_110 rfl ?_
    refine get_BK_check (pc := 111) dX1_addBaskets_111 Fl_X1_18 ?_
    refine ev_iload (pc := 114) dX1_addBaskets_114 rfl ?_
    refine ev_dup2 (pc := 116) dX1_addBaskets_116 rfl rfl ?_
    refine ld_BK_check (pc := 117) dX1_addBaskets_117 hf rfl ?_
    refine ev_lload (pc := 118) dX1_addBaskets_118 rfl ?_
    refine ev_lload (pc := 120) dX1_addBaskets_120 rfl ?_
    refine ev_lmul (pc := 122) dX1_addBaskets_122 ?_
    refine ev_ladd (pc := 123) dX1_addBaskets_123 ?_
    refine as_BK_check (pc := 124) dX1_addBaskets_124 hf ?_
    refine ev_aload_n (pc := 125) dX1_addBaskets_125 rfl ?_
    refine get_BK_beyond (pc := 126) dX1_addBaskets_126 Fl_X1_21 ?_
    refine ev_iload (pc := 129) dX1_addBaskets_129 rfl ?_
    refine ev_dup2 (pc := 131) dX1_addBaskets_131 rfl rfl ?_
    refine ld_BK_beyond (pc := 132) dX1_addBaskets_132 hf rfl ?_
    refine ev_lload (pc := 133) dX1_addBaskets_133 rfl ?_
    refine ev_lload (pc := 135) dX1_addBaskets_135 rfl ?_
    refine ev_lsub (pc := 137) dX1_addBaskets_137 ?_
    refine ev_lload (pc := 138) dX1_addBaskets_138 rfl ?_
    refine ev_lmul (pc := 140) dX1_addBaskets_140 ?_
    refine ev_ladd (pc := 141) dX1_addBaskets_141 ?_
    refine as_BK_beyond (pc := 142) dX1_addBaskets_142 hf ?_
    refine ev_aload_n (pc := 143) dX1_addBaskets_143 rfl ?_
    refine get_BK_weight (pc := 144) dX1_addBaskets_144 Fl_X1_9 ?_
    refine ev_iload (pc := 147) dX1_addBaskets_147 rfl ?_
    refine ev_dup2 (pc := 149) dX1_addBaskets_149 rfl rfl ?_
    refine ld_BK_weight (pc := 150) dX1_addBaskets_150 hf rfl ?_
    refine ev_lload (pc := 151) dX1_addBaskets_151 rfl ?_
    refine ev_ladd (pc := 153) dX1_addBaskets_153 ?_
    refine as_BK_weight (pc := 154) dX1_addBaskets_154 hf ?_
    refine ev_iincN (pc := 155) (lv' := [(0, .ref 17), (1, .ref 1), (2, .ref 9), (3, .ref 35), (4, .int _), (5, .int _), (6, .int _), (7, .long _), (9, .long _), (11, .long _)]) dX1_addBaskets_155 rfl (Nat.le_of_ble_eq_true rfl) rfl ?_
    refine ev_goto (pc := 158) (tgt := 3) dX1_addBaskets_158 (by decide) ?_
    exact ev_keep [0, 1, 2, 3, 4, 5] ih
  have step : ∀ (X : St) (k : Nat) (Post : Option Value → List va_E → Prop), k < nb → Bs X nf nc nb → Ev g mX1_addBaskets 3 [(0, .ref 17), (1, .ref 1), (2, .ref 9), (3, .ref 35), (4, .int day), (5, .int (nI (k + 1)))] [] (hC (baB 0 day k X)) Post → Ev g mX1_addBaskets 3 [(0, .ref 17), (1, .ref 1), (2, .ref 9), (3, .ref 35), (4, .int day), (5, .int (nI k))] [] (hC X) Post := by
    intro X k Post hk hB ih
    obtain ⟨-, -, -, -, hs, hc, -, hf, hg⟩ := hB
    unfold baB at ih
    refine ev_iload (pc := 3) dX1_addBaskets_3 rfl ?_
    refine ev_aload_n (pc := 5) dX1_addBaskets_5 rfl ?_
    refine get_K_size (pc := 6) dX1_addBaskets_6 Fl_X1_81 hs ?_
    refine ev_icmp_geN (pc := 9) (tgt := 161) (by omega) (by omega) dX1_addBaskets_9 (by decide) (fun cq9 => absurd cq9 (by omega)) (fun cq9 => ?_)
    refine ev_aload_n (pc := 12) dX1_addBaskets_12 rfl ?_
    refine get_K_known (pc := 13) dX1_addBaskets_13 Fl_X1_84 ?_
    refine ev_iload (pc := 16) dX1_addBaskets_16 rfl ?_
    refine ldN_K_known (pc := 18) dX1_addBaskets_18 (by omega) rfl ?_
    refine ev_iload (pc := 19) dX1_addBaskets_19 rfl ?_
    refine ev_icmp_le (pc := 21) (tgt := 27) dX1_addBaskets_21 (by decide) (fun cq21 => ?_) (fun cq21 => ?_)
    · rw [if_pos cq21] at ih
      refine ev_aload_n (pc := 27) dX1_addBaskets_27 rfl ?_
      refine get_K_farmer (pc := 28) dX1_addBaskets_28 Fl_X1_85 ?_
      refine ev_iload (pc := 31) dX1_addBaskets_31 rfl ?_
      refine ldN_K_farmer (pc := 33) dX1_addBaskets_33 (by omega) rfl ?_
      refine ev_istore (pc := 34) (lv' := [(0, .ref 17), (1, .ref 1), (2, .ref 9), (3, .ref 35), (4, .int _), (5, .int _), (6, .int _)]) dX1_addBaskets_34 (Nat.le_of_ble_eq_true rfl) rfl ?_
      refine ev_aload_n (pc := 36) dX1_addBaskets_36 rfl ?_
      refine get_K_weight (pc := 37) dX1_addBaskets_37 Fl_X1_86 ?_
      refine ev_iload (pc := 40) dX1_addBaskets_40 rfl ?_
      refine ldN_K_weight (pc := 42) dX1_addBaskets_42 (by omega) rfl ?_
      refine ev_i2l (pc := 43) dX1_addBaskets_43 ?_
      refine ev_lstore (pc := 44) (lv' := [(0, .ref 17), (1, .ref 1), (2, .ref 9), (3, .ref 35), (4, .int _), (5, .int _), (6, .int _), (7, .long _)]) dX1_addBaskets_44 (Nat.le_of_ble_eq_true rfl) rfl ?_
      refine ev_lload (pc := 46) dX1_addBaskets_46 rfl ?_
      refine ev_lstore (pc := 48) (lv' := [(0, .ref 17), (1, .ref 1), (2, .ref 9), (3, .ref 35), (4, .int _), (5, .int _), (6, .int _), (7, .long _), (9, .long _)]) dX1_addBaskets_48 (Nat.le_of_ble_eq_true rfl) rfl ?_
      refine ev_aload_n (pc := 50) dX1_addBaskets_50 rfl ?_
      refine get_T0_quota (pc := 51) dX1_addBaskets_51 Fl_X1_88 rfl ?_
      refine ev_iconst (pc := 54) (v := -1) dX1_addBaskets_54 (by decide) ?_
      refine ev_icmp_eq (pc := 55) (tgt := 95) dX1_addBaskets_55 (by decide) (fun cq55 => ?_) (fun cq55 => ?_)
      · refine ev_keep [0, 1, 2, 3, 4, 5, 6, 7, 9] ?_
        refine tail X k _ _ _ _ Post hk (by omega) (hf k hk) (hg k hk) rfl ?_
        unfold withF at ih
        first | (rw [if_pos (show X.1 (16 + 0) = -1 from cq55)] at ih; exact ih) | (rw [if_neg (show ¬ X.1 (16 + 0) = -1 from cq55)] at ih; exact ih)
      · refine ev_aload_n (pc := 58) dX1_addBaskets_58 rfl ?_
        refine get_T0_quota (pc := 59) dX1_addBaskets_59 Fl_X1_88 rfl ?_
        refine ev_i2l (pc := 62) dX1_addBaskets_62 ?_
        refine ev_aload_n (pc := 63) dX1_addBaskets_63 rfl ?_
        refine get_F_fields (pc := 64) dX1_addBaskets_64 Fl_X1_91 ?_
        refine ev_iload (pc := 67) dX1_addBaskets_67 rfl ?_
        refine ld_F_fields (pc := 69) dX1_addBaskets_69 (hf k hk) rfl ?_
        refine ev_i2l (pc := 70) dX1_addBaskets_70 ?_
        refine ev_lmul (pc := 71) dX1_addBaskets_71 ?_
        refine ev_aload_n (pc := 72) dX1_addBaskets_72 rfl ?_
        refine get_BK_weight (pc := 73) dX1_addBaskets_73 Fl_X1_9 ?_
        refine ev_iload (pc := 76) dX1_addBaskets_76 rfl ?_
        refine ld_BK_weight (pc := 78) dX1_addBaskets_78 (hf k hk) rfl ?_
        refine ev_lsub (pc := 79) dX1_addBaskets_79 ?_
        refine ev_lstore (pc := 80) (lv' := [(0, .ref 17), (1, .ref 1), (2, .ref 9), (3, .ref 35), (4, .int _), (5, .int _), (6, .int _), (7, .long _), (9, .long _), (11, .long _)]) dX1_addBaskets_80 (Nat.le_of_ble_eq_true rfl) rfl ?_
        refine ev_lconst (pc := 82) (v := 0) dX1_addBaskets_82 (by decide) ?_
        refine ev_lload (pc := 83) dX1_addBaskets_83 rfl ?_
        refine ev_lload (pc := 85) dX1_addBaskets_85 rfl ?_
        refine ev_mmin_long (pc := 87) dX1_addBaskets_87 Mx_X1_62 Mxs_minJ In_Math Mxc_minJ rfl rfl ?_
        refine ev_mmax_long (pc := 90) dX1_addBaskets_90 Mx_X1_94 Mxs_maxJ In_Math Mxc_maxJ rfl rfl ?_
        refine ev_lstore (pc := 93) (lv' := [(0, .ref 17), (1, .ref 1), (2, .ref 9), (3, .ref 35), (4, .int _), (5, .int _), (6, .int _), (7, .long _), (9, .long _), (11, .long _)]) dX1_addBaskets_93 (Nat.le_of_ble_eq_true rfl) rfl ?_
        refine ev_keep [0, 1, 2, 3, 4, 5, 6, 7, 9] ?_
        refine tail X k _ _ _ _ Post hk (by omega) (hf k hk) (hg k hk) rfl ?_
        unfold withF at ih
        first | (rw [if_pos (show X.1 (16 + 0) = -1 from cq55)] at ih; exact ih) | (rw [if_neg (show ¬ X.1 (16 + 0) = -1 from cq55)] at ih; exact ih)
    · rw [if_neg cq21] at ih
      refine ev_goto (pc := 24) (tgt := 155) dX1_addBaskets_24 (by decide) ?_
      refine ev_iincN (pc := 155) (lv' := [(0, .ref 17), (1, .ref 1), (2, .ref 9), (3, .ref 35), (4, .int _), (5, .int _)]) dX1_addBaskets_155 rfl (Nat.le_of_ble_eq_true rfl) rfl ?_
      refine ev_goto (pc := 158) (tgt := 3) dX1_addBaskets_158 (by decide) ?_
      exact ih
  refine ct_of rfl rfl ?_
  refine ev_iconst (pc := 0) (v := nI 0) dX1_addBaskets_0 (by decide) ?_
  refine ev_istore (pc := 1) (lv' := [(0, .ref 17), (1, .ref 1), (2, .ref 9), (3, .ref 35), (4, .int _), (5, .int _)]) dX1_addBaskets_1 (Nat.le_of_ble_eq_true rfl) rfl ?_
  refine loop_up (P := fun k => Ev g mX1_addBaskets 3 [(0, .ref 17), (1, .ref 1), (2, .ref 9), (3, .ref 35), (4, .int day), (5, .int (nI k))] [] (hC (it (baB 0 day) k S)) (RV (it (baB 0 day) nb S))) nb ?_ ?_ 0 (Nat.zero_le _)
  · have hB := hB.eq (eqB.it (baB_eq 0 day) nb S)
    obtain ⟨-, -, -, -, hs, hc, -⟩ := hB
    refine ev_iload (pc := 3) dX1_addBaskets_3 rfl ?_
    refine ev_aload_n (pc := 5) dX1_addBaskets_5 rfl ?_
    refine get_K_size (pc := 6) dX1_addBaskets_6 Fl_X1_81 hs ?_
    refine ev_icmp_geN (pc := 9) (tgt := 161) (by omega) (by omega) dX1_addBaskets_9 (by decide) (fun cq9 => ?_) (fun cq9 => absurd (Nat.le_refl nb) cq9)
    exact ev_ret (pc := 161) dX1_addBaskets_161 rfl rv
  · intro k hk ih
    exact step _ k _ hk (hB.eq (eqB.it (baB_eq 0 day) k S)) ih
theorem c_X1_addBaskets_1 {day : Int32} {nf nc nb : Nat} (hB : Bs S nf nc nb) : Ct g mX1_addBaskets [.ref 17, .ref 1, .ref 9, .ref 39, .int day] (hC S) (RV (it (baB 1 day) nb S)) := by
  have tail : ∀ (X : St) (k f : Nat) (fi : Int32) (w wi : Int64) (Post : Option Value → List va_E → Prop), k < nb → k < 300 → vp_in fi 40 → vp_in (X.2.1 8 k) 5 → fi.toNatClampNeg = f → Ev g mX1_addBaskets 3 [(0, .ref 17), (1, .ref 1), (2, .ref 9), (3, .ref 39), (4, .int day), (5, .int (nI (k + 1)))] [] (hC (baB3 f w wi (X.2.1 19 (X.2.1 8 k).toNatClampNeg).toInt64 (baB2 f w wi (X.2.1 19 (X.2.1 8 k).toNatClampNeg).toInt64 (baB1 f w wi (X.2.1 19 (X.2.1 8 k).toNatClampNeg).toInt64 X)))) Post → Ev g mX1_addBaskets 95 [(0, .ref 17), (1, .ref 1), (2, .ref 9), (3, .ref 39), (4, .int day), (5, .int (nI k)), (6, .int fi), (7, .long w), (9, .long wi)] [] (hC X) Post := by
    intro X k f fi w wi Post hk hk3 hf hg he ih
    subst he
    refine ev_aload_n (pc := 95) dX1_addBaskets_95 rfl ?_
    refine get_T1_price (pc := 96) dX1_addBaskets_96 Fl_X1_97 ?_
    refine ev_aload_n (pc := 99) dX1_addBaskets_99 rfl ?_
    refine get_K_grade (pc := 100) dX1_addBaskets_100 Fl_X1_100 ?_
    refine ev_iload (pc := 103) dX1_addBaskets_103 rfl ?_
    refine ldN_K_grade (pc := 105) dX1_addBaskets_105 (by omega) rfl ?_
    refine ld_T1_price (pc := 106) dX1_addBaskets_106 hg rfl ?_
    refine ev_i2l (pc := 107) dX1_addBaskets_107 ?_
    refine ev_lstore (pc := 108) (lv' := [(0, .ref 17), (1, .ref 1), (2, .ref 9), (3, .ref 39), (4, .int _), (5, .int _), (6, .int _), (7, .long _), (9, .long _), (11, .long _)]) dX1_addBaskets_108 (Nat.le_of_ble_eq_true rfl) rfl ?_
    refine ev_aload_n (pc := 110) dX1_addBaskets_110 rfl ?_
    refine get_BK_check (pc := 111) dX1_addBaskets_111 Fl_X1_18 ?_
    refine ev_iload (pc := 114) dX1_addBaskets_114 rfl ?_
    refine ev_dup2 (pc := 116) dX1_addBaskets_116 rfl rfl ?_
    refine ld_BK_check (pc := 117) dX1_addBaskets_117 hf rfl ?_
    refine ev_lload (pc := 118) dX1_addBaskets_118 rfl ?_
    refine ev_lload (pc := 120) dX1_addBaskets_120 rfl ?_
    refine ev_lmul (pc := 122) dX1_addBaskets_122 ?_
    refine ev_ladd (pc := 123) dX1_addBaskets_123 ?_
    refine as_BK_check (pc := 124) dX1_addBaskets_124 hf ?_
    refine ev_aload_n (pc := 125) dX1_addBaskets_125 rfl ?_
    refine get_BK_beyond (pc := 126) dX1_addBaskets_126 Fl_X1_21 ?_
    refine ev_iload (pc := 129) dX1_addBaskets_129 rfl ?_
    refine ev_dup2 (pc := 131) dX1_addBaskets_131 rfl rfl ?_
    refine ld_BK_beyond (pc := 132) dX1_addBaskets_132 hf rfl ?_
    refine ev_lload (pc := 133) dX1_addBaskets_133 rfl ?_
    refine ev_lload (pc := 135) dX1_addBaskets_135 rfl ?_
    refine ev_lsub (pc := 137) dX1_addBaskets_137 ?_
    refine ev_lload (pc := 138) dX1_addBaskets_138 rfl ?_
    refine ev_lmul (pc := 140) dX1_addBaskets_140 ?_
    refine ev_ladd (pc := 141) dX1_addBaskets_141 ?_
    refine as_BK_beyond (pc := 142) dX1_addBaskets_142 hf ?_
    refine ev_aload_n (pc := 143) dX1_addBaskets_143 rfl ?_
    refine get_BK_weight (pc := 144) dX1_addBaskets_144 Fl_X1_9 ?_
    refine ev_iload (pc := 147) dX1_addBaskets_147 rfl ?_
    refine ev_dup2 (pc := 149) dX1_addBaskets_149 rfl rfl ?_
    refine ld_BK_weight (pc := 150) dX1_addBaskets_150 hf rfl ?_
    refine ev_lload (pc := 151) dX1_addBaskets_151 rfl ?_
    refine ev_ladd (pc := 153) dX1_addBaskets_153 ?_
    refine as_BK_weight (pc := 154) dX1_addBaskets_154 hf ?_
    refine ev_iincN (pc := 155) (lv' := [(0, .ref 17), (1, .ref 1), (2, .ref 9), (3, .ref 39), (4, .int _), (5, .int _), (6, .int _), (7, .long _), (9, .long _), (11, .long _)]) dX1_addBaskets_155 rfl (Nat.le_of_ble_eq_true rfl) rfl ?_
    refine ev_goto (pc := 158) (tgt := 3) dX1_addBaskets_158 (by decide) ?_
    exact ev_keep [0, 1, 2, 3, 4, 5] ih
  have step : ∀ (X : St) (k : Nat) (Post : Option Value → List va_E → Prop), k < nb → Bs X nf nc nb → Ev g mX1_addBaskets 3 [(0, .ref 17), (1, .ref 1), (2, .ref 9), (3, .ref 39), (4, .int day), (5, .int (nI (k + 1)))] [] (hC (baB 1 day k X)) Post → Ev g mX1_addBaskets 3 [(0, .ref 17), (1, .ref 1), (2, .ref 9), (3, .ref 39), (4, .int day), (5, .int (nI k))] [] (hC X) Post := by
    intro X k Post hk hB ih
    obtain ⟨-, -, -, -, hs, hc, -, hf, hg⟩ := hB
    unfold baB at ih
    refine ev_iload (pc := 3) dX1_addBaskets_3 rfl ?_
    refine ev_aload_n (pc := 5) dX1_addBaskets_5 rfl ?_
    refine get_K_size (pc := 6) dX1_addBaskets_6 Fl_X1_81 hs ?_
    refine ev_icmp_geN (pc := 9) (tgt := 161) (by omega) (by omega) dX1_addBaskets_9 (by decide) (fun cq9 => absurd cq9 (by omega)) (fun cq9 => ?_)
    refine ev_aload_n (pc := 12) dX1_addBaskets_12 rfl ?_
    refine get_K_known (pc := 13) dX1_addBaskets_13 Fl_X1_84 ?_
    refine ev_iload (pc := 16) dX1_addBaskets_16 rfl ?_
    refine ldN_K_known (pc := 18) dX1_addBaskets_18 (by omega) rfl ?_
    refine ev_iload (pc := 19) dX1_addBaskets_19 rfl ?_
    refine ev_icmp_le (pc := 21) (tgt := 27) dX1_addBaskets_21 (by decide) (fun cq21 => ?_) (fun cq21 => ?_)
    · rw [if_pos cq21] at ih
      refine ev_aload_n (pc := 27) dX1_addBaskets_27 rfl ?_
      refine get_K_farmer (pc := 28) dX1_addBaskets_28 Fl_X1_85 ?_
      refine ev_iload (pc := 31) dX1_addBaskets_31 rfl ?_
      refine ldN_K_farmer (pc := 33) dX1_addBaskets_33 (by omega) rfl ?_
      refine ev_istore (pc := 34) (lv' := [(0, .ref 17), (1, .ref 1), (2, .ref 9), (3, .ref 39), (4, .int _), (5, .int _), (6, .int _)]) dX1_addBaskets_34 (Nat.le_of_ble_eq_true rfl) rfl ?_
      refine ev_aload_n (pc := 36) dX1_addBaskets_36 rfl ?_
      refine get_K_weight (pc := 37) dX1_addBaskets_37 Fl_X1_86 ?_
      refine ev_iload (pc := 40) dX1_addBaskets_40 rfl ?_
      refine ldN_K_weight (pc := 42) dX1_addBaskets_42 (by omega) rfl ?_
      refine ev_i2l (pc := 43) dX1_addBaskets_43 ?_
      refine ev_lstore (pc := 44) (lv' := [(0, .ref 17), (1, .ref 1), (2, .ref 9), (3, .ref 39), (4, .int _), (5, .int _), (6, .int _), (7, .long _)]) dX1_addBaskets_44 (Nat.le_of_ble_eq_true rfl) rfl ?_
      refine ev_lload (pc := 46) dX1_addBaskets_46 rfl ?_
      refine ev_lstore (pc := 48) (lv' := [(0, .ref 17), (1, .ref 1), (2, .ref 9), (3, .ref 39), (4, .int _), (5, .int _), (6, .int _), (7, .long _), (9, .long _)]) dX1_addBaskets_48 (Nat.le_of_ble_eq_true rfl) rfl ?_
      refine ev_aload_n (pc := 50) dX1_addBaskets_50 rfl ?_
      refine get_T1_quota (pc := 51) dX1_addBaskets_51 Fl_X1_88 rfl ?_
      refine ev_iconst (pc := 54) (v := -1) dX1_addBaskets_54 (by decide) ?_
      refine ev_icmp_eq (pc := 55) (tgt := 95) dX1_addBaskets_55 (by decide) (fun cq55 => ?_) (fun cq55 => ?_)
      · refine ev_keep [0, 1, 2, 3, 4, 5, 6, 7, 9] ?_
        refine tail X k _ _ _ _ Post hk (by omega) (hf k hk) (hg k hk) rfl ?_
        unfold withF at ih
        first | (rw [if_pos (show X.1 (16 + 1) = -1 from cq55)] at ih; exact ih) | (rw [if_neg (show ¬ X.1 (16 + 1) = -1 from cq55)] at ih; exact ih)
      · refine ev_aload_n (pc := 58) dX1_addBaskets_58 rfl ?_
        refine get_T1_quota (pc := 59) dX1_addBaskets_59 Fl_X1_88 rfl ?_
        refine ev_i2l (pc := 62) dX1_addBaskets_62 ?_
        refine ev_aload_n (pc := 63) dX1_addBaskets_63 rfl ?_
        refine get_F_fields (pc := 64) dX1_addBaskets_64 Fl_X1_91 ?_
        refine ev_iload (pc := 67) dX1_addBaskets_67 rfl ?_
        refine ld_F_fields (pc := 69) dX1_addBaskets_69 (hf k hk) rfl ?_
        refine ev_i2l (pc := 70) dX1_addBaskets_70 ?_
        refine ev_lmul (pc := 71) dX1_addBaskets_71 ?_
        refine ev_aload_n (pc := 72) dX1_addBaskets_72 rfl ?_
        refine get_BK_weight (pc := 73) dX1_addBaskets_73 Fl_X1_9 ?_
        refine ev_iload (pc := 76) dX1_addBaskets_76 rfl ?_
        refine ld_BK_weight (pc := 78) dX1_addBaskets_78 (hf k hk) rfl ?_
        refine ev_lsub (pc := 79) dX1_addBaskets_79 ?_
        refine ev_lstore (pc := 80) (lv' := [(0, .ref 17), (1, .ref 1), (2, .ref 9), (3, .ref 39), (4, .int _), (5, .int _), (6, .int _), (7, .long _), (9, .long _), (11, .long _)]) dX1_addBaskets_80 (Nat.le_of_ble_eq_true rfl) rfl ?_
        refine ev_lconst (pc := 82) (v := 0) dX1_addBaskets_82 (by decide) ?_
        refine ev_lload (pc := 83) dX1_addBaskets_83 rfl ?_
        refine ev_lload (pc := 85) dX1_addBaskets_85 rfl ?_
        refine ev_mmin_long (pc := 87) dX1_addBaskets_87 Mx_X1_62 Mxs_minJ In_Math Mxc_minJ rfl rfl ?_
        refine ev_mmax_long (pc := 90) dX1_addBaskets_90 Mx_X1_94 Mxs_maxJ In_Math Mxc_maxJ rfl rfl ?_
        refine ev_lstore (pc := 93) (lv' := [(0, .ref 17), (1, .ref 1), (2, .ref 9), (3, .ref 39), (4, .int _), (5, .int _), (6, .int _), (7, .long _), (9, .long _), (11, .long _)]) dX1_addBaskets_93 (Nat.le_of_ble_eq_true rfl) rfl ?_
        refine ev_keep [0, 1, 2, 3, 4, 5, 6, 7, 9] ?_
        refine tail X k _ _ _ _ Post hk (by omega) (hf k hk) (hg k hk) rfl ?_
        unfold withF at ih
        first | (rw [if_pos (show X.1 (16 + 1) = -1 from cq55)] at ih; exact ih) | (rw [if_neg (show ¬ X.1 (16 + 1) = -1 from cq55)] at ih; exact ih)
    · rw [if_neg cq21] at ih
      refine ev_goto (pc := 24) (tgt := 155) dX1_addBaskets_24 (by decide) ?_
      refine ev_iincN (pc := 155) (lv' := [(0, .ref 17), (1, .ref 1), (2, .ref 9), (3, .ref 39), (4, .int _), (5, .int _)]) dX1_addBaskets_155 rfl (Nat.le_of_ble_eq_true rfl) rfl ?_
      refine ev_goto (pc := 158) (tgt := 3) dX1_addBaskets_158 (by decide) ?_
      exact ih
  refine ct_of rfl rfl ?_
  refine ev_iconst (pc := 0) (v := nI 0) dX1_addBaskets_0 (by decide) ?_
  refine ev_istore (pc := 1) (lv' := [(0, .ref 17), (1, .ref 1), (2, .ref 9), (3, .ref 39), (4, .int _), (5, .int _)]) dX1_addBaskets_1 (Nat.le_of_ble_eq_true rfl) rfl ?_
  refine loop_up (P := fun k => Ev g mX1_addBaskets 3 [(0, .ref 17), (1, .ref 1), (2, .ref 9), (3, .ref 39), (4, .int day), (5, .int (nI k))] [] (hC (it (baB 1 day) k S)) (RV (it (baB 1 day) nb S))) nb ?_ ?_ 0 (Nat.zero_le _)
  · have hB := hB.eq (eqB.it (baB_eq 1 day) nb S)
    obtain ⟨-, -, -, -, hs, hc, -⟩ := hB
    refine ev_iload (pc := 3) dX1_addBaskets_3 rfl ?_
    refine ev_aload_n (pc := 5) dX1_addBaskets_5 rfl ?_
    refine get_K_size (pc := 6) dX1_addBaskets_6 Fl_X1_81 hs ?_
    refine ev_icmp_geN (pc := 9) (tgt := 161) (by omega) (by omega) dX1_addBaskets_9 (by decide) (fun cq9 => ?_) (fun cq9 => absurd (Nat.le_refl nb) cq9)
    exact ev_ret (pc := 161) dX1_addBaskets_161 rfl rv
  · intro k hk ih
    exact step _ k _ hk (hB.eq (eqB.it (baB_eq 1 day) k S)) ih
end BK
