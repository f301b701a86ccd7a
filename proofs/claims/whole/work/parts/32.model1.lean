section MO1
variable {g : GG} {S : St}
theorem i64_lt (a b : Int32) : a.toInt64 < b.toInt64 ↔ a < b := by
  rw [Int64.lt_iff_toInt_lt, Int32.lt_iff_toInt_lt, Int32.toInt_toInt64, Int32.toInt_toInt64]
theorem c_X10_in {a lo hi : Int32} {x y z : Int64} (hx : x = a.toInt64) (hy : y = lo.toInt64) (hz : z = hi.toInt64) : Ct g mX10_in [.long x, .long y, .long z] (hC S) (RI (b2i (!outB a lo hi)) S) := by
  subst hx; subst hy; subst hz
  refine ct_of rfl rfl ?_
  refine ev_lload_n (pc := 0) dX10_in_0 rfl ?_
  refine ev_lload_n (pc := 1) dX10_in_1 rfl ?_
  refine ev_lcmp_lt (pc := 2) (tgt := 17) dX10_in_2 dX10_in_3 (by decide) (fun cq2 => ?_) (fun cq2 => ?_)
  · rw [i64_lt] at cq2
    refine ev_iconst (pc := 17) (v := 0) dX10_in_17 (by decide) ?_
    exact ev_iret (pc := 18) dX10_in_18 rfl rfl (ri' (by simp only [outB, b2i]; first | (simp [cq2]; done) | (simp [cq2, Int32.not_le.mpr cq9]; done) | (simp [cq2, Int32.not_lt.mp cq9]; done)) rfl)
  · rw [i64_lt] at cq2
    refine ev_lload_n (pc := 6) dX10_in_6 rfl ?_
    refine ev_lload (pc := 7) dX10_in_7 rfl ?_
    refine ev_lcmp_gt (pc := 9) (tgt := 17) dX10_in_9 dX10_in_10 (by decide) (fun cq9 => ?_) (fun cq9 => ?_)
    · rw [i64_lt] at cq9
      refine ev_iconst (pc := 17) (v := 0) dX10_in_17 (by decide) ?_
      exact ev_iret (pc := 18) dX10_in_18 rfl rfl (ri' (by simp only [outB, b2i]; first | (simp [cq2]; done) | (simp [cq2, Int32.not_le.mpr cq9]; done) | (simp [cq2, Int32.not_lt.mp cq9]; done)) rfl)
    · rw [i64_lt] at cq9
      refine ev_iconst (pc := 13) (v := 1) dX10_in_13 (by decide) ?_
      refine ev_goto (pc := 14) (tgt := 18) dX10_in_14 (by decide) ?_
      exact ev_iret (pc := 18) dX10_in_18 rfl rfl (ri' (by simp only [outB, b2i]; first | (simp [cq2]; done) | (simp [cq2, Int32.not_le.mpr cq9]; done) | (simp [cq2, Int32.not_lt.mp cq9]; done)) rfl)
theorem c_told_neg {v : Int32} (h : ¬ 0 ≤ v) : Ct g mX10_told [.ref 43, .int v] (hC S) (RI v (setI S 21 v)) := by
  refine ct_of rfl rfl ?_
  refine ev_aload_n (pc := 0) dX10_told_0 rfl ?_
  refine ev_iload_n (pc := 1) dX10_told_1 rfl ?_
  refine ev_if_ge (pc := 2) (tgt := 9) dX10_told_2 (by decide) (fun cq2 => absurd cq2 h) (fun cq2 => ?_)
  refine ev_iload_n (pc := 5) dX10_told_5 rfl ?_
  refine ev_goto (pc := 6) (tgt := 10) dX10_told_6 (by decide) ?_
  refine put_MO_status (pc := 10) dX10_told_10 Fp_X10_120 ?_
  refine ev_iload_n (pc := 13) dX10_told_13 rfl ?_
  exact ev_iret (pc := 14) dX10_told_14 rfl rfl ri
theorem c_told_pos {v : Int32} (h : 0 ≤ v) : Ct g mX10_told [.ref 43, .int v] (hC S) (RI v (setI S 21 0)) := by
  refine ct_of rfl rfl ?_
  refine ev_aload_n (pc := 0) dX10_told_0 rfl ?_
  refine ev_iload_n (pc := 1) dX10_told_1 rfl ?_
  refine ev_if_ge (pc := 2) (tgt := 9) dX10_told_2 (by decide) (fun cq2 => ?_) (fun cq2 => absurd h cq2)
  refine ev_iconst (pc := 9) (v := 0) dX10_told_9 (by decide) ?_
  refine put_MO_status (pc := 10) dX10_told_10 Fp_X10_120 ?_
  refine ev_iload_n (pc := 13) dX10_told_13 rfl ?_
  exact ev_iret (pc := 14) dX10_told_14 rfl rfl ri
theorem c_X10_isDay {k : Int32} : Ct g mX10_isDay [.int k] (hC S) (RI (b2i (!outB k 0 400)) S) := by
  refine ct_of rfl rfl ?_
  refine ev_iload_n (pc := 0) dX10_isDay_0 rfl ?_
  refine ev_i2l (pc := 1) dX10_isDay_1 ?_
  refine ev_lconst (pc := 2) (v := 0) dX10_isDay_2 (by decide) ?_
  refine ev_ldc2 (pc := 3) dX10_isDay_3 Cn_X10_123 ?_
  refine callS3I (pc := 6) dX10_isDay_6 Ml_X10_125 M_X10_in rfl rfl (c_X10_in (lo := 0) (hi := 400) rfl (by decide) (by decide)) ?_
  exact ev_iret (pc := 9) dX10_isDay_9 rfl nb ri
theorem i64_pred {n : Nat} (h : n < 2 ^ 30) : (nI n).toInt64 - 1 = (nI n - 1).toInt64 := by
  apply Int64.toInt_inj.mp
  rw [Int32.toInt_toInt64]
  have e1 : (nI n - 1).toInt = (n : Int) - 1 := pk_sub_toInt (a := n) (b := 1) h (by decide)
  rw [e1, nI_l (by omega)]
  have e2 : (lN n).toInt = n := lN_toInt (by omega)
  rw [Int64.toInt_sub, e2, show (1 : Int64).toInt = 1 by decide]
  exact Int.bmod_eq_of_le (by omega) (by omega)
theorem c_X10_isFarmer {f : Int32} {nf : Nat} (hs : S.1 22 = nI nf) (hn : nf ≤ 40) : Ct g mX10_isFarmer [.ref 43, .int f] (hC S) (RI (b2i (!outB f 0 (nI nf - 1))) S) := by
  refine ct_of rfl rfl ?_
  refine ev_iload_n (pc := 0) dX10_isFarmer_0 rfl ?_
  refine ev_i2l (pc := 1) dX10_isFarmer_1 ?_
  refine ev_lconst (pc := 2) (v := 0) dX10_isFarmer_2 (by decide) ?_
  refine ev_aload_n (pc := 3) dX10_isFarmer_3 rfl ?_
  refine get_MO_farmers (pc := 4) dX10_isFarmer_4 Fl_X10_129 hs ?_
  refine ev_i2l (pc := 7) dX10_isFarmer_7 ?_
  refine ev_lconst (pc := 8) (v := 1) dX10_isFarmer_8 (by decide) ?_
  refine ev_lsub (pc := 9) dX10_isFarmer_9 ?_
  refine callS3I (pc := 10) dX10_isFarmer_10 Ml_X10_125 M_X10_in rfl rfl (c_X10_in (lo := 0) (hi := nI nf - 1) rfl (by decide) (i64_pred (by omega))) ?_
  exact ev_iret (pc := 13) dX10_isFarmer_13 rfl nb ri
def th (S : St) : St := setI S 20 0
def toldM (x : Int32) (S : St) : Int32 × St := (x, setI S 21 x)
def addFM (n : Nat) (a b c : Int32) (S : St) : St := setI (setA (setA (setA S 24 (upd (S.2.1 24) n a)) 25 (upd (S.2.1 25) n b)) 26 (upd (S.2.1 26) n c)) 22 (nI (n + 1))
def farmerM (nf : Nat) (a b c : Int32) (S : St) : Int32 × St :=
  if outB a 0 9 = true then toldM (-1) (th S) else if outB b 0 1000 = true then toldM (-1) (th S) else if outB c 1 50 = true then toldM (-1) (th S) else if nf < 40 then (nI nf, setI (addFM nf a b c (th S)) 21 0) else toldM (-5) (th S)
theorem bnot_f {b : Bool} (h : (!b) = false) : b = true := by cases b; exact absurd h (by decide); rfl
theorem bnot_t {b : Bool} (h : (!b) = true) : ¬ b = true := by cases b; decide; exact absurd h (by decide)
theorem c_X10_farmer {a b c : Int32} {nf : Nat} (hs : S.1 22 = nI nf) (hn : nf ≤ 40) : Ct g mX10_farmer [.ref 43, .int a, .int b, .int c] (hC S) (RI (farmerM nf a b c S).1 (farmerM nf a b c S).2) := by
  refine ct_of rfl rfl ?_
  unfold farmerM
  refine ev_aload_n (pc := 0) dX10_farmer_0 rfl ?_
  refine ev_iconst (pc := 1) (v := 0) dX10_farmer_1 (by decide) ?_
  refine put_MO_thrown (pc := 2) dX10_farmer_2 Fp_X10_117 ?_
  refine ev_iload_n (pc := 5) dX10_farmer_5 rfl ?_
  refine ev_i2l (pc := 6) dX10_farmer_6 ?_
  refine ev_lconst (pc := 7) (v := 0) dX10_farmer_7 (by decide) ?_
  refine ev_ldc2 (pc := 8) dX10_farmer_8 Cn_X10_132 ?_
  refine callS3I (pc := 11) dX10_farmer_11 Ml_X10_125 M_X10_in rfl rfl (c_X10_in (lo := 0) (hi := 9) rfl (by decide) (by decide)) ?_
  refine ev_if_eqB (pc := 14) (tgt := 41) dX10_farmer_14 (by decide) (fun cq14 => ?_) (fun cq14 => ?_)
  · rw [if_pos (bnot_f cq14)]
    refine ev_aload_n (pc := 41) dX10_farmer_41 rfl ?_
    refine ev_iconst (pc := 42) (v := -1) dX10_farmer_42 (by decide) ?_
    refine callV1I (pc := 43) dX10_farmer_43 Ml_X10_138 M_X10_told rfl rfl rfl rfl (c_told_neg (by decide)) ?_
    exact ev_iret (pc := 46) dX10_farmer_46 rfl rfl ri
  · rw [if_neg (bnot_t cq14)]
    refine ev_iload_n (pc := 17) dX10_farmer_17 rfl ?_
    refine ev_i2l (pc := 18) dX10_farmer_18 ?_
    refine ev_lconst (pc := 19) (v := 0) dX10_farmer_19 (by decide) ?_
    refine ev_ldc2 (pc := 20) dX10_farmer_20 Cn_X10_134 ?_
    refine callS3I (pc := 23) dX10_farmer_23 Ml_X10_125 M_X10_in rfl rfl (c_X10_in (lo := 0) (hi := 1000) rfl (by decide) (by decide)) ?_
    refine ev_if_eqB (pc := 26) (tgt := 41) dX10_farmer_26 (by decide) (fun cq26 => ?_) (fun cq26 => ?_)
    · rw [if_pos (bnot_f cq26)]
      refine ev_aload_n (pc := 41) dX10_farmer_41 rfl ?_
      refine ev_iconst (pc := 42) (v := -1) dX10_farmer_42 (by decide) ?_
      refine callV1I (pc := 43) dX10_farmer_43 Ml_X10_138 M_X10_told rfl rfl rfl rfl (c_told_neg (by decide)) ?_
      exact ev_iret (pc := 46) dX10_farmer_46 rfl rfl ri
    · rw [if_neg (bnot_t cq26)]
      refine ev_iload_n (pc := 29) dX10_farmer_29 rfl ?_
      refine ev_i2l (pc := 30) dX10_farmer_30 ?_
      refine ev_lconst (pc := 31) (v := 1) dX10_farmer_31 (by decide) ?_
      refine ev_ldc2 (pc := 32) dX10_farmer_32 Cn_X10_136 ?_
      refine callS3I (pc := 35) dX10_farmer_35 Ml_X10_125 M_X10_in rfl rfl (c_X10_in (lo := 1) (hi := 50) rfl (by decide) (by decide)) ?_
      refine ev_if_neB (pc := 38) (tgt := 47) dX10_farmer_38 (by decide) (fun cq38 => ?_) (fun cq38 => ?_)
      · rw [if_neg (bnot_t cq38)]
        refine ev_aload_n (pc := 47) dX10_farmer_47 rfl ?_
        refine get_MO_farmers (pc := 48) dX10_farmer_48 Fl_X10_129 hs ?_
        refine ev_bipush (pc := 51) (v := nI 40) dX10_farmer_51 (by decide) ?_
        refine ev_icmp_neN (pc := 53) (tgt := 63) (by omega) (by omega) dX10_farmer_53 (by decide) (fun cq53 => ?_) (fun cq53 => ?_)
        · rw [if_pos (show nf < 40 by omega)]
          refine ev_aload_n (pc := 63) dX10_farmer_63 rfl ?_
          refine get_MO_fGroup (pc := 64) dX10_farmer_64 Fl_X10_7 ?_
          refine ev_aload_n (pc := 67) dX10_farmer_67 rfl ?_
          refine get_MO_farmers (pc := 68) dX10_farmer_68 Fl_X10_129 hs ?_
          refine ev_iload_n (pc := 71) dX10_farmer_71 rfl ?_
          refine asN_MO_fGroup (pc := 72) dX10_farmer_72 (by omega) ?_
          refine ev_aload_n (pc := 73) dX10_farmer_73 rfl ?_
          refine get_MO_fPlace (pc := 74) dX10_farmer_74 Fl_X10_13 ?_
          refine ev_aload_n (pc := 77) dX10_farmer_77 rfl ?_
          refine get_MO_farmers (pc := 78) dX10_farmer_78 Fl_X10_129 hs ?_
          refine ev_iload_n (pc := 81) dX10_farmer_81 rfl ?_
          refine asN_MO_fPlace (pc := 82) dX10_farmer_82 (by omega) ?_
          refine ev_aload_n (pc := 83) dX10_farmer_83 rfl ?_
          refine get_MO_fFields (pc := 84) dX10_farmer_84 Fl_X10_16 ?_
          refine ev_aload_n (pc := 87) dX10_farmer_87 rfl ?_
          refine get_MO_farmers (pc := 88) dX10_farmer_88 Fl_X10_129 hs ?_
          refine ev_iload_n (pc := 91) dX10_farmer_91 rfl ?_
          refine asN_MO_fFields (pc := 92) dX10_farmer_92 (by omega) ?_
          refine ev_aload_n (pc := 93) dX10_farmer_93 rfl ?_
          refine ev_dup (pc := 94) dX10_farmer_94 rfl ?_
          refine get_MO_farmers (pc := 95) dX10_farmer_95 Fl_X10_129 hs ?_
          refine ev_iconst (pc := 98) (v := 1) dX10_farmer_98 (by decide) ?_
          refine ev_iadd (pc := 99) dX10_farmer_99 ?_
          refine put_MO_farmers (pc := 100) dX10_farmer_100 Fp_X10_129 ?_
          refine ev_aload_n (pc := 103) dX10_farmer_103 rfl ?_
          refine ev_aload_n (pc := 104) dX10_farmer_104 rfl ?_
          refine get_MO_farmers (pc := 105) dX10_farmer_105 Fl_X10_129 (show _ = nI nf + 1 from rfl) ?_
          refine ev_iconst (pc := 108) (v := 1) dX10_farmer_108 (by decide) ?_
          refine ev_isub (pc := 109) dX10_farmer_109 ?_
          rw [nI_1, nI_pred]
          refine callV1I (pc := 110) dX10_farmer_110 Ml_X10_138 M_X10_told rfl rfl rfl rfl (c_told_pos (nI_pos' (by omega))) ?_
          exact ev_iret (pc := 113) dX10_farmer_113 rfl rfl ri
        · rw [if_neg (show ¬ nf < 40 by omega)]
          refine ev_aload_n (pc := 56) dX10_farmer_56 rfl ?_
          refine ev_bipush (pc := 57) (v := -5) dX10_farmer_57 (by decide) ?_
          refine callV1I (pc := 59) dX10_farmer_59 Ml_X10_138 M_X10_told rfl rfl rfl rfl (c_told_neg (by decide)) ?_
          exact ev_iret (pc := 62) dX10_farmer_62 rfl rfl ri
      · rw [if_pos (bnot_f cq38)]
        refine ev_aload_n (pc := 41) dX10_farmer_41 rfl ?_
        refine ev_iconst (pc := 42) (v := -1) dX10_farmer_42 (by decide) ?_
        refine callV1I (pc := 43) dX10_farmer_43 Ml_X10_138 M_X10_told rfl rfl rfl rfl (c_told_neg (by decide)) ?_
        exact ev_iret (pc := 46) dX10_farmer_46 rfl rfl ri
def addCM (n : Nat) (a b c : Int32) (S : St) : St := setI (setA (setA (setA S 27 (upd (S.2.1 27) n a)) 28 (upd (S.2.1 28) n b)) 29 (upd (S.2.1 29) n c)) 23 (nI n + 1)
def creditM (nf nc : Nat) (f a k : Int32) (S : St) : Int32 × St :=
  if outB a 1 100000 = true then toldM (-1) (th S) else if outB k 0 400 = true then toldM (-1) (th S) else if outB f 0 (nI nf - 1) = true then toldM (-2) (th S) else if nc < 200 then (nI nc + 1, setI (addCM nc f a k (th S)) 21 0) else toldM (-5) (th S)
theorem pos1 {n : Nat} (h : n < 1000) : 0 ≤ nI n + 1 := by rw [nI_1]; exact nI_pos' (by omega)
theorem c_X10_credit {f a k : Int32} {nf nc : Nat} (hs : S.1 22 = nI nf) (hnf : nf ≤ 40) (hs2 : S.1 23 = nI nc) (hn : nc ≤ 200) : Ct g mX10_credit [.ref 43, .int f, .int a, .int k] (hC S) (RI (creditM nf nc f a k S).1 (creditM nf nc f a k S).2) := by
  refine ct_of rfl rfl ?_
  unfold creditM
  refine ev_aload_n (pc := 0) dX10_credit_0 rfl ?_
  refine ev_iconst (pc := 1) (v := 0) dX10_credit_1 (by decide) ?_
  refine put_MO_thrown (pc := 2) dX10_credit_2 Fp_X10_117 ?_
  refine ev_iload_n (pc := 5) dX10_credit_5 rfl ?_
  refine ev_i2l (pc := 6) dX10_credit_6 ?_
  refine ev_lconst (pc := 7) (v := 1) dX10_credit_7 (by decide) ?_
  refine ev_ldc2 (pc := 8) dX10_credit_8 Cn_X10_142 ?_
  refine callS3I (pc := 11) dX10_credit_11 Ml_X10_125 M_X10_in rfl rfl (c_X10_in (lo := 1) (hi := 100000) rfl (by decide) (by decide)) ?_
  refine ev_if_eqB (pc := 14) (tgt := 24) dX10_credit_14 (by decide) (fun cq14 => ?_) (fun cq14 => ?_)
  · rw [if_pos (bnot_f cq14)]
    refine ev_aload_n (pc := 24) dX10_credit_24 rfl ?_
    refine ev_iconst (pc := 25) (v := -1) dX10_credit_25 (by decide) ?_
    refine callV1I (pc := 26) dX10_credit_26 Ml_X10_138 M_X10_told rfl rfl rfl rfl (c_told_neg (by decide)) ?_
    exact ev_iret (pc := 29) dX10_credit_29 rfl rfl ri
  · rw [if_neg (bnot_t cq14)]
    refine ev_iload_n (pc := 17) dX10_credit_17 rfl ?_
    refine callS1I (pc := 18) dX10_credit_18 Ml_X10_144 M_X10_isDay rfl rfl c_X10_isDay ?_
    refine ev_if_neB (pc := 21) (tgt := 30) dX10_credit_21 (by decide) (fun cq21 => ?_) (fun cq21 => ?_)
    · rw [if_neg (bnot_t cq21)]
      refine ev_aload_n (pc := 30) dX10_credit_30 rfl ?_
      refine ev_iload_n (pc := 31) dX10_credit_31 rfl ?_
      refine callV1I (pc := 32) dX10_credit_32 Ml_X10_148 M_X10_isFarmer rfl rfl rfl rfl (c_X10_isFarmer hs hnf) ?_
      refine ev_if_neB (pc := 35) (tgt := 45) dX10_credit_35 (by decide) (fun cq35 => ?_) (fun cq35 => ?_)
      · rw [if_neg (bnot_t cq35)]
        refine ev_aload_n (pc := 45) dX10_credit_45 rfl ?_
        refine get_MO_credits (pc := 46) dX10_credit_46 Fl_X10_151 hs2 ?_
        refine ev_sipush (pc := 49) (v := nI 200) dX10_credit_49 (by decide) ?_
        refine ev_icmp_neN (pc := 52) (tgt := 62) (by omega) (by omega) dX10_credit_52 (by decide) (fun cq52 => ?_) (fun cq52 => ?_)
        · rw [if_pos (show nc < 200 by omega)]
          refine ev_aload_n (pc := 62) dX10_credit_62 rfl ?_
          refine get_MO_cFarmer (pc := 63) dX10_credit_63 Fl_X10_19 ?_
          refine ev_aload_n (pc := 66) dX10_credit_66 rfl ?_
          refine get_MO_credits (pc := 67) dX10_credit_67 Fl_X10_151 hs2 ?_
          refine ev_iload_n (pc := 70) dX10_credit_70 rfl ?_
          refine asN_MO_cFarmer (pc := 71) dX10_credit_71 (by omega) ?_
          refine ev_aload_n (pc := 72) dX10_credit_72 rfl ?_
          refine get_MO_cAmount (pc := 73) dX10_credit_73 Fl_X10_22 ?_
          refine ev_aload_n (pc := 76) dX10_credit_76 rfl ?_
          refine get_MO_credits (pc := 77) dX10_credit_77 Fl_X10_151 hs2 ?_
          refine ev_iload_n (pc := 80) dX10_credit_80 rfl ?_
          refine asN_MO_cAmount (pc := 81) dX10_credit_81 (by omega) ?_
          refine ev_aload_n (pc := 82) dX10_credit_82 rfl ?_
          refine get_MO_cKnown (pc := 83) dX10_credit_83 Fl_X10_25 ?_
          refine ev_aload_n (pc := 86) dX10_credit_86 rfl ?_
          refine get_MO_credits (pc := 87) dX10_credit_87 Fl_X10_151 hs2 ?_
          refine ev_iload_n (pc := 90) dX10_credit_90 rfl ?_
          refine asN_MO_cKnown (pc := 91) dX10_credit_91 (by omega) ?_
          refine ev_aload_n (pc := 92) dX10_credit_92 rfl ?_
          refine ev_dup (pc := 93) dX10_credit_93 rfl ?_
          refine get_MO_credits (pc := 94) dX10_credit_94 Fl_X10_151 hs2 ?_
          refine ev_iconst (pc := 97) (v := 1) dX10_credit_97 (by decide) ?_
          refine ev_iadd (pc := 98) dX10_credit_98 ?_
          refine put_MO_credits (pc := 99) dX10_credit_99 Fp_X10_151 ?_
          refine ev_aload_n (pc := 102) dX10_credit_102 rfl ?_
          refine ev_aload_n (pc := 103) dX10_credit_103 rfl ?_
          refine get_MO_credits (pc := 104) dX10_credit_104 Fl_X10_151 (show _ = nI nc + 1 from rfl) ?_
          refine callV1I (pc := 107) dX10_credit_107 Ml_X10_138 M_X10_told rfl rfl rfl rfl (c_told_pos (pos1 (by omega))) ?_
          exact ev_iret (pc := 110) dX10_credit_110 rfl rfl ri
        · rw [if_neg (show ¬ nc < 200 by omega)]
          refine ev_aload_n (pc := 55) dX10_credit_55 rfl ?_
          refine ev_bipush (pc := 56) (v := -5) dX10_credit_56 (by decide) ?_
          refine callV1I (pc := 58) dX10_credit_58 Ml_X10_138 M_X10_told rfl rfl rfl rfl (c_told_neg (by decide)) ?_
          exact ev_iret (pc := 61) dX10_credit_61 rfl rfl ri
      · rw [if_pos (bnot_f cq35)]
        refine ev_aload_n (pc := 38) dX10_credit_38 rfl ?_
        refine ev_bipush (pc := 39) (v := -2) dX10_credit_39 (by decide) ?_
        refine callV1I (pc := 41) dX10_credit_41 Ml_X10_138 M_X10_told rfl rfl rfl rfl (c_told_neg (by decide)) ?_
        exact ev_iret (pc := 44) dX10_credit_44 rfl rfl ri
    · rw [if_pos (bnot_f cq21)]
      refine ev_aload_n (pc := 24) dX10_credit_24 rfl ?_
      refine ev_iconst (pc := 25) (v := -1) dX10_credit_25 (by decide) ?_
      refine callV1I (pc := 26) dX10_credit_26 Ml_X10_138 M_X10_told rfl rfl rfl rfl (c_told_neg (by decide)) ?_
      exact ev_iret (pc := 29) dX10_credit_29 rfl rfl ri
def addKM (n : Nat) (a b c d : Int32) (S : St) : St := setI (setA (setA (setA (setA S 30 (upd (S.2.1 30) n a)) 31 (upd (S.2.1 31) n b)) 32 (upd (S.2.1 32) n c)) 33 (upd (S.2.1 33) n d)) 24 (nI n + 1)
def basketM (nf nb : Nat) (f w r k : Int32) (S : St) : Int32 × St :=
  if outB w 1 1000 = true then toldM (-1) (th S) else if outB r 0 4 = true then toldM (-1) (th S) else if outB k 0 400 = true then toldM (-1) (th S) else if outB f 0 (nI nf - 1) = true then toldM (-2) (th S) else if nb < 300 then (nI nb + 1, setI (addKM nb f w r k (th S)) 21 0) else toldM (-5) (th S)
theorem c_X10_basket {f w r k : Int32} {nf nb : Nat} (hs : S.1 22 = nI nf) (hnf : nf ≤ 40) (hs2 : S.1 24 = nI nb) (hn : nb ≤ 300) : Ct g mX10_basket [.ref 43, .int f, .int w, .int r, .int k] (hC S) (RI (basketM nf nb f w r k S).1 (basketM nf nb f w r k S).2) := by
  refine ct_of rfl rfl ?_
  unfold basketM
  refine ev_aload_n (pc := 0) dX10_basket_0 rfl ?_
  refine ev_iconst (pc := 1) (v := 0) dX10_basket_1 (by decide) ?_
  refine put_MO_thrown (pc := 2) dX10_basket_2 Fp_X10_117 ?_
  refine ev_iload_n (pc := 5) dX10_basket_5 rfl ?_
  refine ev_i2l (pc := 6) dX10_basket_6 ?_
  refine ev_lconst (pc := 7) (v := 1) dX10_basket_7 (by decide) ?_
  refine ev_ldc2 (pc := 8) dX10_basket_8 Cn_X10_134 ?_
  refine callS3I (pc := 11) dX10_basket_11 Ml_X10_125 M_X10_in rfl rfl (c_X10_in (lo := 1) (hi := 1000) rfl (by decide) (by decide)) ?_
  refine ev_if_eqB (pc := 14) (tgt := 37) dX10_basket_14 (by decide) (fun cq14 => ?_) (fun cq14 => ?_)
  · rw [if_pos (bnot_f cq14)]
    refine ev_aload_n (pc := 37) dX10_basket_37 rfl ?_
    refine ev_iconst (pc := 38) (v := -1) dX10_basket_38 (by decide) ?_
    refine callV1I (pc := 39) dX10_basket_39 Ml_X10_138 M_X10_told rfl rfl rfl rfl (c_told_neg (by decide)) ?_
    exact ev_iret (pc := 42) dX10_basket_42 rfl rfl ri
  · rw [if_neg (bnot_t cq14)]
    refine ev_iload_n (pc := 17) dX10_basket_17 rfl ?_
    refine ev_i2l (pc := 18) dX10_basket_18 ?_
    refine ev_lconst (pc := 19) (v := 0) dX10_basket_19 (by decide) ?_
    refine ev_ldc2 (pc := 20) dX10_basket_20 Cn_X10_154 ?_
    refine callS3I (pc := 23) dX10_basket_23 Ml_X10_125 M_X10_in rfl rfl (c_X10_in (lo := 0) (hi := 4) rfl (by decide) (by decide)) ?_
    refine ev_if_eqB (pc := 26) (tgt := 37) dX10_basket_26 (by decide) (fun cq26 => ?_) (fun cq26 => ?_)
    · rw [if_pos (bnot_f cq26)]
      refine ev_aload_n (pc := 37) dX10_basket_37 rfl ?_
      refine ev_iconst (pc := 38) (v := -1) dX10_basket_38 (by decide) ?_
      refine callV1I (pc := 39) dX10_basket_39 Ml_X10_138 M_X10_told rfl rfl rfl rfl (c_told_neg (by decide)) ?_
      exact ev_iret (pc := 42) dX10_basket_42 rfl rfl ri
    · rw [if_neg (bnot_t cq26)]
      refine ev_iload (pc := 29) dX10_basket_29 rfl ?_
      refine callS1I (pc := 31) dX10_basket_31 Ml_X10_144 M_X10_isDay rfl rfl c_X10_isDay ?_
      refine ev_if_neB (pc := 34) (tgt := 43) dX10_basket_34 (by decide) (fun cq34 => ?_) (fun cq34 => ?_)
      · rw [if_neg (bnot_t cq34)]
        refine ev_aload_n (pc := 43) dX10_basket_43 rfl ?_
        refine ev_iload_n (pc := 44) dX10_basket_44 rfl ?_
        refine callV1I (pc := 45) dX10_basket_45 Ml_X10_148 M_X10_isFarmer rfl rfl rfl rfl (c_X10_isFarmer hs hnf) ?_
        refine ev_if_neB (pc := 48) (tgt := 58) dX10_basket_48 (by decide) (fun cq48 => ?_) (fun cq48 => ?_)
        · rw [if_neg (bnot_t cq48)]
          refine ev_aload_n (pc := 58) dX10_basket_58 rfl ?_
          refine get_MO_baskets (pc := 59) dX10_basket_59 Fl_X10_156 hs2 ?_
          refine ev_sipush (pc := 62) (v := nI 300) dX10_basket_62 (by decide) ?_
          refine ev_icmp_neN (pc := 65) (tgt := 75) (by omega) (by omega) dX10_basket_65 (by decide) (fun cq65 => ?_) (fun cq65 => ?_)
          · rw [if_pos (show nb < 300 by omega)]
            refine ev_aload_n (pc := 75) dX10_basket_75 rfl ?_
            refine get_MO_bFarmer (pc := 76) dX10_basket_76 Fl_X10_28 ?_
            refine ev_aload_n (pc := 79) dX10_basket_79 rfl ?_
            refine get_MO_baskets (pc := 80) dX10_basket_80 Fl_X10_156 hs2 ?_
            refine ev_iload_n (pc := 83) dX10_basket_83 rfl ?_
            refine asN_MO_bFarmer (pc := 84) dX10_basket_84 (by omega) ?_
            refine ev_aload_n (pc := 85) dX10_basket_85 rfl ?_
            refine get_MO_bWeight (pc := 86) dX10_basket_86 Fl_X10_31 ?_
            refine ev_aload_n (pc := 89) dX10_basket_89 rfl ?_
            refine get_MO_baskets (pc := 90) dX10_basket_90 Fl_X10_156 hs2 ?_
            refine ev_iload_n (pc := 93) dX10_basket_93 rfl ?_
            refine asN_MO_bWeight (pc := 94) dX10_basket_94 (by omega) ?_
            refine ev_aload_n (pc := 95) dX10_basket_95 rfl ?_
            refine get_MO_bGrade (pc := 96) dX10_basket_96 Fl_X10_34 ?_
            refine ev_aload_n (pc := 99) dX10_basket_99 rfl ?_
            refine get_MO_baskets (pc := 100) dX10_basket_100 Fl_X10_156 hs2 ?_
            refine ev_iload_n (pc := 103) dX10_basket_103 rfl ?_
            refine asN_MO_bGrade (pc := 104) dX10_basket_104 (by omega) ?_
            refine ev_aload_n (pc := 105) dX10_basket_105 rfl ?_
            refine get_MO_bKnown (pc := 106) dX10_basket_106 Fl_X10_37 ?_
            refine ev_aload_n (pc := 109) dX10_basket_109 rfl ?_
            refine get_MO_baskets (pc := 110) dX10_basket_110 Fl_X10_156 hs2 ?_
            refine ev_iload (pc := 113) dX10_basket_113 rfl ?_
            refine asN_MO_bKnown (pc := 115) dX10_basket_115 (by omega) ?_
            refine ev_aload_n (pc := 116) dX10_basket_116 rfl ?_
            refine ev_dup (pc := 117) dX10_basket_117 rfl ?_
            refine get_MO_baskets (pc := 118) dX10_basket_118 Fl_X10_156 hs2 ?_
            refine ev_iconst (pc := 121) (v := 1) dX10_basket_121 (by decide) ?_
            refine ev_iadd (pc := 122) dX10_basket_122 ?_
            refine put_MO_baskets (pc := 123) dX10_basket_123 Fp_X10_156 ?_
            refine ev_aload_n (pc := 126) dX10_basket_126 rfl ?_
            refine ev_aload_n (pc := 127) dX10_basket_127 rfl ?_
            refine get_MO_baskets (pc := 128) dX10_basket_128 Fl_X10_156 (show _ = nI nb + 1 from rfl) ?_
            refine callV1I (pc := 131) dX10_basket_131 Ml_X10_138 M_X10_told rfl rfl rfl rfl (c_told_pos (pos1 (by omega))) ?_
            exact ev_iret (pc := 134) dX10_basket_134 rfl rfl ri
          · rw [if_neg (show ¬ nb < 300 by omega)]
            refine ev_aload_n (pc := 68) dX10_basket_68 rfl ?_
            refine ev_bipush (pc := 69) (v := -5) dX10_basket_69 (by decide) ?_
            refine callV1I (pc := 71) dX10_basket_71 Ml_X10_138 M_X10_told rfl rfl rfl rfl (c_told_neg (by decide)) ?_
            exact ev_iret (pc := 74) dX10_basket_74 rfl rfl ri
        · rw [if_pos (bnot_f cq48)]
          refine ev_aload_n (pc := 51) dX10_basket_51 rfl ?_
          refine ev_bipush (pc := 52) (v := -2) dX10_basket_52 (by decide) ?_
          refine callV1I (pc := 54) dX10_basket_54 Ml_X10_138 M_X10_told rfl rfl rfl rfl (c_told_neg (by decide)) ?_
          exact ev_iret (pc := 57) dX10_basket_57 rfl rfl ri
      · rw [if_pos (bnot_f cq34)]
        refine ev_aload_n (pc := 37) dX10_basket_37 rfl ?_
        refine ev_iconst (pc := 38) (v := -1) dX10_basket_38 (by decide) ?_
        refine callV1I (pc := 39) dX10_basket_39 Ml_X10_138 M_X10_told rfl rfl rfl rfl (c_told_neg (by decide)) ?_
        exact ev_iret (pc := 42) dX10_basket_42 rfl rfl ri
def byteM (n : Nat) (v : Int32) (S : St) : St := setI (setA S 40 (upd (S.2.1 40) n v)) 29 (nI (n + 1))
def byteAtM (x s : Int32) : Int32 := x >>> (s &&& 31) &&& 255
def fourM (n : Nat) (x : Int32) (S : St) : St := byteM (n + 3) (byteAtM x 0) (byteM (n + 2) (byteAtM x 8) (byteM (n + 1) (byteAtM x 16) (byteM n (byteAtM x 24) S)))
theorem c_X10_four {x : Int32} {n : Nat} (hs : S.1 29 = nI n) (hn : n + 4 ≤ 200) : Ct g mX10_four [.ref 43, .int x] (hC S) (RV (fourM n x S)) := by
  have L : ∀ (S : St) (n : Nat) (s s' : Int32) (Post : Option Value → List va_E → Prop), S.1 29 = nI n → n < 200 → ¬ s < 0 → s + Int32.ofInt (-8) = s' → Ev g mX10_four 3 [(0, .ref 43), (1, .int x), (2, .int s')] [] (hC (byteM n (byteAtM x s) S)) Post → Ev g mX10_four 3 [(0, .ref 43), (1, .int x), (2, .int s)] [] (hC S) Post := by
    intro S n s s' Post hs hn h0 hs' k
    subst hs'
    refine ev_iload_n (pc := 3) dX10_four_3 rfl ?_
    refine ev_if_lt (pc := 4) (tgt := 39) dX10_four_4 (by decide) (fun cq4 => absurd cq4 h0) (fun cq4 => ?_)
    refine ev_aload_n (pc := 7) dX10_four_7 rfl ?_
    refine get_MO_tape (pc := 8) dX10_four_8 Fl_X10_62 ?_
    refine ev_aload_n (pc := 11) dX10_four_11 rfl ?_
    refine get_MO_taped (pc := 12) dX10_four_12 Fl_X10_159 hs ?_
    refine ev_iload_n (pc := 15) dX10_four_15 rfl ?_
    refine ev_iload_n (pc := 16) dX10_four_16 rfl ?_
    refine ev_ishr (pc := 17) dX10_four_17 ?_
    refine ev_sipush (pc := 18) (v := 255) dX10_four_18 (by decide) ?_
    refine ev_iand (pc := 21) dX10_four_21 ?_
    refine asN_MO_tape (pc := 22) dX10_four_22 (by omega) ?_
    refine ev_aload_n (pc := 23) dX10_four_23 rfl ?_
    refine ev_dup (pc := 24) dX10_four_24 rfl ?_
    refine get_MO_taped (pc := 25) dX10_four_25 Fl_X10_159 hs ?_
    refine ev_iconst (pc := 28) (v := 1) dX10_four_28 (by decide) ?_
    refine ev_iadd (pc := 29) dX10_four_29 ?_
    rw [nI_1]
    refine put_MO_taped (pc := 30) dX10_four_30 Fp_X10_159 ?_
    refine ev_iinc (pc := 33) (lv' := [(0, .ref 43), (1, .int _), (2, .int _)]) dX10_four_33 rfl (Nat.le_of_ble_eq_true rfl) rfl ?_
    refine ev_goto (pc := 36) (tgt := 3) dX10_four_36 (by decide) ?_
    exact k
  refine ct_of rfl rfl ?_
  refine ev_bipush (pc := 0) (v := 24) dX10_four_0 (by decide) ?_
  refine ev_istore_n (pc := 2) (lv' := [(0, .ref 43), (1, .int _), (2, .int _)]) dX10_four_2 (Nat.le_of_ble_eq_true rfl) rfl ?_
  refine L S n 24 16 _ hs (by omega) (by decide) (by decide) ?_
  refine L _ (n + 1) 16 8 _ rfl (by omega) (by decide) (by decide) ?_
  refine L _ (n + 2) 8 0 _ rfl (by omega) (by decide) (by decide) ?_
  refine L _ (n + 3) 0 (-8) _ rfl (by omega) (by decide) (by decide) ?_
  refine ev_iload_n (pc := 3) dX10_four_3 rfl ?_
  refine ev_if_lt (pc := 4) (tgt := 39) dX10_four_4 (by decide) (fun cq4 => ?_) (fun cq4 => absurd (by decide) cq4)
  exact ev_ret (pc := 39) dX10_four_39 rfl rv
def feedM (n : Nat) (a b c d e : Int32) (S : St) : Int32 × St :=
  if n ≤ 180 then (nI (n + 20), fourM (n + 16) e (fourM (n + 12) d (fourM (n + 8) c (fourM (n + 4) b (fourM n a (th S)))))) else (-1, th S)
theorem c_X10_feed {a b c d e : Int32} {n : Nat} (hs : S.1 29 = nI n) (hn : n ≤ 200) : Ct g mX10_feed [.ref 43, .int a, .int b, .int c, .int d, .int e] (hC S) (RI (feedM n a b c d e S).1 (feedM n a b c d e S).2) := by
  refine ct_of rfl rfl ?_
  unfold feedM
  refine ev_aload_n (pc := 0) dX10_feed_0 rfl ?_
  refine ev_iconst (pc := 1) (v := 0) dX10_feed_1 (by decide) ?_
  refine put_MO_thrown (pc := 2) dX10_feed_2 Fp_X10_117 ?_
  refine ev_aload_n (pc := 5) dX10_feed_5 rfl ?_
  refine get_MO_taped (pc := 6) dX10_feed_6 Fl_X10_159 hs ?_
  refine ev_bipush (pc := 9) (v := nI 20) dX10_feed_9 (by decide) ?_
  refine ev_iadd (pc := 11) dX10_feed_11 ?_
  refine ev_sipush (pc := 12) (v := nI 200) dX10_feed_12 (by decide) ?_
  rw [nI_add]
  refine ev_icmp_leN (pc := 15) (tgt := 20) (by omega) (by omega) dX10_feed_15 (by decide) (fun cq15 => ?_) (fun cq15 => ?_)
  · rw [if_pos (show n ≤ 180 by omega)]
    refine ev_aload_n (pc := 20) dX10_feed_20 rfl ?_
    refine ev_iload_n (pc := 21) dX10_feed_21 rfl ?_
    refine callV1V (pc := 22) dX10_feed_22 Ml_X10_162 M_X10_four rfl rfl rfl rfl (c_X10_four (S := th S) hs (by omega)) ?_
    refine ev_aload_n (pc := 25) dX10_feed_25 rfl ?_
    refine ev_iload_n (pc := 26) dX10_feed_26 rfl ?_
    refine callV1V (pc := 27) dX10_feed_27 Ml_X10_162 M_X10_four rfl rfl rfl rfl (c_X10_four (n := n + 4) rfl (by omega)) ?_
    refine ev_aload_n (pc := 30) dX10_feed_30 rfl ?_
    refine ev_iload_n (pc := 31) dX10_feed_31 rfl ?_
    refine callV1V (pc := 32) dX10_feed_32 Ml_X10_162 M_X10_four rfl rfl rfl rfl (c_X10_four (n := n + 8) rfl (by omega)) ?_
    refine ev_aload_n (pc := 35) dX10_feed_35 rfl ?_
    refine ev_iload (pc := 36) dX10_feed_36 rfl ?_
    refine callV1V (pc := 38) dX10_feed_38 Ml_X10_162 M_X10_four rfl rfl rfl rfl (c_X10_four (n := n + 12) rfl (by omega)) ?_
    refine ev_aload_n (pc := 41) dX10_feed_41 rfl ?_
    refine ev_iload (pc := 42) dX10_feed_42 rfl ?_
    refine callV1V (pc := 44) dX10_feed_44 Ml_X10_162 M_X10_four rfl rfl rfl rfl (c_X10_four (n := n + 16) rfl (by omega)) ?_
    refine ev_aload_n (pc := 47) dX10_feed_47 rfl ?_
    refine get_MO_taped (pc := 48) dX10_feed_48 Fl_X10_159 (show _ = nI (n + 20) from rfl) ?_
    exact ev_iret (pc := 51) dX10_feed_51 rfl rfl ri
  · rw [if_neg (show ¬ n ≤ 180 by omega)]
    refine ev_iconst (pc := 18) (v := -1) dX10_feed_18 (by decide) ?_
    exact ev_iret (pc := 19) dX10_feed_19 rfl rfl ri
def endM (x : Int32) (S : St) : Int32 × St := if outB x 0 (S.1 29) = true then (-1, th S) else (x, setI (th S) 29 x)
theorem c_X10_end {x : Int32} : Ct g mX10_end [.ref 43, .int x] (hC S) (RI (endM x S).1 (endM x S).2) := by
  refine ct_of rfl rfl ?_
  unfold endM
  refine ev_aload_n (pc := 0) dX10_end_0 rfl ?_
  refine ev_iconst (pc := 1) (v := 0) dX10_end_1 (by decide) ?_
  refine put_MO_thrown (pc := 2) dX10_end_2 Fp_X10_117 ?_
  refine ev_iload_n (pc := 5) dX10_end_5 rfl ?_
  refine ev_if_lt (pc := 6) (tgt := 17) dX10_end_6 (by decide) (fun cq6 => ?_) (fun cq6 => ?_)
  · rw [if_pos (by simp [outB, cq6])]
    refine ev_iconst (pc := 17) (v := -1) dX10_end_17 (by decide) ?_
    exact ev_iret (pc := 18) dX10_end_18 rfl rfl ri
  · refine ev_iload_n (pc := 9) dX10_end_9 rfl ?_
    refine ev_aload_n (pc := 10) dX10_end_10 rfl ?_
    refine get_MO_taped (pc := 11) dX10_end_11 Fl_X10_159 rfl ?_
    refine ev_icmp_le (pc := 14) (tgt := 19) dX10_end_14 (by decide) (fun cq14 => ?_) (fun cq14 => ?_)
    · have cq14 : x ≤ S.1 29 := cq14
      rw [if_neg (by simp [outB, cq6, cq14])]
      refine ev_aload_n (pc := 19) dX10_end_19 rfl ?_
      refine ev_iload_n (pc := 20) dX10_end_20 rfl ?_
      refine put_MO_taped (pc := 21) dX10_end_21 Fp_X10_159 ?_
      refine ev_iload_n (pc := 24) dX10_end_24 rfl ?_
      exact ev_iret (pc := 25) dX10_end_25 rfl rfl ri
    · have cq14 : ¬ x ≤ S.1 29 := cq14
      rw [if_pos (by simp [outB, cq6, cq14])]
      refine ev_iconst (pc := 17) (v := -1) dX10_end_17 (by decide) ?_
      exact ev_iret (pc := 18) dX10_end_18 rfl rfl ri
theorem c_X10_fault : Ct g mX10_fault [.ref 43] (hC S) (RI (S.1 33) (th S)) := by
  refine ct_of rfl rfl ?_
  refine ev_aload_n (pc := 0) dX10_fault_0 rfl ?_
  refine ev_iconst (pc := 1) (v := 0) dX10_fault_1 (by decide) ?_
  refine put_MO_thrown (pc := 2) dX10_fault_2 Fp_X10_117 ?_
  refine ev_aload_n (pc := 5) dX10_fault_5 rfl ?_
  refine get_MO_fault (pc := 6) dX10_fault_6 Fl_X10_65 rfl ?_
  exact ev_iret (pc := 9) dX10_fault_9 rfl rfl ri
theorem c_X10_status : Ct g mX10_status [.ref 43] (hC S) (RI (S.1 21) (th S)) := by
  refine ct_of rfl rfl ?_
  refine ev_aload_n (pc := 0) dX10_status_0 rfl ?_
  refine ev_iconst (pc := 1) (v := 0) dX10_status_1 (by decide) ?_
  refine put_MO_thrown (pc := 2) dX10_status_2 Fp_X10_117 ?_
  refine ev_aload_n (pc := 5) dX10_status_5 rfl ?_
  refine get_MO_status (pc := 6) dX10_status_6 Fl_X10_120 rfl ?_
  exact ev_iret (pc := 9) dX10_status_9 rfl rfl ri
def bearsM (x : Int32) (S : St) : Int32 × St := if outB x 0 10000 = true then toldM (-1) (th S) else (S.1 35, setI (setI (th S) 35 x) 21 0)
theorem c_X10_bears {x : Int32} (hb : 0 ≤ S.1 35) : Ct g mX10_bears [.ref 43, .int x] (hC S) (RI (bearsM x S).1 (bearsM x S).2) := by
  refine ct_of rfl rfl ?_
  unfold bearsM
  refine ev_aload_n (pc := 0) dX10_bears_0 rfl ?_
  refine ev_iconst (pc := 1) (v := 0) dX10_bears_1 (by decide) ?_
  refine put_MO_thrown (pc := 2) dX10_bears_2 Fp_X10_117 ?_
  refine ev_iload_n (pc := 5) dX10_bears_5 rfl ?_
  refine ev_i2l (pc := 6) dX10_bears_6 ?_
  refine ev_lconst (pc := 7) (v := 0) dX10_bears_7 (by decide) ?_
  refine ev_ldc2 (pc := 8) dX10_bears_8 Cn_X10_191 ?_
  refine callS3I (pc := 11) dX10_bears_11 Ml_X10_125 M_X10_in rfl rfl (c_X10_in (lo := 0) (hi := 10000) rfl (by decide) (by decide)) ?_
  refine ev_if_neB (pc := 14) (tgt := 23) dX10_bears_14 (by decide) (fun cq14 => ?_) (fun cq14 => ?_)
  · rw [if_neg (bnot_t cq14)]
    refine ev_aload_n (pc := 23) dX10_bears_23 rfl ?_
    refine get_MO_bearing (pc := 24) dX10_bears_24 Fl_X10_249 rfl ?_
    refine ev_istore_n (pc := 27) (lv' := [(0, .ref 43), (1, .int _), (2, .int _)]) dX10_bears_27 (Nat.le_of_ble_eq_true rfl) rfl ?_
    refine ev_aload_n (pc := 28) dX10_bears_28 rfl ?_
    refine ev_iload_n (pc := 29) dX10_bears_29 rfl ?_
    refine put_MO_bearing (pc := 30) dX10_bears_30 Fp_X10_249 ?_
    refine ev_aload_n (pc := 33) dX10_bears_33 rfl ?_
    refine ev_iload_n (pc := 34) dX10_bears_34 rfl ?_
    refine callV1I (pc := 35) dX10_bears_35 Ml_X10_138 M_X10_told rfl rfl rfl rfl (c_told_pos hb) ?_
    exact ev_iret (pc := 38) dX10_bears_38 rfl rfl ri
  · rw [if_pos (bnot_f cq14)]
    refine ev_aload_n (pc := 17) dX10_bears_17 rfl ?_
    refine ev_iconst (pc := 18) (v := -1) dX10_bears_18 (by decide) ?_
    refine callV1I (pc := 19) dX10_bears_19 Ml_X10_138 M_X10_told rfl rfl rfl rfl (c_told_neg (by decide)) ?_
    exact ev_iret (pc := 22) dX10_bears_22 rfl rfl ri
def addDM (n : Nat) (a b c : Int32) (S : St) : St := setI (setA (setA (setA S 41 (upd (S.2.1 41) n a)) 42 (upd (S.2.1 42) n b)) 43 (upd (S.2.1 43) n c)) 36 (nI n + 1)
def droughtM (nd : Nat) (a b c : Int32) (S : St) : Int32 × St :=
  if outB a 0 1000 = true then toldM (-1) (th S) else if outB b a 1000 = true then toldM (-1) (th S) else if outB c 0 100 = true then toldM (-1) (th S) else if nd < 60 then (nI nd + 1, setI (addDM nd a b c (th S)) 21 0) else toldM (-5) (th S)
theorem c_X10_drought {a b c : Int32} {nd : Nat} (hs : S.1 36 = nI nd) (hn : nd ≤ 60) : Ct g mX10_drought [.ref 43, .int a, .int b, .int c] (hC S) (RI (droughtM nd a b c S).1 (droughtM nd a b c S).2) := by
  refine ct_of rfl rfl ?_
  unfold droughtM
  refine ev_aload_n (pc := 0) dX10_drought_0 rfl ?_
  refine ev_iconst (pc := 1) (v := 0) dX10_drought_1 (by decide) ?_
  refine put_MO_thrown (pc := 2) dX10_drought_2 Fp_X10_117 ?_
  refine ev_iload_n (pc := 5) dX10_drought_5 rfl ?_
  refine ev_i2l (pc := 6) dX10_drought_6 ?_
  refine ev_lconst (pc := 7) (v := 0) dX10_drought_7 (by decide) ?_
  refine ev_ldc2 (pc := 8) dX10_drought_8 Cn_X10_134 ?_
  refine callS3I (pc := 11) dX10_drought_11 Ml_X10_125 M_X10_in rfl rfl (c_X10_in (lo := 0) (hi := 1000) rfl (by decide) (by decide)) ?_
  refine ev_if_eqB (pc := 14) (tgt := 42) dX10_drought_14 (by decide) (fun cq14 => ?_) (fun cq14 => ?_)
  · rw [if_pos (bnot_f cq14)]
    refine ev_aload_n (pc := 42) dX10_drought_42 rfl ?_
    refine ev_iconst (pc := 43) (v := -1) dX10_drought_43 (by decide) ?_
    refine callV1I (pc := 44) dX10_drought_44 Ml_X10_138 M_X10_told rfl rfl rfl rfl (c_told_neg (by decide)) ?_
    exact ev_iret (pc := 47) dX10_drought_47 rfl rfl ri
  · rw [if_neg (bnot_t cq14)]
    refine ev_iload_n (pc := 17) dX10_drought_17 rfl ?_
    refine ev_i2l (pc := 18) dX10_drought_18 ?_
    refine ev_iload_n (pc := 19) dX10_drought_19 rfl ?_
    refine ev_i2l (pc := 20) dX10_drought_20 ?_
    refine ev_ldc2 (pc := 21) dX10_drought_21 Cn_X10_134 ?_
    refine callS3I (pc := 24) dX10_drought_24 Ml_X10_125 M_X10_in rfl rfl (c_X10_in (hi := 1000) rfl rfl (by decide)) ?_
    refine ev_if_eqB (pc := 27) (tgt := 42) dX10_drought_27 (by decide) (fun cq27 => ?_) (fun cq27 => ?_)
    · rw [if_pos (bnot_f cq27)]
      refine ev_aload_n (pc := 42) dX10_drought_42 rfl ?_
      refine ev_iconst (pc := 43) (v := -1) dX10_drought_43 (by decide) ?_
      refine callV1I (pc := 44) dX10_drought_44 Ml_X10_138 M_X10_told rfl rfl rfl rfl (c_told_neg (by decide)) ?_
      exact ev_iret (pc := 47) dX10_drought_47 rfl rfl ri
    · rw [if_neg (bnot_t cq27)]
      refine ev_iload_n (pc := 30) dX10_drought_30 rfl ?_
      refine ev_i2l (pc := 31) dX10_drought_31 ?_
      refine ev_lconst (pc := 32) (v := 0) dX10_drought_32 (by decide) ?_
      refine ev_ldc2 (pc := 33) dX10_drought_33 Cn_X10_252 ?_
      refine callS3I (pc := 36) dX10_drought_36 Ml_X10_125 M_X10_in rfl rfl (c_X10_in (lo := 0) (hi := 100) rfl (by decide) (by decide)) ?_
      refine ev_if_neB (pc := 39) (tgt := 48) dX10_drought_39 (by decide) (fun cq39 => ?_) (fun cq39 => ?_)
      · rw [if_neg (bnot_t cq39)]
        refine ev_aload_n (pc := 48) dX10_drought_48 rfl ?_
        refine get_MO_droughts (pc := 49) dX10_drought_49 Fl_X10_254 hs ?_
        refine ev_bipush (pc := 52) (v := nI 60) dX10_drought_52 (by decide) ?_
        refine ev_icmp_neN (pc := 54) (tgt := 64) (by omega) (by omega) dX10_drought_54 (by decide) (fun cq54 => ?_) (fun cq54 => ?_)
        · rw [if_pos (show nd < 60 by omega)]
          refine ev_aload_n (pc := 64) dX10_drought_64 rfl ?_
          refine get_MO_dFrom (pc := 65) dX10_drought_65 Fl_X10_96 ?_
          refine ev_aload_n (pc := 68) dX10_drought_68 rfl ?_
          refine get_MO_droughts (pc := 69) dX10_drought_69 Fl_X10_254 hs ?_
          refine ev_iload_n (pc := 72) dX10_drought_72 rfl ?_
          refine asN_MO_dFrom (pc := 73) dX10_drought_73 (by omega) ?_
          refine ev_aload_n (pc := 74) dX10_drought_74 rfl ?_
          refine get_MO_dTo (pc := 75) dX10_drought_75 Fl_X10_99 ?_
          refine ev_aload_n (pc := 78) dX10_drought_78 rfl ?_
          refine get_MO_droughts (pc := 79) dX10_drought_79 Fl_X10_254 hs ?_
          refine ev_iload_n (pc := 82) dX10_drought_82 rfl ?_
          refine asN_MO_dTo (pc := 83) dX10_drought_83 (by omega) ?_
          refine ev_aload_n (pc := 84) dX10_drought_84 rfl ?_
          refine get_MO_dPart (pc := 85) dX10_drought_85 Fl_X10_102 ?_
          refine ev_aload_n (pc := 88) dX10_drought_88 rfl ?_
          refine get_MO_droughts (pc := 89) dX10_drought_89 Fl_X10_254 hs ?_
          refine ev_iload_n (pc := 92) dX10_drought_92 rfl ?_
          refine asN_MO_dPart (pc := 93) dX10_drought_93 (by omega) ?_
          refine ev_aload_n (pc := 94) dX10_drought_94 rfl ?_
          refine ev_dup (pc := 95) dX10_drought_95 rfl ?_
          refine get_MO_droughts (pc := 96) dX10_drought_96 Fl_X10_254 hs ?_
          refine ev_iconst (pc := 99) (v := 1) dX10_drought_99 (by decide) ?_
          refine ev_iadd (pc := 100) dX10_drought_100 ?_
          refine put_MO_droughts (pc := 101) dX10_drought_101 Fp_X10_254 ?_
          refine ev_aload_n (pc := 104) dX10_drought_104 rfl ?_
          refine ev_aload_n (pc := 105) dX10_drought_105 rfl ?_
          refine get_MO_droughts (pc := 106) dX10_drought_106 Fl_X10_254 (show _ = nI nd + 1 from rfl) ?_
          refine callV1I (pc := 109) dX10_drought_109 Ml_X10_138 M_X10_told rfl rfl rfl rfl (c_told_pos (pos1 (by omega))) ?_
          exact ev_iret (pc := 112) dX10_drought_112 rfl rfl ri
        · rw [if_neg (show ¬ nd < 60 by omega)]
          refine ev_aload_n (pc := 57) dX10_drought_57 rfl ?_
          refine ev_bipush (pc := 58) (v := -5) dX10_drought_58 (by decide) ?_
          refine callV1I (pc := 60) dX10_drought_60 Ml_X10_138 M_X10_told rfl rfl rfl rfl (c_told_neg (by decide)) ?_
          exact ev_iret (pc := 63) dX10_drought_63 rfl rfl ri
      · rw [if_pos (bnot_f cq39)]
        refine ev_aload_n (pc := 42) dX10_drought_42 rfl ?_
        refine ev_iconst (pc := 43) (v := -1) dX10_drought_43 (by decide) ?_
        refine callV1I (pc := 44) dX10_drought_44 Ml_X10_138 M_X10_told rfl rfl rfl rfl (c_told_neg (by decide)) ?_
        exact ev_iret (pc := 47) dX10_drought_47 rfl rfl ri
def addVM (n : Nat) (f h : Int32) (S : St) : St := setI (setA (setA S 44 (upd (S.2.1 44) n f)) 45 (upd (S.2.1 45) n h)) 37 (nI n + 1)
def visitM (nf nv : Nat) (f h : Int32) (S : St) : Int32 × St :=
  if outB h 0 5000 = true then toldM (-1) (th S) else if outB f 0 (nI nf - 1) = true then toldM (-2) (th S) else if nv < 16 then (nI nv + 1, setI (addVM nv f h (th S)) 21 0) else toldM (-5) (th S)
theorem c_X10_visit {f h : Int32} {nf nv : Nat} (hs : S.1 22 = nI nf) (hnf : nf ≤ 40) (hs2 : S.1 37 = nI nv) (hn : nv ≤ 16) : Ct g mX10_visit [.ref 43, .int f, .int h] (hC S) (RI (visitM nf nv f h S).1 (visitM nf nv f h S).2) := by
  refine ct_of rfl rfl ?_
  unfold visitM
  refine ev_aload_n (pc := 0) dX10_visit_0 rfl ?_
  refine ev_iconst (pc := 1) (v := 0) dX10_visit_1 (by decide) ?_
  refine put_MO_thrown (pc := 2) dX10_visit_2 Fp_X10_117 ?_
  refine ev_iload_n (pc := 5) dX10_visit_5 rfl ?_
  refine ev_i2l (pc := 6) dX10_visit_6 ?_
  refine ev_lconst (pc := 7) (v := 0) dX10_visit_7 (by decide) ?_
  refine ev_ldc2 (pc := 8) dX10_visit_8 Cn_X10_266 ?_
  refine callS3I (pc := 11) dX10_visit_11 Ml_X10_125 M_X10_in rfl rfl (c_X10_in (lo := 0) (hi := 5000) rfl (by decide) (by decide)) ?_
  refine ev_if_neB (pc := 14) (tgt := 23) dX10_visit_14 (by decide) (fun cq14 => ?_) (fun cq14 => ?_)
  · rw [if_neg (bnot_t cq14)]
    refine ev_aload_n (pc := 23) dX10_visit_23 rfl ?_
    refine ev_iload_n (pc := 24) dX10_visit_24 rfl ?_
    refine callV1I (pc := 25) dX10_visit_25 Ml_X10_148 M_X10_isFarmer rfl rfl rfl rfl (c_X10_isFarmer hs hnf) ?_
    refine ev_if_neB (pc := 28) (tgt := 38) dX10_visit_28 (by decide) (fun cq28 => ?_) (fun cq28 => ?_)
    · rw [if_neg (bnot_t cq28)]
      refine ev_aload_n (pc := 38) dX10_visit_38 rfl ?_
      refine get_MO_visits (pc := 39) dX10_visit_39 Fl_X10_268 hs2 ?_
      refine ev_bipush (pc := 42) (v := nI 16) dX10_visit_42 (by decide) ?_
      refine ev_icmp_neN (pc := 44) (tgt := 54) (by omega) (by omega) dX10_visit_44 (by decide) (fun cq44 => ?_) (fun cq44 => ?_)
      · rw [if_pos (show nv < 16 by omega)]
        refine ev_aload_n (pc := 54) dX10_visit_54 rfl ?_
        refine get_MO_vFarmer (pc := 55) dX10_visit_55 Fl_X10_105 ?_
        refine ev_aload_n (pc := 58) dX10_visit_58 rfl ?_
        refine get_MO_visits (pc := 59) dX10_visit_59 Fl_X10_268 hs2 ?_
        refine ev_iload_n (pc := 62) dX10_visit_62 rfl ?_
        refine asN_MO_vFarmer (pc := 63) dX10_visit_63 (by omega) ?_
        refine ev_aload_n (pc := 64) dX10_visit_64 rfl ?_
        refine get_MO_vHour (pc := 65) dX10_visit_65 Fl_X10_108 ?_
        refine ev_aload_n (pc := 68) dX10_visit_68 rfl ?_
        refine get_MO_visits (pc := 69) dX10_visit_69 Fl_X10_268 hs2 ?_
        refine ev_iload_n (pc := 72) dX10_visit_72 rfl ?_
        refine asN_MO_vHour (pc := 73) dX10_visit_73 (by omega) ?_
        refine ev_aload_n (pc := 74) dX10_visit_74 rfl ?_
        refine ev_dup (pc := 75) dX10_visit_75 rfl ?_
        refine get_MO_visits (pc := 76) dX10_visit_76 Fl_X10_268 hs2 ?_
        refine ev_iconst (pc := 79) (v := 1) dX10_visit_79 (by decide) ?_
        refine ev_iadd (pc := 80) dX10_visit_80 ?_
        refine put_MO_visits (pc := 81) dX10_visit_81 Fp_X10_268 ?_
        refine ev_aload_n (pc := 84) dX10_visit_84 rfl ?_
        refine ev_aload_n (pc := 85) dX10_visit_85 rfl ?_
        refine get_MO_visits (pc := 86) dX10_visit_86 Fl_X10_268 (show _ = nI nv + 1 from rfl) ?_
        refine callV1I (pc := 89) dX10_visit_89 Ml_X10_138 M_X10_told rfl rfl rfl rfl (c_told_pos (pos1 (by omega))) ?_
        exact ev_iret (pc := 92) dX10_visit_92 rfl rfl ri
      · rw [if_neg (show ¬ nv < 16 by omega)]
        refine ev_aload_n (pc := 47) dX10_visit_47 rfl ?_
        refine ev_bipush (pc := 48) (v := -5) dX10_visit_48 (by decide) ?_
        refine callV1I (pc := 50) dX10_visit_50 Ml_X10_138 M_X10_told rfl rfl rfl rfl (c_told_neg (by decide)) ?_
        exact ev_iret (pc := 53) dX10_visit_53 rfl rfl ri
    · rw [if_pos (bnot_f cq28)]
      refine ev_aload_n (pc := 31) dX10_visit_31 rfl ?_
      refine ev_bipush (pc := 32) (v := -2) dX10_visit_32 (by decide) ?_
      refine callV1I (pc := 34) dX10_visit_34 Ml_X10_138 M_X10_told rfl rfl rfl rfl (c_told_neg (by decide)) ?_
      exact ev_iret (pc := 37) dX10_visit_37 rfl rfl ri
  · rw [if_pos (bnot_f cq14)]
    refine ev_aload_n (pc := 17) dX10_visit_17 rfl ?_
    refine ev_iconst (pc := 18) (v := -1) dX10_visit_18 (by decide) ?_
    refine callV1I (pc := 19) dX10_visit_19 Ml_X10_138 M_X10_told rfl rfl rfl rfl (c_told_neg (by decide)) ?_
    exact ev_iret (pc := 22) dX10_visit_22 rfl rfl ri
theorem c_X10_clear : Ct g mX10_clear [.ref 43] (hC S) (RI (S.1 37) (setI (th S) 37 0)) := by
  refine ct_of rfl rfl ?_
  refine ev_aload_n (pc := 0) dX10_clear_0 rfl ?_
  refine ev_iconst (pc := 1) (v := 0) dX10_clear_1 (by decide) ?_
  refine put_MO_thrown (pc := 2) dX10_clear_2 Fp_X10_117 ?_
  refine ev_aload_n (pc := 5) dX10_clear_5 rfl ?_
  refine get_MO_visits (pc := 6) dX10_clear_6 Fl_X10_268 rfl ?_
  refine ev_istore_n (pc := 9) (lv' := [(0, .ref 43), (1, .int _)]) dX10_clear_9 (Nat.le_of_ble_eq_true rfl) rfl ?_
  refine ev_aload_n (pc := 10) dX10_clear_10 rfl ?_
  refine ev_iconst (pc := 11) (v := 0) dX10_clear_11 (by decide) ?_
  refine put_MO_visits (pc := 12) dX10_clear_12 Fp_X10_268 ?_
  refine ev_iload_n (pc := 15) dX10_clear_15 rfl ?_
  exact ev_iret (pc := 16) dX10_clear_16 rfl rfl ri
def ledM (nb : Nat) (n day : Int32) (S : St) : Int32 := if n < 0 then -1 else if outB day 0 400 = true then -1 else ledF (S.2.1 33) (S.2.1 31) (S.2.1 30) day nb 0 n
theorem c_X10_led {a day : Int32} {n : Nat} (hs : S.1 24 = nI n) (hn : n ≤ 300) : Ct g mX10_led [.ref 43, .int a, .int day] (hC S) (RI (ledM n a day S) (th S)) := by
  have L : ∀ (X : St) (r k : Nat) (b : Int32), X.1 24 = nI n → k + r = n → Ev g mX10_led 23 [(0, .ref 43), (1, .int a), (2, .int day), (3, .int b), (4, .int (nI k))] [] (hC X) (RI (ledF (X.2.1 33) (X.2.1 31) (X.2.1 30) day r k b) X) := by
    intro X r
    induction r with
    | zero =>
      intro k b hs hk
      refine ev_iload (pc := 23) dX10_led_23 rfl ?_
      refine ev_aload_n (pc := 25) dX10_led_25 rfl ?_
      refine get_MO_baskets (pc := 26) dX10_led_26 Fl_X10_156 hs ?_
      refine ev_icmp_geN (pc := 29) (tgt := 78) (by omega) (by omega) dX10_led_29 (by decide) (fun cq29 => ?_) (fun cq29 => absurd (show n ≤ k by omega) cq29)
      refine ev_iconst (pc := 78) (v := -1) dX10_led_78 (by decide) ?_
      exact ev_iret (pc := 79) dX10_led_79 rfl rfl ri
    | succ r ih =>
      intro k b hs hk
      rw [ledF]
      refine ev_iload (pc := 23) dX10_led_23 rfl ?_
      refine ev_aload_n (pc := 25) dX10_led_25 rfl ?_
      refine get_MO_baskets (pc := 26) dX10_led_26 Fl_X10_156 hs ?_
      refine ev_icmp_geN (pc := 29) (tgt := 78) (by omega) (by omega) dX10_led_29 (by decide) (fun cq29 => absurd cq29 (by omega)) (fun cq29 => ?_)
      refine ev_aload_n (pc := 32) dX10_led_32 rfl ?_
      refine get_MO_bKnown (pc := 33) dX10_led_33 Fl_X10_37 ?_
      refine ev_iload (pc := 36) dX10_led_36 rfl ?_
      refine ldN_MO_bKnown (pc := 38) dX10_led_38 (by omega) rfl ?_
      refine ev_iload_n (pc := 39) dX10_led_39 rfl ?_
      refine ev_icmp_gt (pc := 40) (tgt := 72) dX10_led_40 (by decide) (fun cq40 => ?_) (fun cq40 => ?_)
      · rw [if_neg (Int32.not_le.mpr cq40)]
        refine ev_iincN (pc := 72) (lv' := [(0, .ref 43), (1, .int _), (2, .int _), (3, .int _), (4, .int _)]) dX10_led_72 rfl (Nat.le_of_ble_eq_true rfl) rfl ?_
        refine ev_goto (pc := 75) (tgt := 23) dX10_led_75 (by decide) ?_
        exact ih _ _ hs (by omega)
      · rw [if_pos (Int32.not_lt.mp cq40)]
        refine ev_iload_n (pc := 43) dX10_led_43 rfl ?_
        refine ev_aload_n (pc := 44) dX10_led_44 rfl ?_
        refine get_MO_bWeight (pc := 45) dX10_led_45 Fl_X10_31 ?_
        refine ev_iload (pc := 48) dX10_led_48 rfl ?_
        refine ldN_MO_bWeight (pc := 50) dX10_led_50 (by omega) rfl ?_
        refine ev_icmp_ge (pc := 51) (tgt := 62) dX10_led_51 (by decide) (fun cq51 => ?_) (fun cq51 => ?_)
        · rw [if_pos cq51]
          refine ev_iload_n (pc := 62) dX10_led_62 rfl ?_
          refine ev_aload_n (pc := 63) dX10_led_63 rfl ?_
          refine get_MO_bWeight (pc := 64) dX10_led_64 Fl_X10_31 ?_
          refine ev_iload (pc := 67) dX10_led_67 rfl ?_
          refine ldN_MO_bWeight (pc := 69) dX10_led_69 (by omega) rfl ?_
          refine ev_isub (pc := 70) dX10_led_70 ?_
          refine ev_istore_n (pc := 71) (lv' := [(0, .ref 43), (1, .int _), (2, .int _), (3, .int _), (4, .int _)]) dX10_led_71 (Nat.le_of_ble_eq_true rfl) rfl ?_
          refine ev_iincN (pc := 72) (lv' := [(0, .ref 43), (1, .int _), (2, .int _), (3, .int _), (4, .int _)]) dX10_led_72 rfl (Nat.le_of_ble_eq_true rfl) rfl ?_
          refine ev_goto (pc := 75) (tgt := 23) dX10_led_75 (by decide) ?_
          exact ih _ _ hs (by omega)
        · rw [if_neg cq51]
          refine ev_aload_n (pc := 54) dX10_led_54 rfl ?_
          refine get_MO_bFarmer (pc := 55) dX10_led_55 Fl_X10_28 ?_
          refine ev_iload (pc := 58) dX10_led_58 rfl ?_
          refine ldN_MO_bFarmer (pc := 60) dX10_led_60 (by omega) rfl ?_
          exact ev_iret (pc := 61) dX10_led_61 rfl rfl ri
  refine ct_of rfl rfl ?_
  unfold ledM
  refine ev_aload_n (pc := 0) dX10_led_0 rfl ?_
  refine ev_iconst (pc := 1) (v := 0) dX10_led_1 (by decide) ?_
  refine put_MO_thrown (pc := 2) dX10_led_2 Fp_X10_117 ?_
  refine ev_iload_n (pc := 5) dX10_led_5 rfl ?_
  refine ev_if_lt (pc := 6) (tgt := 16) dX10_led_6 (by decide) (fun cq6 => ?_) (fun cq6 => ?_)
  · rw [if_pos cq6]
    refine ev_iconst (pc := 16) (v := -1) dX10_led_16 (by decide) ?_
    exact ev_iret (pc := 17) dX10_led_17 rfl rfl ri
  · rw [if_neg cq6]
    refine ev_iload_n (pc := 9) dX10_led_9 rfl ?_
    refine callS1I (pc := 10) dX10_led_10 Ml_X10_144 M_X10_isDay rfl rfl c_X10_isDay ?_
    refine ev_if_neB (pc := 13) (tgt := 18) dX10_led_13 (by decide) (fun cq13 => ?_) (fun cq13 => ?_)
    · rw [if_neg (bnot_t cq13)]
      refine ev_iload_n (pc := 18) dX10_led_18 rfl ?_
      refine ev_istore_n (pc := 19) (lv' := [(0, .ref 43), (1, .int _), (2, .int _), (3, .int _)]) dX10_led_19 (Nat.le_of_ble_eq_true rfl) rfl ?_
      refine ev_iconst (pc := 20) (v := nI 0) dX10_led_20 (by decide) ?_
      refine ev_istore (pc := 21) (lv' := [(0, .ref 43), (1, .int _), (2, .int _), (3, .int _), (4, .int _)]) dX10_led_21 (Nat.le_of_ble_eq_true rfl) rfl ?_
      exact L (th S) n 0 a hs (by omega)
    · rw [if_pos (bnot_f cq13)]
      refine ev_iconst (pc := 16) (v := -1) dX10_led_16 (by decide) ?_
      exact ev_iret (pc := 17) dX10_led_17 rfl rfl ri
def sumW (f : Nat → Int32) : Nat → Int32
  | 0 => 0
  | k + 1 => sumW f k + f k
def countM (nb : Nat) (w : Int32) (S : St) : Int32 :=
  if w.toInt = 0 then S.1 22 else if w.toInt = 1 then S.1 23 else if w.toInt = 2 then S.1 24 else if w.toInt = 3 then S.1 25 else if w.toInt = 4 then S.1 36 else if w.toInt = 5 then S.1 37 else if w.toInt = 6 then S.1 29 else if w.toInt = 7 then sumW (S.2.1 31) nb else -1
theorem c_X10_count {w : Int32} {n : Nat} (hs : S.1 24 = nI n) (hn : n ≤ 300) : Ct g mX10_count [.ref 43, .int w] (hC S) (RI (countM n w S) (th S)) := by
  have L : ∀ k, k ≤ n → Ev g mX10_count 91 [(0, .ref 43), (1, .int w), (2, .int (sumW (S.2.1 31) k)), (3, .int (nI k))] [] (hC (th S)) (RI (sumW (S.2.1 31) n) (th S)) := by
    refine loop_up n ?_ ?_
    · skip
      refine ev_iload_n (pc := 91) dX10_count_91 rfl ?_
      refine ev_aload_n (pc := 92) dX10_count_92 rfl ?_
      refine get_MO_baskets (pc := 93) dX10_count_93 Fl_X10_156 hs ?_
      refine ev_icmp_geN (pc := 96) (tgt := 114) (by omega) (by omega) dX10_count_96 (by decide) (fun cq96 => ?_) (fun cq96 => absurd (Nat.le_refl n) cq96)
      refine ev_iload_n (pc := 114) dX10_count_114 rfl ?_
      exact ev_iret (pc := 115) dX10_count_115 rfl rfl ri
    · intro k hk ih
      refine ev_iload_n (pc := 91) dX10_count_91 rfl ?_
      refine ev_aload_n (pc := 92) dX10_count_92 rfl ?_
      refine get_MO_baskets (pc := 93) dX10_count_93 Fl_X10_156 hs ?_
      refine ev_icmp_geN (pc := 96) (tgt := 114) (by omega) (by omega) dX10_count_96 (by decide) (fun cq96 => absurd cq96 (by omega)) (fun cq96 => ?_)
      refine ev_iload_n (pc := 99) dX10_count_99 rfl ?_
      refine ev_aload_n (pc := 100) dX10_count_100 rfl ?_
      refine get_MO_bWeight (pc := 101) dX10_count_101 Fl_X10_31 ?_
      refine ev_iload_n (pc := 104) dX10_count_104 rfl ?_
      refine ldN_MO_bWeight (pc := 105) dX10_count_105 (by omega) rfl ?_
      refine ev_iadd (pc := 106) dX10_count_106 ?_
      refine ev_istore_n (pc := 107) (lv' := [(0, .ref 43), (1, .int _), (2, .int _), (3, .int _)]) dX10_count_107 (Nat.le_of_ble_eq_true rfl) rfl ?_
      refine ev_iincN (pc := 108) (lv' := [(0, .ref 43), (1, .int _), (2, .int _), (3, .int _)]) dX10_count_108 rfl (Nat.le_of_ble_eq_true rfl) rfl ?_
      refine ev_goto (pc := 111) (tgt := 91) dX10_count_111 (by decide) ?_
      exact ih
  refine ct_of rfl rfl ?_
  unfold countM
  refine ev_aload_n (pc := 0) dX10_count_0 rfl ?_
  refine ev_iconst (pc := 1) (v := 0) dX10_count_1 (by decide) ?_
  refine put_MO_thrown (pc := 2) dX10_count_2 Fp_X10_117 ?_
  refine ev_iload_n (pc := 5) dX10_count_5 rfl ?_
  rcases (show w.toInt = 0 ∨ w.toInt = 1 ∨ w.toInt = 2 ∨ w.toInt = 3 ∨ w.toInt = 4 ∨ w.toInt = 5 ∨ w.toInt = 6 ∨ w.toInt = 7 ∨ (w.toInt < 0 ∨ 7 < w.toInt) by omega) with hw | hw | hw | hw | hw | hw | hw | hw | hw
  · refine ev_tabIn (pc := 6) (tgt := 52) (off := 46) dX10_count_6 (by omega) (by omega) (tb_in hw (by decide)) (by decide) ?_
    simp only [hw]
    refine ev_aload_n (pc := 52) dX10_count_52 rfl ?_
    refine get_MO_farmers (pc := 53) dX10_count_53 Fl_X10_129 rfl ?_
    exact ev_iret (pc := 56) dX10_count_56 rfl rfl ri
  · refine ev_tabIn (pc := 6) (tgt := 57) (off := 51) dX10_count_6 (by omega) (by omega) (tb_in hw (by decide)) (by decide) ?_
    simp only [hw]
    refine ev_aload_n (pc := 57) dX10_count_57 rfl ?_
    refine get_MO_credits (pc := 58) dX10_count_58 Fl_X10_151 rfl ?_
    exact ev_iret (pc := 61) dX10_count_61 rfl rfl ri
  · refine ev_tabIn (pc := 6) (tgt := 62) (off := 56) dX10_count_6 (by omega) (by omega) (tb_in hw (by decide)) (by decide) ?_
    simp only [hw]
    refine ev_aload_n (pc := 62) dX10_count_62 rfl ?_
    refine get_MO_baskets (pc := 63) dX10_count_63 Fl_X10_156 rfl ?_
    exact ev_iret (pc := 66) dX10_count_66 rfl rfl ri
  · refine ev_tabIn (pc := 6) (tgt := 67) (off := 61) dX10_count_6 (by omega) (by omega) (tb_in hw (by decide)) (by decide) ?_
    simp only [hw]
    refine ev_aload_n (pc := 67) dX10_count_67 rfl ?_
    refine get_MO_clauses (pc := 68) dX10_count_68 Fl_X10_231 rfl ?_
    exact ev_iret (pc := 71) dX10_count_71 rfl rfl ri
  · refine ev_tabIn (pc := 6) (tgt := 72) (off := 66) dX10_count_6 (by omega) (by omega) (tb_in hw (by decide)) (by decide) ?_
    simp only [hw]
    refine ev_aload_n (pc := 72) dX10_count_72 rfl ?_
    refine get_MO_droughts (pc := 73) dX10_count_73 Fl_X10_254 rfl ?_
    exact ev_iret (pc := 76) dX10_count_76 rfl rfl ri
  · refine ev_tabIn (pc := 6) (tgt := 77) (off := 71) dX10_count_6 (by omega) (by omega) (tb_in hw (by decide)) (by decide) ?_
    simp only [hw]
    refine ev_aload_n (pc := 77) dX10_count_77 rfl ?_
    refine get_MO_visits (pc := 78) dX10_count_78 Fl_X10_268 rfl ?_
    exact ev_iret (pc := 81) dX10_count_81 rfl rfl ri
  · refine ev_tabIn (pc := 6) (tgt := 82) (off := 76) dX10_count_6 (by omega) (by omega) (tb_in hw (by decide)) (by decide) ?_
    simp only [hw]
    refine ev_aload_n (pc := 82) dX10_count_82 rfl ?_
    refine get_MO_taped (pc := 83) dX10_count_83 Fl_X10_159 rfl ?_
    exact ev_iret (pc := 86) dX10_count_86 rfl rfl ri
  · refine ev_tabIn (pc := 6) (tgt := 87) (off := 81) dX10_count_6 (by omega) (by omega) (tb_in hw (by decide)) (by decide) ?_
    simp only [hw]
    refine ev_iconst (pc := 87) (v := 0) dX10_count_87 (by decide) ?_
    refine ev_istore_n (pc := 88) (lv' := [(0, .ref 43), (1, .int _), (2, .int _)]) dX10_count_88 (Nat.le_of_ble_eq_true rfl) rfl ?_
    refine ev_iconst (pc := 89) (v := nI 0) dX10_count_89 (by decide) ?_
    refine ev_istore_n (pc := 90) (lv' := [(0, .ref 43), (1, .int _), (2, .int _), (3, .int _)]) dX10_count_90 (Nat.le_of_ble_eq_true rfl) rfl ?_
    exact L 0 (Nat.zero_le _)
  · refine ev_tabOut (pc := 6) (tgt := 116) dX10_count_6 hw (by decide) ?_
    rw [if_neg (show ¬ w.toInt = 0 by omega)]
    rw [if_neg (show ¬ w.toInt = 1 by omega)]
    rw [if_neg (show ¬ w.toInt = 2 by omega)]
    rw [if_neg (show ¬ w.toInt = 3 by omega)]
    rw [if_neg (show ¬ w.toInt = 4 by omega)]
    rw [if_neg (show ¬ w.toInt = 5 by omega)]
    rw [if_neg (show ¬ w.toInt = 6 by omega)]
    rw [if_neg (show ¬ w.toInt = 7 by omega)]
    refine ev_iconst (pc := 116) (v := -1) dX10_count_116 (by decide) ?_
    exact ev_iret (pc := 117) dX10_count_117 rfl rfl ri
def foreM (nd i : Nat) (S : St) : Int64 := foreL (S.2.1 26 i) (S.1 35) (lostF (S.2.1 41) (S.2.1 42) (S.2.1 43) (S.2.1 25 i) nd)
theorem c_X10_foretold {i nd : Nat} (hi : i < 40) (hs : S.1 36 = nI nd) (hd : nd ≤ 60) : Ct g mX10_foretold [.ref 43, .int (nI i)] (hC S) (RJl (foreM nd i S) S) := by
  have L : ∀ k, k ≤ nd → Ev g mX10_foretold 4 [(0, .ref 43), (1, .int (nI i)), (2, .int (lostF (S.2.1 41) (S.2.1 42) (S.2.1 43) (S.2.1 25 i) k)), (3, .int (nI k))] [] (hC S) (RJl (foreM nd i S) S) := by
    refine loop_up nd ?_ ?_
    · unfold foreM foreL
      refine ev_iload_n (pc := 4) dX10_foretold_4 rfl ?_
      refine ev_aload_n (pc := 5) dX10_foretold_5 rfl ?_
      refine get_MO_droughts (pc := 6) dX10_foretold_6 Fl_X10_254 hs ?_
      refine ev_icmp_geN (pc := 9) (tgt := 56) (by omega) (by omega) dX10_foretold_9 (by decide) (fun cq9 => ?_) (fun cq9 => absurd (Nat.le_refl nd) cq9)
      refine ev_aload_n (pc := 56) dX10_foretold_56 rfl ?_
      refine get_MO_fFields (pc := 57) dX10_foretold_57 Fl_X10_16 ?_
      refine ev_iload_n (pc := 60) dX10_foretold_60 rfl ?_
      refine ldN_MO_fFields (pc := 61) dX10_foretold_61 (by omega) rfl ?_
      refine ev_i2l (pc := 62) dX10_foretold_62 ?_
      refine ev_aload_n (pc := 63) dX10_foretold_63 rfl ?_
      refine get_MO_bearing (pc := 64) dX10_foretold_64 Fl_X10_249 rfl ?_
      refine ev_i2l (pc := 67) dX10_foretold_67 ?_
      refine ev_lmul (pc := 68) dX10_foretold_68 ?_
      refine ev_bipush (pc := 69) (v := 100) dX10_foretold_69 (by decide) ?_
      refine ev_iload_n (pc := 71) dX10_foretold_71 rfl ?_
      refine ev_isub (pc := 72) dX10_foretold_72 ?_
      refine ev_i2l (pc := 73) dX10_foretold_73 ?_
      refine ev_lmul (pc := 74) dX10_foretold_74 ?_
      refine ev_ldc2 (pc := 75) dX10_foretold_75 Cn_X10_252 ?_
      refine ev_ldiv (pc := 78) dX10_foretold_78 (by decide) ?_
      exact ev_lret (pc := 79) dX10_foretold_79 rfl rl
    · intro k hk ih
      rw [lostF] at ih
      refine ev_iload_n (pc := 4) dX10_foretold_4 rfl ?_
      refine ev_aload_n (pc := 5) dX10_foretold_5 rfl ?_
      refine get_MO_droughts (pc := 6) dX10_foretold_6 Fl_X10_254 hs ?_
      refine ev_icmp_geN (pc := 9) (tgt := 56) (by omega) (by omega) dX10_foretold_9 (by decide) (fun cq9 => absurd cq9 (by omega)) (fun cq9 => ?_)
      refine ev_aload_n (pc := 12) dX10_foretold_12 rfl ?_
      refine get_MO_fPlace (pc := 13) dX10_foretold_13 Fl_X10_13 ?_
      refine ev_iload_n (pc := 16) dX10_foretold_16 rfl ?_
      refine ldN_MO_fPlace (pc := 17) dX10_foretold_17 (by omega) rfl ?_
      refine ev_i2l (pc := 18) dX10_foretold_18 ?_
      refine ev_aload_n (pc := 19) dX10_foretold_19 rfl ?_
      refine get_MO_dFrom (pc := 20) dX10_foretold_20 Fl_X10_96 ?_
      refine ev_iload_n (pc := 23) dX10_foretold_23 rfl ?_
      refine ldN_MO_dFrom (pc := 24) dX10_foretold_24 (by omega) rfl ?_
      refine ev_i2l (pc := 25) dX10_foretold_25 ?_
      refine ev_aload_n (pc := 26) dX10_foretold_26 rfl ?_
      refine get_MO_dTo (pc := 27) dX10_foretold_27 Fl_X10_99 ?_
      refine ev_iload_n (pc := 30) dX10_foretold_30 rfl ?_
      refine ldN_MO_dTo (pc := 31) dX10_foretold_31 (by omega) rfl ?_
      refine ev_i2l (pc := 32) dX10_foretold_32 ?_
      refine callS3I (pc := 33) dX10_foretold_33 Ml_X10_125 M_X10_in rfl rfl (c_X10_in rfl rfl rfl) ?_
      refine ev_if_eqB (pc := 36) (tgt := 48) dX10_foretold_36 (by decide) (fun cq36 => ?_) (fun cq36 => ?_)
      · refine ev_iload_n (pc := 48) dX10_foretold_48 rfl ?_
        refine ev_istore_n (pc := 49) (lv' := [(0, .ref 43), (1, .int _), (2, .int _), (3, .int _)]) dX10_foretold_49 (Nat.le_of_ble_eq_true rfl) rfl ?_
        refine ev_iincN (pc := 50) (lv' := [(0, .ref 43), (1, .int _), (2, .int _), (3, .int _)]) dX10_foretold_50 rfl (Nat.le_of_ble_eq_true rfl) rfl ?_
        refine ev_goto (pc := 53) (tgt := 4) dX10_foretold_53 (by decide) ?_
        first | (have c := bnot_f cq36; unfold outB at c; by_cases h1 : S.2.1 25 i < S.2.1 41 k; (rw [if_pos h1] at ih; exact ih); (rw [if_neg h1, if_pos (by simpa [h1, Int32.not_le] using c)] at ih; exact ih)) | (have c := bnot_t cq36; unfold outB at c; simp only [Bool.or_eq_true, decide_eq_true_eq, Bool.not_eq_true', decide_eq_false_iff_not, not_or, Classical.not_not] at c; rw [if_neg c.1, if_neg (Int32.not_lt.mpr c.2)] at ih; exact ih)
      · refine ev_aload_n (pc := 39) dX10_foretold_39 rfl ?_
        refine get_MO_dPart (pc := 40) dX10_foretold_40 Fl_X10_102 ?_
        refine ev_iload_n (pc := 43) dX10_foretold_43 rfl ?_
        refine ldN_MO_dPart (pc := 44) dX10_foretold_44 (by omega) rfl ?_
        refine ev_goto (pc := 45) (tgt := 49) dX10_foretold_45 (by decide) ?_
        refine ev_istore_n (pc := 49) (lv' := [(0, .ref 43), (1, .int _), (2, .int _), (3, .int _)]) dX10_foretold_49 (Nat.le_of_ble_eq_true rfl) rfl ?_
        refine ev_iincN (pc := 50) (lv' := [(0, .ref 43), (1, .int _), (2, .int _), (3, .int _)]) dX10_foretold_50 rfl (Nat.le_of_ble_eq_true rfl) rfl ?_
        refine ev_goto (pc := 53) (tgt := 4) dX10_foretold_53 (by decide) ?_
        first | (have c := bnot_f cq36; unfold outB at c; by_cases h1 : S.2.1 25 i < S.2.1 41 k; (rw [if_pos h1] at ih; exact ih); (rw [if_neg h1, if_pos (by simpa [h1, Int32.not_le] using c)] at ih; exact ih)) | (have c := bnot_t cq36; unfold outB at c; simp only [Bool.or_eq_true, decide_eq_true_eq, Bool.not_eq_true', decide_eq_false_iff_not, not_or, Classical.not_not] at c; rw [if_neg c.1, if_neg (Int32.not_lt.mpr c.2)] at ih; exact ih)
  refine ct_of rfl rfl ?_
  refine ev_iconst (pc := 0) (v := 0) dX10_foretold_0 (by decide) ?_
  refine ev_istore_n (pc := 1) (lv' := [(0, .ref 43), (1, .int _), (2, .int _)]) dX10_foretold_1 (Nat.le_of_ble_eq_true rfl) rfl ?_
  refine ev_iconst (pc := 2) (v := nI 0) dX10_foretold_2 (by decide) ?_
  refine ev_istore_n (pc := 3) (lv' := [(0, .ref 43), (1, .int _), (2, .int _), (3, .int _)]) dX10_foretold_3 (Nat.le_of_ble_eq_true rfl) rfl ?_
  exact L 0 (Nat.zero_le _)
def partM (S : St) (k : Nat) (v : Int64) : Int64 := v * (S.2.1 35 k).toInt64 / (S.2.1 36 k).toInt64
theorem c_X10_partOf {k : Nat} {v : Int64} (hk : k < 4) (h1 : 1 ≤ S.2.1 36 k) : Ct g mX10_partOf [.ref 43, .long v, .int (nI k)] (hC S) (RJl (partM S k v) S) := by
  refine ct_of rfl rfl ?_
  refine ev_lload_n (pc := 0) dX10_partOf_0 rfl ?_
  refine ev_aload_n (pc := 1) dX10_partOf_1 rfl ?_
  refine get_MO_partA (pc := 2) dX10_partOf_2 Fl_X10_47 ?_
  refine ev_iload_n (pc := 5) dX10_partOf_5 rfl ?_
  refine ldN_MO_partA (pc := 6) dX10_partOf_6 (by omega) rfl ?_
  refine ev_i2l (pc := 7) dX10_partOf_7 ?_
  refine ev_lmul (pc := 8) dX10_partOf_8 ?_
  refine ev_aload_n (pc := 9) dX10_partOf_9 rfl ?_
  refine get_MO_partB (pc := 10) dX10_partOf_10 Fl_X10_50 ?_
  refine ev_iload_n (pc := 13) dX10_partOf_13 rfl ?_
  refine ldN_MO_partB (pc := 14) dX10_partOf_14 (by omega) rfl ?_
  refine ev_i2l (pc := 15) dX10_partOf_15 ?_
  refine ev_ldiv (pc := 16) dX10_partOf_16 (i64ne h1) ?_
  exact ev_lret (pc := 17) dX10_partOf_17 rfl rl
end MO1
