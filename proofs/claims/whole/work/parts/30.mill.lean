section ML
variable {g : GG} {S : St}
theorem outB_idx {f : Int32} {n : Nat} (hn : n < 2 ^ 30) (h : outB f 0 (nI n - 1) = false) : ∃ i : Nat, i < n ∧ f = nI i := by
  unfold outB at h
  simp only [Bool.or_eq_false_iff, decide_eq_false_iff_not, Bool.not_eq_false', decide_eq_true_eq] at h
  obtain ⟨j, hj, rfl⟩ := nI_of h.1
  refine ⟨j, ?_, rfl⟩
  have h2 := Int32.le_iff_toInt_le.mp h.2
  have e1 : (nI n - 1).toInt = (n : Int) - 1 := by
    have := pk_sub_toInt (a := n) (b := 1) hn (by decide)
    exact this
  rw [e1, nI_toInt hj] at h2
  omega
theorem outB_rng {f hi : Int32} {n : Nat} (hh : hi.toInt = n) (h : outB f 0 hi = false) : ∃ i : Nat, i ≤ n ∧ f = nI i := by
  unfold outB at h
  simp only [Bool.or_eq_false_iff, decide_eq_false_iff_not, Bool.not_eq_false', decide_eq_true_eq] at h
  exact nI_of2 hh h.1 h.2
def refuseS (x : Int32) (S : St) : Int32 × St := (x, setI S 1 x)
def farmerC (nf : Nat) (a b c : Int32) (S : St) : Int32 × St :=
  if outB a 0 9 = true then refuseS (-1) S else if outB b 0 1000 = true then refuseS (-1) S else if outB c 1 50 = true then refuseS (-1) S else if nf < 40 then (nI nf, setI (addF nf a b c S) 1 0) else refuseS (-5) S
theorem c_X9_farmer {a b c : Int32} {nf : Nat} (hs : S.1 2 = nI nf) (hn : nf ≤ 40) : Ct g mX9_farmer [.ref 0, .int a, .int b, .int c] (hC S) (RI (farmerC nf a b c S).1 (farmerC nf a b c S).2) := by
  refine ct_of rfl rfl ?_
  unfold farmerC
  refine ev_iload_n (pc := 0) dX9_farmer_0 rfl ?_
  refine ev_iconst (pc := 1) (v := 0) dX9_farmer_1 (by decide) ?_
  refine ev_bipush (pc := 2) (v := 9) dX9_farmer_2 (by decide) ?_
  refine callS3I (pc := 4) dX9_farmer_4 Ml_X9_84 M_X9_outside rfl rfl c_X9_outside ?_
  refine ev_if_neB (pc := 7) (tgt := 31) dX9_farmer_7 (by decide) (fun cq7 => ?_) (fun cq7 => ?_)
  · rw [if_pos cq7]
    refine ev_aload_n (pc := 31) dX9_farmer_31 rfl ?_
    refine ev_iconst (pc := 32) (v := -1) dX9_farmer_32 (by decide) ?_
    refine callV1I (pc := 33) dX9_farmer_33 Ml_X9_88 M_X9_refuse rfl rfl rfl rfl c_X9_refuse ?_
    exact ev_iret (pc := 36) dX9_farmer_36 rfl rfl ri
  · rw [if_neg (by rw [cq7]; decide)]
    refine ev_iload_n (pc := 10) dX9_farmer_10 rfl ?_
    refine ev_iconst (pc := 11) (v := 0) dX9_farmer_11 (by decide) ?_
    refine ev_sipush (pc := 12) (v := 1000) dX9_farmer_12 (by decide) ?_
    refine callS3I (pc := 15) dX9_farmer_15 Ml_X9_84 M_X9_outside rfl rfl c_X9_outside ?_
    refine ev_if_neB (pc := 18) (tgt := 31) dX9_farmer_18 (by decide) (fun cq18 => ?_) (fun cq18 => ?_)
    · rw [if_pos cq18]
      refine ev_aload_n (pc := 31) dX9_farmer_31 rfl ?_
      refine ev_iconst (pc := 32) (v := -1) dX9_farmer_32 (by decide) ?_
      refine callV1I (pc := 33) dX9_farmer_33 Ml_X9_88 M_X9_refuse rfl rfl rfl rfl c_X9_refuse ?_
      exact ev_iret (pc := 36) dX9_farmer_36 rfl rfl ri
    · rw [if_neg (by rw [cq18]; decide)]
      refine ev_iload_n (pc := 21) dX9_farmer_21 rfl ?_
      refine ev_iconst (pc := 22) (v := 1) dX9_farmer_22 (by decide) ?_
      refine ev_bipush (pc := 23) (v := 50) dX9_farmer_23 (by decide) ?_
      refine callS3I (pc := 25) dX9_farmer_25 Ml_X9_84 M_X9_outside rfl rfl c_X9_outside ?_
      refine ev_if_eqB (pc := 28) (tgt := 37) dX9_farmer_28 (by decide) (fun cq28 => ?_) (fun cq28 => ?_)
      · rw [if_neg (by rw [cq28]; decide)]
        refine ev_aload_n (pc := 37) dX9_farmer_37 rfl ?_
        refine get_MF_farmers (pc := 38) dX9_farmer_38 Fl_X9_10 ?_
        refine get_F_size (pc := 41) dX9_farmer_41 Fl_X9_92 hs ?_
        refine ev_bipush (pc := 44) (v := nI 40) dX9_farmer_44 (by decide) ?_
        refine ev_icmp_ltN (pc := 46) (tgt := 56) (by omega) (by omega) dX9_farmer_46 (by decide) (fun cq46 => ?_) (fun cq46 => ?_)
        · rw [if_pos cq46]
          refine ev_aload_n (pc := 56) dX9_farmer_56 rfl ?_
          refine get_MF_farmers (pc := 57) dX9_farmer_57 Fl_X9_10 ?_
          refine ev_iload_n (pc := 60) dX9_farmer_60 rfl ?_
          refine ev_iload_n (pc := 61) dX9_farmer_61 rfl ?_
          refine ev_iload_n (pc := 62) dX9_farmer_62 rfl ?_
          refine callV3V (pc := 63) dX9_farmer_63 Ml_X9_95 M_X4_add rfl rfl rfl rfl (c_X4_add hs cq46) ?_
          refine ev_aload_n (pc := 66) dX9_farmer_66 rfl ?_
          refine ev_aload_n (pc := 67) dX9_farmer_67 rfl ?_
          refine get_MF_farmers (pc := 68) dX9_farmer_68 Fl_X9_10 ?_
          refine get_F_size (pc := 71) dX9_farmer_71 Fl_X9_92 (show _ = nI nf + 1 from rfl) ?_
          refine ev_iconst (pc := 74) (v := 1) dX9_farmer_74 (by decide) ?_
          refine ev_isub (pc := 75) dX9_farmer_75 ?_
          rw [nI_1, nI_pred]
          refine callV1I (pc := 76) dX9_farmer_76 Ml_X9_99 M_X9_accept rfl rfl rfl rfl c_X9_accept ?_
          exact ev_iret (pc := 79) dX9_farmer_79 rfl rfl ri
        · rw [if_neg cq46]
          refine ev_aload_n (pc := 49) dX9_farmer_49 rfl ?_
          refine ev_bipush (pc := 50) (v := -5) dX9_farmer_50 (by decide) ?_
          refine callV1I (pc := 52) dX9_farmer_52 Ml_X9_88 M_X9_refuse rfl rfl rfl rfl c_X9_refuse ?_
          exact ev_iret (pc := 55) dX9_farmer_55 rfl rfl ri
      · rw [if_pos cq28]
        refine ev_aload_n (pc := 31) dX9_farmer_31 rfl ?_
        refine ev_iconst (pc := 32) (v := -1) dX9_farmer_32 (by decide) ?_
        refine callV1I (pc := 33) dX9_farmer_33 Ml_X9_88 M_X9_refuse rfl rfl rfl rfl c_X9_refuse ?_
        exact ev_iret (pc := 36) dX9_farmer_36 rfl rfl ri
def creditC (nf nc : Nat) (f a k : Int32) (S : St) : Int32 × St :=
  if outB a 1 100000 = true then refuseS (-1) S else if outB k 0 400 = true then refuseS (-1) S else if outB f 0 (nI nf - 1) = true then refuseS (-2) S else if nc < 200 then (nI nc + 1, setI (addC nc f a k S) 1 0) else refuseS (-5) S
theorem c_X9_credit {f a k : Int32} {nf nc : Nat} (hs : S.1 2 = nI nf) (hs2 : S.1 3 = nI nc) (hn : nc ≤ 200) : Ct g mX9_credit [.ref 0, .int f, .int a, .int k] (hC S) (RI (creditC nf nc f a k S).1 (creditC nf nc f a k S).2) := by
  refine ct_of rfl rfl ?_
  unfold creditC
  rw [← hs]
  refine ev_iload_n (pc := 0) dX9_credit_0 rfl ?_
  refine ev_iconst (pc := 1) (v := 1) dX9_credit_1 (by decide) ?_
  refine ev_ldc (pc := 2) dX9_credit_2 Cn_X9_102 ?_
  refine callS3I (pc := 4) dX9_credit_4 Ml_X9_84 M_X9_outside rfl rfl c_X9_outside ?_
  refine ev_if_neB (pc := 7) (tgt := 21) dX9_credit_7 (by decide) (fun cq7 => ?_) (fun cq7 => ?_)
  · rw [if_pos cq7]
    refine ev_aload_n (pc := 21) dX9_credit_21 rfl ?_
    refine ev_iconst (pc := 22) (v := -1) dX9_credit_22 (by decide) ?_
    refine callV1I (pc := 23) dX9_credit_23 Ml_X9_88 M_X9_refuse rfl rfl rfl rfl c_X9_refuse ?_
    exact ev_iret (pc := 26) dX9_credit_26 rfl rfl ri
  · rw [if_neg (by rw [cq7]; decide)]
    refine ev_iload_n (pc := 10) dX9_credit_10 rfl ?_
    refine ev_iconst (pc := 11) (v := 0) dX9_credit_11 (by decide) ?_
    refine ev_sipush (pc := 12) (v := 400) dX9_credit_12 (by decide) ?_
    refine callS3I (pc := 15) dX9_credit_15 Ml_X9_84 M_X9_outside rfl rfl c_X9_outside ?_
    refine ev_if_eqB (pc := 18) (tgt := 27) dX9_credit_18 (by decide) (fun cq18 => ?_) (fun cq18 => ?_)
    · rw [if_neg (by rw [cq18]; decide)]
      refine ev_aload_n (pc := 27) dX9_credit_27 rfl ?_
      refine ev_iload_n (pc := 28) dX9_credit_28 rfl ?_
      refine callV1I (pc := 29) dX9_credit_29 Ml_X9_103 M_X9_isNoFarmer rfl rfl rfl rfl c_X9_isNoFarmer ?_
      refine ev_if_eqB (pc := 32) (tgt := 42) dX9_credit_32 (by decide) (fun cq32 => ?_) (fun cq32 => ?_)
      · rw [if_neg (by rw [cq32]; decide)]
        refine ev_aload_n (pc := 42) dX9_credit_42 rfl ?_
        refine get_MF_credits (pc := 43) dX9_credit_43 Fl_X9_19 ?_
        refine get_C_size (pc := 46) dX9_credit_46 Fl_X9_107 hs2 ?_
        refine ev_sipush (pc := 49) (v := nI 200) dX9_credit_49 (by decide) ?_
        refine ev_icmp_ltN (pc := 52) (tgt := 62) (by omega) (by omega) dX9_credit_52 (by decide) (fun cq52 => ?_) (fun cq52 => ?_)
        · rw [if_pos cq52]
          refine ev_aload_n (pc := 62) dX9_credit_62 rfl ?_
          refine get_MF_credits (pc := 63) dX9_credit_63 Fl_X9_19 ?_
          refine ev_iload_n (pc := 66) dX9_credit_66 rfl ?_
          refine ev_iload_n (pc := 67) dX9_credit_67 rfl ?_
          refine ev_iload_n (pc := 68) dX9_credit_68 rfl ?_
          refine callV3V (pc := 69) dX9_credit_69 Ml_X9_108 M_X3_add rfl rfl rfl rfl (c_X3_add hs2 cq52) ?_
          refine ev_aload_n (pc := 72) dX9_credit_72 rfl ?_
          refine ev_aload_n (pc := 73) dX9_credit_73 rfl ?_
          refine get_MF_credits (pc := 74) dX9_credit_74 Fl_X9_19 ?_
          refine get_C_size (pc := 77) dX9_credit_77 Fl_X9_107 (show _ = nI nc + 1 from rfl) ?_
          refine callV1I (pc := 80) dX9_credit_80 Ml_X9_99 M_X9_accept rfl rfl rfl rfl c_X9_accept ?_
          exact ev_iret (pc := 83) dX9_credit_83 rfl rfl ri
        · rw [if_neg cq52]
          refine ev_aload_n (pc := 55) dX9_credit_55 rfl ?_
          refine ev_bipush (pc := 56) (v := -5) dX9_credit_56 (by decide) ?_
          refine callV1I (pc := 58) dX9_credit_58 Ml_X9_88 M_X9_refuse rfl rfl rfl rfl c_X9_refuse ?_
          exact ev_iret (pc := 61) dX9_credit_61 rfl rfl ri
      · rw [if_pos cq32]
        refine ev_aload_n (pc := 35) dX9_credit_35 rfl ?_
        refine ev_bipush (pc := 36) (v := -2) dX9_credit_36 (by decide) ?_
        refine callV1I (pc := 38) dX9_credit_38 Ml_X9_88 M_X9_refuse rfl rfl rfl rfl c_X9_refuse ?_
        exact ev_iret (pc := 41) dX9_credit_41 rfl rfl ri
    · rw [if_pos cq18]
      refine ev_aload_n (pc := 21) dX9_credit_21 rfl ?_
      refine ev_iconst (pc := 22) (v := -1) dX9_credit_22 (by decide) ?_
      refine callV1I (pc := 23) dX9_credit_23 Ml_X9_88 M_X9_refuse rfl rfl rfl rfl c_X9_refuse ?_
      exact ev_iret (pc := 26) dX9_credit_26 rfl rfl ri
def basketC (nf nb : Nat) (f w r k : Int32) (S : St) : Int32 × St :=
  if outB w 1 1000 = true then refuseS (-1) S else if outB r 0 4 = true then refuseS (-1) S else if outB k 0 400 = true then refuseS (-1) S else if outB f 0 (nI nf - 1) = true then refuseS (-2) S else if nb < 300 then (nI nb + 1, setI (addK nb f w r k S) 1 0) else refuseS (-5) S
theorem c_X9_basket {f w r k : Int32} {nf nb : Nat} (hs : S.1 2 = nI nf) (hs2 : S.1 4 = nI nb) (hn : nb ≤ 300) : Ct g mX9_basket [.ref 0, .int f, .int w, .int r, .int k] (hC S) (RI (basketC nf nb f w r k S).1 (basketC nf nb f w r k S).2) := by
  refine ct_of rfl rfl ?_
  unfold basketC
  rw [← hs]
  refine ev_iload_n (pc := 0) dX9_basket_0 rfl ?_
  refine ev_iconst (pc := 1) (v := 1) dX9_basket_1 (by decide) ?_
  refine ev_sipush (pc := 2) (v := 1000) dX9_basket_2 (by decide) ?_
  refine callS3I (pc := 5) dX9_basket_5 Ml_X9_84 M_X9_outside rfl rfl c_X9_outside ?_
  refine ev_if_neB (pc := 8) (tgt := 32) dX9_basket_8 (by decide) (fun cq8 => ?_) (fun cq8 => ?_)
  · rw [if_pos cq8]
    refine ev_aload_n (pc := 32) dX9_basket_32 rfl ?_
    refine ev_iconst (pc := 33) (v := -1) dX9_basket_33 (by decide) ?_
    refine callV1I (pc := 34) dX9_basket_34 Ml_X9_88 M_X9_refuse rfl rfl rfl rfl c_X9_refuse ?_
    exact ev_iret (pc := 37) dX9_basket_37 rfl rfl ri
  · rw [if_neg (by rw [cq8]; decide)]
    refine ev_iload_n (pc := 11) dX9_basket_11 rfl ?_
    refine ev_iconst (pc := 12) (v := 0) dX9_basket_12 (by decide) ?_
    refine ev_iconst (pc := 13) (v := 4) dX9_basket_13 (by decide) ?_
    refine callS3I (pc := 14) dX9_basket_14 Ml_X9_84 M_X9_outside rfl rfl c_X9_outside ?_
    refine ev_if_neB (pc := 17) (tgt := 32) dX9_basket_17 (by decide) (fun cq17 => ?_) (fun cq17 => ?_)
    · rw [if_pos cq17]
      refine ev_aload_n (pc := 32) dX9_basket_32 rfl ?_
      refine ev_iconst (pc := 33) (v := -1) dX9_basket_33 (by decide) ?_
      refine callV1I (pc := 34) dX9_basket_34 Ml_X9_88 M_X9_refuse rfl rfl rfl rfl c_X9_refuse ?_
      exact ev_iret (pc := 37) dX9_basket_37 rfl rfl ri
    · rw [if_neg (by rw [cq17]; decide)]
      refine ev_iload (pc := 20) dX9_basket_20 rfl ?_
      refine ev_iconst (pc := 22) (v := 0) dX9_basket_22 (by decide) ?_
      refine ev_sipush (pc := 23) (v := 400) dX9_basket_23 (by decide) ?_
      refine callS3I (pc := 26) dX9_basket_26 Ml_X9_84 M_X9_outside rfl rfl c_X9_outside ?_
      refine ev_if_eqB (pc := 29) (tgt := 38) dX9_basket_29 (by decide) (fun cq29 => ?_) (fun cq29 => ?_)
      · rw [if_neg (by rw [cq29]; decide)]
        refine ev_aload_n (pc := 38) dX9_basket_38 rfl ?_
        refine ev_iload_n (pc := 39) dX9_basket_39 rfl ?_
        refine callV1I (pc := 40) dX9_basket_40 Ml_X9_103 M_X9_isNoFarmer rfl rfl rfl rfl c_X9_isNoFarmer ?_
        refine ev_if_eqB (pc := 43) (tgt := 53) dX9_basket_43 (by decide) (fun cq43 => ?_) (fun cq43 => ?_)
        · rw [if_neg (by rw [cq43]; decide)]
          refine ev_aload_n (pc := 53) dX9_basket_53 rfl ?_
          refine get_MF_baskets (pc := 54) dX9_basket_54 Fl_X9_26 ?_
          refine get_K_size (pc := 57) dX9_basket_57 Fl_X9_109 hs2 ?_
          refine ev_sipush (pc := 60) (v := nI 300) dX9_basket_60 (by decide) ?_
          refine ev_icmp_ltN (pc := 63) (tgt := 73) (by omega) (by omega) dX9_basket_63 (by decide) (fun cq63 => ?_) (fun cq63 => ?_)
          · rw [if_pos cq63]
            refine ev_aload_n (pc := 73) dX9_basket_73 rfl ?_
            refine get_MF_baskets (pc := 74) dX9_basket_74 Fl_X9_26 ?_
            refine ev_iload_n (pc := 77) dX9_basket_77 rfl ?_
            refine ev_iload_n (pc := 78) dX9_basket_78 rfl ?_
            refine ev_iload_n (pc := 79) dX9_basket_79 rfl ?_
            refine ev_iload (pc := 80) dX9_basket_80 rfl ?_
            refine callV4V (pc := 82) dX9_basket_82 Ml_X9_110 M_X0_add rfl rfl rfl rfl (c_X0_add hs2 cq63) ?_
            refine ev_aload_n (pc := 85) dX9_basket_85 rfl ?_
            refine ev_aload_n (pc := 86) dX9_basket_86 rfl ?_
            refine get_MF_baskets (pc := 87) dX9_basket_87 Fl_X9_26 ?_
            refine get_K_size (pc := 90) dX9_basket_90 Fl_X9_109 (show _ = nI nb + 1 from rfl) ?_
            refine callV1I (pc := 93) dX9_basket_93 Ml_X9_99 M_X9_accept rfl rfl rfl rfl c_X9_accept ?_
            exact ev_iret (pc := 96) dX9_basket_96 rfl rfl ri
          · rw [if_neg cq63]
            refine ev_aload_n (pc := 66) dX9_basket_66 rfl ?_
            refine ev_bipush (pc := 67) (v := -5) dX9_basket_67 (by decide) ?_
            refine callV1I (pc := 69) dX9_basket_69 Ml_X9_88 M_X9_refuse rfl rfl rfl rfl c_X9_refuse ?_
            exact ev_iret (pc := 72) dX9_basket_72 rfl rfl ri
        · rw [if_pos cq43]
          refine ev_aload_n (pc := 46) dX9_basket_46 rfl ?_
          refine ev_bipush (pc := 47) (v := -2) dX9_basket_47 (by decide) ?_
          refine callV1I (pc := 49) dX9_basket_49 Ml_X9_88 M_X9_refuse rfl rfl rfl rfl c_X9_refuse ?_
          exact ev_iret (pc := 52) dX9_basket_52 rfl rfl ri
      · rw [if_pos cq29]
        refine ev_aload_n (pc := 32) dX9_basket_32 rfl ?_
        refine ev_iconst (pc := 33) (v := -1) dX9_basket_33 (by decide) ?_
        refine callV1I (pc := 34) dX9_basket_34 Ml_X9_88 M_X9_refuse rfl rfl rfl rfl c_X9_refuse ?_
        exact ev_iret (pc := 37) dX9_basket_37 rfl rfl ri
def feedC (n : Nat) (a b c d e : Int32) (S : St) : Int32 × St :=
  if n ≤ 180 then (nI (n + 20), appendS (n + 16) e (appendS (n + 12) d (appendS (n + 8) c (appendS (n + 4) b (appendS n a S))))) else (-1, S)
theorem c_X9_feed {a b c d e : Int32} {n : Nat} (hs : S.1 6 = nI n) (hn : n ≤ 200) : Ct g mX9_feed [.ref 0, .int a, .int b, .int c, .int d, .int e] (hC S) (RI (feedC n a b c d e S).1 (feedC n a b c d e S).2) := by
  refine ct_of rfl rfl ?_
  unfold feedC
  refine ev_aload_n (pc := 0) dX9_feed_0 rfl ?_
  refine get_MF_tape (pc := 1) dX9_feed_1 Fl_X9_33 ?_
  refine get_TP_length (pc := 4) dX9_feed_4 Fl_X9_113 hs ?_
  refine ev_sipush (pc := 7) (v := nI 180) dX9_feed_7 (by decide) ?_
  refine ev_icmp_leN (pc := 10) (tgt := 15) (by omega) (by omega) dX9_feed_10 (by decide) (fun cq10 => ?_) (fun cq10 => ?_)
  · rw [if_pos cq10]
    refine ev_aload_n (pc := 15) dX9_feed_15 rfl ?_
    refine get_MF_tape (pc := 16) dX9_feed_16 Fl_X9_33 ?_
    refine ev_iload_n (pc := 19) dX9_feed_19 rfl ?_
    refine callV1V (pc := 20) dX9_feed_20 Ml_X9_116 M_X7_append rfl rfl rfl rfl (c_X7_append hs (by omega)) ?_
    refine ev_aload_n (pc := 23) dX9_feed_23 rfl ?_
    refine get_MF_tape (pc := 24) dX9_feed_24 Fl_X9_33 ?_
    refine ev_iload_n (pc := 27) dX9_feed_27 rfl ?_
    refine callV1V (pc := 28) dX9_feed_28 Ml_X9_116 M_X7_append rfl rfl rfl rfl (c_X7_append (n := n + 4) rfl (by omega)) ?_
    refine ev_aload_n (pc := 31) dX9_feed_31 rfl ?_
    refine get_MF_tape (pc := 32) dX9_feed_32 Fl_X9_33 ?_
    refine ev_iload_n (pc := 35) dX9_feed_35 rfl ?_
    refine callV1V (pc := 36) dX9_feed_36 Ml_X9_116 M_X7_append rfl rfl rfl rfl (c_X7_append (n := n + 8) rfl (by omega)) ?_
    refine ev_aload_n (pc := 39) dX9_feed_39 rfl ?_
    refine get_MF_tape (pc := 40) dX9_feed_40 Fl_X9_33 ?_
    refine ev_iload (pc := 43) dX9_feed_43 rfl ?_
    refine callV1V (pc := 45) dX9_feed_45 Ml_X9_116 M_X7_append rfl rfl rfl rfl (c_X7_append (n := n + 12) rfl (by omega)) ?_
    refine ev_aload_n (pc := 48) dX9_feed_48 rfl ?_
    refine get_MF_tape (pc := 49) dX9_feed_49 Fl_X9_33 ?_
    refine ev_iload (pc := 52) dX9_feed_52 rfl ?_
    refine callV1V (pc := 54) dX9_feed_54 Ml_X9_116 M_X7_append rfl rfl rfl rfl (c_X7_append (n := n + 16) rfl (by omega)) ?_
    refine ev_aload_n (pc := 57) dX9_feed_57 rfl ?_
    refine get_MF_tape (pc := 58) dX9_feed_58 Fl_X9_33 ?_
    refine get_TP_length (pc := 61) dX9_feed_61 Fl_X9_113 (show _ = nI (n + 20) from rfl) ?_
    exact ev_iret (pc := 64) dX9_feed_64 rfl rfl ri
  · rw [if_neg cq10]
    refine ev_iconst (pc := 13) (v := -1) dX9_feed_13 (by decide) ?_
    exact ev_iret (pc := 14) dX9_feed_14 rfl rfl ri
def endC (x : Int32) (S : St) : Int32 × St := if outB x 0 (S.1 6) = true then (-1, S) else (x, setI S 6 x)
theorem c_X9_end {x : Int32} : Ct g mX9_end [.ref 0, .int x] (hC S) (RI (endC x S).1 (endC x S).2) := by
  refine ct_of rfl rfl ?_
  unfold endC
  refine ev_iload_n (pc := 0) dX9_end_0 rfl ?_
  refine ev_iconst (pc := 1) (v := 0) dX9_end_1 (by decide) ?_
  refine ev_aload_n (pc := 2) dX9_end_2 rfl ?_
  refine get_MF_tape (pc := 3) dX9_end_3 Fl_X9_33 ?_
  refine get_TP_length (pc := 6) dX9_end_6 Fl_X9_113 rfl ?_
  refine callS3I (pc := 9) dX9_end_9 Ml_X9_84 M_X9_outside rfl rfl c_X9_outside ?_
  refine ev_if_eqB (pc := 12) (tgt := 17) dX9_end_12 (by decide) (fun cq12 => ?_) (fun cq12 => ?_)
  · rw [if_neg (by rw [cq12]; decide)]
    refine ev_aload_n (pc := 17) dX9_end_17 rfl ?_
    refine get_MF_tape (pc := 18) dX9_end_18 Fl_X9_33 ?_
    refine ev_iload_n (pc := 21) dX9_end_21 rfl ?_
    refine put_TP_length (pc := 22) dX9_end_22 Fp_X9_113 ?_
    refine ev_iload_n (pc := 25) dX9_end_25 rfl ?_
    exact ev_iret (pc := 26) dX9_end_26 rfl rfl ri
  · rw [if_pos cq12]
    refine ev_iconst (pc := 15) (v := -1) dX9_end_15 (by decide) ?_
    exact ev_iret (pc := 16) dX9_end_16 rfl rfl ri
theorem c_X9_fault : Ct g mX9_fault [.ref 0] (hC S) (RI (S.1 0) S) := by
  refine ct_of rfl rfl ?_
  refine ev_aload_n (pc := 0) dX9_fault_0 rfl ?_
  refine get_MF_faultPlace (pc := 1) dX9_fault_1 Fl_X9_77 rfl ?_
  exact ev_iret (pc := 4) dX9_fault_4 rfl rfl ri
theorem c_X9_status : Ct g mX9_status [.ref 0] (hC S) (RI (S.1 1) S) := by
  refine ct_of rfl rfl ?_
  refine ev_aload_n (pc := 0) dX9_status_0 rfl ?_
  refine get_MF_refusal (pc := 1) dX9_status_1 Fl_X9_81 rfl ?_
  exact ev_iret (pc := 4) dX9_status_4 rfl rfl ri
def bearsC (x : Int32) (S : St) : Int32 × St := if outB x 0 10000 = true then refuseS (-1) S else (S.1 11, setI (setI S 11 x) 1 0)
theorem c_X9_bears {x : Int32} : Ct g mX9_bears [.ref 0, .int x] (hC S) (RI (bearsC x S).1 (bearsC x S).2) := by
  refine ct_of rfl rfl ?_
  unfold bearsC
  refine ev_iload_n (pc := 0) dX9_bears_0 rfl ?_
  refine ev_iconst (pc := 1) (v := 0) dX9_bears_1 (by decide) ?_
  refine ev_sipush (pc := 2) (v := 10000) dX9_bears_2 (by decide) ?_
  refine callS3I (pc := 5) dX9_bears_5 Ml_X9_84 M_X9_outside rfl rfl c_X9_outside ?_
  refine ev_if_eqB (pc := 8) (tgt := 17) dX9_bears_8 (by decide) (fun cq8 => ?_) (fun cq8 => ?_)
  · rw [if_neg (by rw [cq8]; decide)]
    refine ev_aload_n (pc := 17) dX9_bears_17 rfl ?_
    refine get_MF_land (pc := 18) dX9_bears_18 Fl_X9_47 ?_
    refine get_LA_yieldOfField (pc := 21) dX9_bears_21 Fl_X9_183 rfl ?_
    refine ev_istore_n (pc := 24) (lv' := [(0, .ref 0), (1, .int _), (2, .int _)]) dX9_bears_24 (Nat.le_of_ble_eq_true rfl) rfl ?_
    refine ev_aload_n (pc := 25) dX9_bears_25 rfl ?_
    refine get_MF_land (pc := 26) dX9_bears_26 Fl_X9_47 ?_
    refine ev_iload_n (pc := 29) dX9_bears_29 rfl ?_
    refine put_LA_yieldOfField (pc := 30) dX9_bears_30 Fp_X9_183 ?_
    refine ev_aload_n (pc := 33) dX9_bears_33 rfl ?_
    refine ev_iload_n (pc := 34) dX9_bears_34 rfl ?_
    refine callV1I (pc := 35) dX9_bears_35 Ml_X9_99 M_X9_accept rfl rfl rfl rfl c_X9_accept ?_
    exact ev_iret (pc := 38) dX9_bears_38 rfl rfl ri
  · rw [if_pos cq8]
    refine ev_aload_n (pc := 11) dX9_bears_11 rfl ?_
    refine ev_iconst (pc := 12) (v := -1) dX9_bears_12 (by decide) ?_
    refine callV1I (pc := 13) dX9_bears_13 Ml_X9_88 M_X9_refuse rfl rfl rfl rfl c_X9_refuse ?_
    exact ev_iret (pc := 16) dX9_bears_16 rfl rfl ri
def droughtC (nd : Nat) (a b c : Int32) (S : St) : Int32 × St :=
  if outB a 0 1000 = true then refuseS (-1) S else if outB b a 1000 = true then refuseS (-1) S else if outB c 0 100 = true then refuseS (-1) S else if nd < 60 then (nI nd + 1, setI (addD nd a b c S) 1 0) else refuseS (-5) S
theorem c_X9_drought {a b c : Int32} {nd : Nat} (hs : S.1 10 = nI nd) (hn : nd ≤ 60) : Ct g mX9_drought [.ref 0, .int a, .int b, .int c] (hC S) (RI (droughtC nd a b c S).1 (droughtC nd a b c S).2) := by
  refine ct_of rfl rfl ?_
  unfold droughtC
  refine ev_iload_n (pc := 0) dX9_drought_0 rfl ?_
  refine ev_iconst (pc := 1) (v := 0) dX9_drought_1 (by decide) ?_
  refine ev_sipush (pc := 2) (v := 1000) dX9_drought_2 (by decide) ?_
  refine callS3I (pc := 5) dX9_drought_5 Ml_X9_84 M_X9_outside rfl rfl c_X9_outside ?_
  refine ev_if_neB (pc := 8) (tgt := 32) dX9_drought_8 (by decide) (fun cq8 => ?_) (fun cq8 => ?_)
  · rw [if_pos cq8]
    refine ev_aload_n (pc := 32) dX9_drought_32 rfl ?_
    refine ev_iconst (pc := 33) (v := -1) dX9_drought_33 (by decide) ?_
    refine callV1I (pc := 34) dX9_drought_34 Ml_X9_88 M_X9_refuse rfl rfl rfl rfl c_X9_refuse ?_
    exact ev_iret (pc := 37) dX9_drought_37 rfl rfl ri
  · rw [if_neg (by rw [cq8]; decide)]
    refine ev_iload_n (pc := 11) dX9_drought_11 rfl ?_
    refine ev_iload_n (pc := 12) dX9_drought_12 rfl ?_
    refine ev_sipush (pc := 13) (v := 1000) dX9_drought_13 (by decide) ?_
    refine callS3I (pc := 16) dX9_drought_16 Ml_X9_84 M_X9_outside rfl rfl c_X9_outside ?_
    refine ev_if_neB (pc := 19) (tgt := 32) dX9_drought_19 (by decide) (fun cq19 => ?_) (fun cq19 => ?_)
    · rw [if_pos cq19]
      refine ev_aload_n (pc := 32) dX9_drought_32 rfl ?_
      refine ev_iconst (pc := 33) (v := -1) dX9_drought_33 (by decide) ?_
      refine callV1I (pc := 34) dX9_drought_34 Ml_X9_88 M_X9_refuse rfl rfl rfl rfl c_X9_refuse ?_
      exact ev_iret (pc := 37) dX9_drought_37 rfl rfl ri
    · rw [if_neg (by rw [cq19]; decide)]
      refine ev_iload_n (pc := 22) dX9_drought_22 rfl ?_
      refine ev_iconst (pc := 23) (v := 0) dX9_drought_23 (by decide) ?_
      refine ev_bipush (pc := 24) (v := 100) dX9_drought_24 (by decide) ?_
      refine callS3I (pc := 26) dX9_drought_26 Ml_X9_84 M_X9_outside rfl rfl c_X9_outside ?_
      refine ev_if_eqB (pc := 29) (tgt := 38) dX9_drought_29 (by decide) (fun cq29 => ?_) (fun cq29 => ?_)
      · rw [if_neg (by rw [cq29]; decide)]
        refine ev_aload_n (pc := 38) dX9_drought_38 rfl ?_
        refine get_MF_land (pc := 39) dX9_drought_39 Fl_X9_47 ?_
        refine get_LA_size (pc := 42) dX9_drought_42 Fl_X9_186 hs ?_
        refine ev_bipush (pc := 45) (v := nI 60) dX9_drought_45 (by decide) ?_
        refine ev_icmp_ltN (pc := 47) (tgt := 57) (by omega) (by omega) dX9_drought_47 (by decide) (fun cq47 => ?_) (fun cq47 => ?_)
        · rw [if_pos cq47]
          refine ev_aload_n (pc := 57) dX9_drought_57 rfl ?_
          refine get_MF_land (pc := 58) dX9_drought_58 Fl_X9_47 ?_
          refine ev_iload_n (pc := 61) dX9_drought_61 rfl ?_
          refine ev_iload_n (pc := 62) dX9_drought_62 rfl ?_
          refine ev_iload_n (pc := 63) dX9_drought_63 rfl ?_
          refine callV3V (pc := 64) dX9_drought_64 Ml_X9_187 M_X5_add rfl rfl rfl rfl (c_X5_add hs cq47) ?_
          refine ev_aload_n (pc := 67) dX9_drought_67 rfl ?_
          refine ev_aload_n (pc := 68) dX9_drought_68 rfl ?_
          refine get_MF_land (pc := 69) dX9_drought_69 Fl_X9_47 ?_
          refine get_LA_size (pc := 72) dX9_drought_72 Fl_X9_186 (show _ = nI nd + 1 from rfl) ?_
          refine callV1I (pc := 75) dX9_drought_75 Ml_X9_99 M_X9_accept rfl rfl rfl rfl c_X9_accept ?_
          exact ev_iret (pc := 78) dX9_drought_78 rfl rfl ri
        · rw [if_neg cq47]
          refine ev_aload_n (pc := 50) dX9_drought_50 rfl ?_
          refine ev_bipush (pc := 51) (v := -5) dX9_drought_51 (by decide) ?_
          refine callV1I (pc := 53) dX9_drought_53 Ml_X9_88 M_X9_refuse rfl rfl rfl rfl c_X9_refuse ?_
          exact ev_iret (pc := 56) dX9_drought_56 rfl rfl ri
      · rw [if_pos cq29]
        refine ev_aload_n (pc := 32) dX9_drought_32 rfl ?_
        refine ev_iconst (pc := 33) (v := -1) dX9_drought_33 (by decide) ?_
        refine callV1I (pc := 34) dX9_drought_34 Ml_X9_88 M_X9_refuse rfl rfl rfl rfl c_X9_refuse ?_
        exact ev_iret (pc := 37) dX9_drought_37 rfl rfl ri
def visitC (nf nv : Nat) (f h : Int32) (S : St) : Int32 × St :=
  if outB h 0 5000 = true then refuseS (-1) S else if outB f 0 (nI nf - 1) = true then refuseS (-2) S else if nv < 16 then (nI nv + 1, setI (addV nv (S.2.1 1 f.toNatClampNeg) h S) 1 0) else refuseS (-5) S
theorem c_X9_visit {f h : Int32} {nf nv : Nat} (hs : S.1 2 = nI nf) (hnf : nf ≤ 40) (hs2 : S.1 12 = nI nv) (hn : nv ≤ 16) : Ct g mX9_visit [.ref 0, .int f, .int h] (hC S) (RI (visitC nf nv f h S).1 (visitC nf nv f h S).2) := by
  refine ct_of rfl rfl ?_
  unfold visitC
  rw [← hs]
  refine ev_iload_n (pc := 0) dX9_visit_0 rfl ?_
  refine ev_iconst (pc := 1) (v := 0) dX9_visit_1 (by decide) ?_
  refine ev_sipush (pc := 2) (v := 5000) dX9_visit_2 (by decide) ?_
  refine callS3I (pc := 5) dX9_visit_5 Ml_X9_84 M_X9_outside rfl rfl c_X9_outside ?_
  refine ev_if_eqB (pc := 8) (tgt := 17) dX9_visit_8 (by decide) (fun cq8 => ?_) (fun cq8 => ?_)
  · rw [if_neg (by rw [cq8]; decide)]
    refine ev_aload_n (pc := 17) dX9_visit_17 rfl ?_
    refine ev_iload_n (pc := 18) dX9_visit_18 rfl ?_
    refine callV1I (pc := 19) dX9_visit_19 Ml_X9_103 M_X9_isNoFarmer rfl rfl rfl rfl c_X9_isNoFarmer ?_
    refine ev_if_eqB (pc := 22) (tgt := 32) dX9_visit_22 (by decide) (fun cq22 => ?_) (fun cq22 => ?_)
    · rw [if_neg (by rw [cq22]; decide)]
      rw [hs] at cq22
      refine ev_aload_n (pc := 32) dX9_visit_32 rfl ?_
      refine get_MF_road (pc := 33) dX9_visit_33 Fl_X9_54 ?_
      refine get_RD_size (pc := 36) dX9_visit_36 Fl_X9_188 hs2 ?_
      refine ev_bipush (pc := 39) (v := nI 16) dX9_visit_39 (by decide) ?_
      refine ev_icmp_ltN (pc := 41) (tgt := 51) (by omega) (by omega) dX9_visit_41 (by decide) (fun cq41 => ?_) (fun cq41 => ?_)
      · rw [if_pos cq41]
        refine ev_aload_n (pc := 51) dX9_visit_51 rfl ?_
        refine get_MF_road (pc := 52) dX9_visit_52 Fl_X9_54 ?_
        refine ev_aload_n (pc := 55) dX9_visit_55 rfl ?_
        refine get_MF_farmers (pc := 56) dX9_visit_56 Fl_X9_10 ?_
        refine get_F_place (pc := 59) dX9_visit_59 Fl_X9_189 ?_
        refine ev_iload_n (pc := 62) dX9_visit_62 rfl ?_
        refine ld_F_place (pc := 63) dX9_visit_63 (by obtain ⟨i, hi, rfl⟩ := outB_idx (by omega) cq22; exact vp_in_nI (by omega) (by decide)) rfl ?_
        refine ev_iload_n (pc := 64) dX9_visit_64 rfl ?_
        refine callV2V (pc := 65) dX9_visit_65 Ml_X9_192 M_X6_add rfl rfl rfl rfl (c_X6_add hs2 cq41) ?_
        refine ev_aload_n (pc := 68) dX9_visit_68 rfl ?_
        refine ev_aload_n (pc := 69) dX9_visit_69 rfl ?_
        refine get_MF_road (pc := 70) dX9_visit_70 Fl_X9_54 ?_
        refine get_RD_size (pc := 73) dX9_visit_73 Fl_X9_188 (show _ = nI nv + 1 from rfl) ?_
        refine callV1I (pc := 76) dX9_visit_76 Ml_X9_99 M_X9_accept rfl rfl rfl rfl c_X9_accept ?_
        exact ev_iret (pc := 79) dX9_visit_79 rfl rfl ri
      · rw [if_neg cq41]
        refine ev_aload_n (pc := 44) dX9_visit_44 rfl ?_
        refine ev_bipush (pc := 45) (v := -5) dX9_visit_45 (by decide) ?_
        refine callV1I (pc := 47) dX9_visit_47 Ml_X9_88 M_X9_refuse rfl rfl rfl rfl c_X9_refuse ?_
        exact ev_iret (pc := 50) dX9_visit_50 rfl rfl ri
    · rw [if_pos cq22]
      refine ev_aload_n (pc := 25) dX9_visit_25 rfl ?_
      refine ev_bipush (pc := 26) (v := -2) dX9_visit_26 (by decide) ?_
      refine callV1I (pc := 28) dX9_visit_28 Ml_X9_88 M_X9_refuse rfl rfl rfl rfl c_X9_refuse ?_
      exact ev_iret (pc := 31) dX9_visit_31 rfl rfl ri
  · rw [if_pos cq8]
    refine ev_aload_n (pc := 11) dX9_visit_11 rfl ?_
    refine ev_iconst (pc := 12) (v := -1) dX9_visit_12 (by decide) ?_
    refine callV1I (pc := 13) dX9_visit_13 Ml_X9_88 M_X9_refuse rfl rfl rfl rfl c_X9_refuse ?_
    exact ev_iret (pc := 16) dX9_visit_16 rfl rfl ri
theorem c_X9_clear : Ct g mX9_clear [.ref 0] (hC S) (RI (S.1 12) (setI S 12 0)) := by
  refine ct_of rfl rfl ?_
  refine ev_aload_n (pc := 0) dX9_clear_0 rfl ?_
  refine get_MF_road (pc := 1) dX9_clear_1 Fl_X9_54 ?_
  refine get_RD_size (pc := 4) dX9_clear_4 Fl_X9_188 rfl ?_
  refine ev_istore_n (pc := 7) (lv' := [(0, .ref 0), (1, .int _)]) dX9_clear_7 (Nat.le_of_ble_eq_true rfl) rfl ?_
  refine ev_aload_n (pc := 8) dX9_clear_8 rfl ?_
  refine get_MF_road (pc := 9) dX9_clear_9 Fl_X9_54 ?_
  refine ev_iconst (pc := 12) (v := 0) dX9_clear_12 (by decide) ?_
  refine put_RD_size (pc := 13) dX9_clear_13 Fp_X9_188 ?_
  refine ev_iload_n (pc := 16) dX9_clear_16 rfl ?_
  exact ev_iret (pc := 17) dX9_clear_17 rfl rfl ri
def mostC (nv : Nat) (p : Int32) (S : St) : Int32 × St := if outB p 0 1000 = true then (-1, S) else (nI (mostF ((walkS p nv S).2.1 17) nv), walkS p nv S)
theorem walkS_size {p : Int32} {n : Nat} (hs : S.1 12 = nI n) : (walkS p n S).1 12 = nI n := by
  have h : eqA (walkS p n S) (walk0 p n S) := eqA.it (goA_eq _ _) _ _
  rw [h.1]
  exact hs
theorem c_X9_most {p : Int32} {nv : Nat} (hs : S.1 12 = nI nv) (hn : nv ≤ 16) : Ct g mX9_most [.ref 0, .int p] (hC S) (RI (mostC nv p S).1 (mostC nv p S).2) := by
  refine ct_of rfl rfl ?_
  unfold mostC
  refine ev_iload_n (pc := 0) dX9_most_0 rfl ?_
  refine ev_iconst (pc := 1) (v := 0) dX9_most_1 (by decide) ?_
  refine ev_sipush (pc := 2) (v := 1000) dX9_most_2 (by decide) ?_
  refine callS3I (pc := 5) dX9_most_5 Ml_X9_84 M_X9_outside rfl rfl c_X9_outside ?_
  refine ev_if_eqB (pc := 8) (tgt := 13) dX9_most_8 (by decide) (fun cq8 => ?_) (fun cq8 => ?_)
  · rw [if_neg (by rw [cq8]; decide)]
    refine ev_aload_n (pc := 13) dX9_most_13 rfl ?_
    refine get_MF_road (pc := 14) dX9_most_14 Fl_X9_54 ?_
    refine ev_iload_n (pc := 17) dX9_most_17 rfl ?_
    refine callV1V (pc := 18) dX9_most_18 Ml_X9_195 M_X6_walk rfl rfl rfl rfl (c_X6_walk hs hn) ?_
    refine ev_aload_n (pc := 21) dX9_most_21 rfl ?_
    refine get_MF_road (pc := 22) dX9_most_22 Fl_X9_54 ?_
    refine callV0I (pc := 25) dX9_most_25 Ml_X9_198 M_X6_mostMet rfl rfl rfl rfl (c_X6_mostMet (walkS_size hs) hn) ?_
    exact ev_iret (pc := 28) dX9_most_28 rfl rfl ri
  · rw [if_pos cq8]
    refine ev_iconst (pc := 11) (v := -1) dX9_most_11 (by decide) ?_
    exact ev_iret (pc := 12) dX9_most_12 rfl rfl ri
def leastC (nv : Nat) (p n : Int32) (S : St) : Int32 × St := if outB p 0 1000 = true then (-1, S) else if outB n 0 (nI nv) = true then (-1, S) else
  (if fhF ((walkS p nv S).2.1 17) (nv + 1 - n.toNatClampNeg) n.toNatClampNeg 1000000 = 1000000 then -1 else fhF ((walkS p nv S).2.1 17) (nv + 1 - n.toNatClampNeg) n.toNatClampNeg 1000000, walkS p nv S)
theorem c_X9_least {p n : Int32} {nv : Nat} (hs : S.1 12 = nI nv) (hn : nv ≤ 16) : Ct g mX9_least [.ref 0, .int p, .int n] (hC S) (RI (leastC nv p n S).1 (leastC nv p n S).2) := by
  refine ct_of rfl rfl ?_
  unfold leastC
  refine ev_iload_n (pc := 0) dX9_least_0 rfl ?_
  refine ev_iconst (pc := 1) (v := 0) dX9_least_1 (by decide) ?_
  refine ev_sipush (pc := 2) (v := 1000) dX9_least_2 (by decide) ?_
  refine callS3I (pc := 5) dX9_least_5 Ml_X9_84 M_X9_outside rfl rfl c_X9_outside ?_
  refine ev_if_neB (pc := 8) (tgt := 26) dX9_least_8 (by decide) (fun cq8 => ?_) (fun cq8 => ?_)
  · rw [if_pos cq8]
    refine ev_iconst (pc := 26) (v := -1) dX9_least_26 (by decide) ?_
    exact ev_iret (pc := 27) dX9_least_27 rfl rfl ri
  · rw [if_neg (by rw [cq8]; decide)]
    refine ev_iload_n (pc := 11) dX9_least_11 rfl ?_
    refine ev_iconst (pc := 12) (v := 0) dX9_least_12 (by decide) ?_
    refine ev_aload_n (pc := 13) dX9_least_13 rfl ?_
    refine get_MF_road (pc := 14) dX9_least_14 Fl_X9_54 ?_
    refine get_RD_size (pc := 17) dX9_least_17 Fl_X9_188 hs ?_
    refine callS3I (pc := 20) dX9_least_20 Ml_X9_84 M_X9_outside rfl rfl c_X9_outside ?_
    refine ev_if_eqB (pc := 23) (tgt := 28) dX9_least_23 (by decide) (fun cq23 => ?_) (fun cq23 => ?_)
    · rw [if_neg (by rw [cq23]; decide)]
      obtain ⟨j, hj, rfl⟩ := outB_rng (nI_toInt (by omega)) cq23
      rw [nI_clamp (by omega)]
      refine ev_aload_n (pc := 28) dX9_least_28 rfl ?_
      refine get_MF_road (pc := 29) dX9_least_29 Fl_X9_54 ?_
      refine ev_iload_n (pc := 32) dX9_least_32 rfl ?_
      refine callV1V (pc := 33) dX9_least_33 Ml_X9_195 M_X6_walk rfl rfl rfl rfl (c_X6_walk hs hn) ?_
      refine ev_aload_n (pc := 36) dX9_least_36 rfl ?_
      refine get_MF_road (pc := 37) dX9_least_37 Fl_X9_54 ?_
      refine ev_iload_n (pc := 40) dX9_least_40 rfl ?_
      refine callV1I (pc := 41) dX9_least_41 Ml_X9_202 M_X6_firstHourWith rfl rfl rfl rfl (c_X6_firstHourWith (walkS_size hs) hn hj) ?_
      refine ev_istore_n (pc := 44) (lv' := [(0, .ref 0), (1, .int _), (2, .int _), (3, .int _)]) dX9_least_44 (Nat.le_of_ble_eq_true rfl) rfl ?_
      refine ev_iload_n (pc := 45) dX9_least_45 rfl ?_
      refine ev_ldc (pc := 46) dX9_least_46 Cn_X9_205 ?_
      refine ev_icmp_ne (pc := 48) (tgt := 55) dX9_least_48 (by decide) (fun cq48 => ?_) (fun cq48 => ?_)
      · rw [if_neg cq48]
        refine ev_iload_n (pc := 55) dX9_least_55 rfl ?_
        exact ev_iret (pc := 56) dX9_least_56 rfl rfl ri
      · rw [if_pos cq48]
        refine ev_iconst (pc := 51) (v := -1) dX9_least_51 (by decide) ?_
        refine ev_goto (pc := 52) (tgt := 56) dX9_least_52 (by decide) ?_
        exact ev_iret (pc := 56) dX9_least_56 rfl rfl ri
    · rw [if_pos cq23]
      refine ev_iconst (pc := 26) (v := -1) dX9_least_26 (by decide) ?_
      exact ev_iret (pc := 27) dX9_least_27 rfl rfl ri
def ledC (nb : Nat) (n day : Int32) (S : St) : Int32 := if n < 0 then -1 else if outB day 0 400 = true then -1 else ledF (S.2.1 9) (S.2.1 7) (S.2.1 6) day nb 0 n
theorem c_X9_led {n day : Int32} {nb : Nat} (hs : S.1 4 = nI nb) (hn : nb ≤ 300) : Ct g mX9_led [.ref 0, .int n, .int day] (hC S) (RI (ledC nb n day S) S) := by
  refine ct_of rfl rfl ?_
  unfold ledC
  refine ev_iload_n (pc := 0) dX9_led_0 rfl ?_
  refine ev_if_lt (pc := 1) (tgt := 15) dX9_led_1 (by decide) (fun cq1 => ?_) (fun cq1 => ?_)
  · rw [if_pos cq1]
    refine ev_iconst (pc := 15) (v := -1) dX9_led_15 (by decide) ?_
    exact ev_iret (pc := 16) dX9_led_16 rfl rfl ri
  · rw [if_neg cq1]
    refine ev_iload_n (pc := 4) dX9_led_4 rfl ?_
    refine ev_iconst (pc := 5) (v := 0) dX9_led_5 (by decide) ?_
    refine ev_sipush (pc := 6) (v := 400) dX9_led_6 (by decide) ?_
    refine callS3I (pc := 9) dX9_led_9 Ml_X9_84 M_X9_outside rfl rfl c_X9_outside ?_
    refine ev_if_eqB (pc := 12) (tgt := 17) dX9_led_12 (by decide) (fun cq12 => ?_) (fun cq12 => ?_)
    · rw [if_neg (by rw [cq12]; decide)]
      refine ev_aload_n (pc := 17) dX9_led_17 rfl ?_
      refine get_MF_baskets (pc := 18) dX9_led_18 Fl_X9_26 ?_
      refine ev_iload_n (pc := 21) dX9_led_21 rfl ?_
      refine ev_iload_n (pc := 22) dX9_led_22 rfl ?_
      refine callV2I (pc := 23) dX9_led_23 Ml_X9_206 M_X0_ownerOf rfl rfl rfl rfl (c_X0_ownerOf hs hn) ?_
      exact ev_iret (pc := 26) dX9_led_26 rfl rfl ri
    · rw [if_pos cq12]
      refine ev_iconst (pc := 15) (v := -1) dX9_led_15 (by decide) ?_
      exact ev_iret (pc := 16) dX9_led_16 rfl rfl ri
end ML
