section RR3
variable {g : GG} {S : St}
def rdPrice (b : Nat) (S : St) : Bool × St :=
  let S1 := nextS S
  if outB (numR S1) 0 4 = true then (false, S1) else
  let S2 := nextS S1
  if outB (numR S2) 0 10000 = true then (false, S2) else
  (true, nextS (setA S2 (18 + b) (upd (S2.2.1 (18 + b)) (numR S1).toNatClampNeg (numR S2))))
def rdQuota (b : Nat) (S : St) : Bool × St :=
  let S1 := nextS S
  if outB (numR S1) 0 10000 = true then (false, S1) else
  (true, nextS (setI S1 (16 + b) (numR S1)))
def mx1 (x : Int32) : Int32 := if 1 < x then x else 1
def rdShare (b k : Nat) (S : St) : Bool × St :=
  let S1 := nextS S
  if outB (numR S1) 0 10000 = true then (false, S1) else
  let S2 := nextS S1
  if isWd S2 6 = true then
    let S3 := nextS S2
    if outB (numR S3) (mx1 (numR S1)) 10000 = true then (false, S3) else
    (true, nextS (shareSet b k (numR S1) (numR S3) S3))
  else (false, S2)
def rdClause (b : Nat) (S : St) : Bool × St :=
  if isWd S 0 = true then rdPrice b S else if isWd S 1 = true then rdQuota b S else if isWd S 2 = true then rdShare b 0 S else if isWd S 3 = true then rdShare b 1 S else if isWd S 4 = true then rdShare b 2 S else if isWd S 5 = true then rdShare b 3 S else (false, S)
theorem Tk.a (h : Tk S) (n : Nat) (f : Nat → Int32) : Tk (setA S n f) := h
theorem Tk.s (h : Tk S) (b k : Nat) (x y : Int32) : Tk (shareSet b k x y S) := h
theorem vp_out {x hi : Int32} {n : Nat} (h : outB x 0 hi = false) (hn : hi.toInt = n) : vp_in x (n + 1) := by
  unfold outB at h
  simp only [Bool.or_eq_false_iff, decide_eq_false_iff_not, Bool.not_eq_false', decide_eq_true_eq] at h
  rw [vp_in_iff]
  have h1 := h.1
  have h2 := Int32.le_iff_toInt_le.mp h.2
  rw [Int32.lt_iff_toInt_lt] at h1
  have h0 : (0 : Int32).toInt = 0 := by decide
  omega
theorem nextS_P (S : St) : (nextS S).2 = S.2 := rfl
theorem rdPrice_ok_0 (h : Tk S) : Tk (rdPrice 0 S).2 := by
  unfold rdPrice
  have h1 := nextS_Tk h.b
  have h2 := nextS_Tk h1.b
  dsimp only
  split
  · exact h1
  · split
    · exact h2
    · exact nextS_Tk (h2.a _ _).b
theorem c_X2_readPrice_0 (h : Tk S) (hP : S.2.2.2.2 2 = 35) : Ct g mX2_readPrice [.ref 16] (hC S) (RI (b2i (rdPrice 0 S).1) (rdPrice 0 S).2) := by
  have h1 := nextS_Tk h.b
  have h2 := nextS_Tk h1.b
  refine ct_of rfl rfl ?_
  unfold rdPrice
  refine ev_aload_n (pc := 0) dX2_readPrice_0 rfl ?_
  refine callV0V (pc := 1) dX2_readPrice_1 Ml_X2_28 M_X2_next rfl rfl rfl rfl (c_nextS h.b) ?_
  refine ev_aload_n (pc := 4) dX2_readPrice_4 rfl ?_
  refine callV0I (pc := 5) dX2_readPrice_5 Ml_X2_73 M_X2_number rfl rfl rfl rfl (c_X2_number h1) ?_
  refine ev_istore_n (pc := 8) (lv' := [(0, .ref 16), (1, .int _)]) dX2_readPrice_8 (Nat.le_of_ble_eq_true rfl) rfl ?_
  refine ev_iload_n (pc := 9) dX2_readPrice_9 rfl ?_
  refine ev_iconst (pc := 10) (v := 0) dX2_readPrice_10 (by decide) ?_
  refine ev_iconst (pc := 11) (v := 4) dX2_readPrice_11 (by decide) ?_
  refine callS3I (pc := 12) dX2_readPrice_12 Ml_X2_77 M_X9_outside rfl rfl c_X9_outside ?_
  refine ev_if_eqB (pc := 15) (tgt := 20) dX2_readPrice_15 (by decide) (fun cq15 => ?_) (fun cq15 => ?_)
  · rw [if_neg (by rw [cq15]; decide)]
    refine ev_aload_n (pc := 20) dX2_readPrice_20 rfl ?_
    refine callV0V (pc := 21) dX2_readPrice_21 Ml_X2_28 M_X2_next rfl rfl rfl rfl (c_nextS h1.b) ?_
    refine ev_aload_n (pc := 24) dX2_readPrice_24 rfl ?_
    refine callV0I (pc := 25) dX2_readPrice_25 Ml_X2_73 M_X2_number rfl rfl rfl rfl (c_X2_number h2) ?_
    refine ev_istore_n (pc := 28) (lv' := [(0, .ref 16), (1, .int _), (2, .int _)]) dX2_readPrice_28 (Nat.le_of_ble_eq_true rfl) rfl ?_
    refine ev_iload_n (pc := 29) dX2_readPrice_29 rfl ?_
    refine ev_iconst (pc := 30) (v := 0) dX2_readPrice_30 (by decide) ?_
    refine ev_sipush (pc := 31) (v := 10000) dX2_readPrice_31 (by decide) ?_
    refine callS3I (pc := 34) dX2_readPrice_34 Ml_X2_77 M_X9_outside rfl rfl c_X9_outside ?_
    refine ev_if_eqB (pc := 37) (tgt := 42) dX2_readPrice_37 (by decide) (fun cq37 => ?_) (fun cq37 => ?_)
    · rw [if_neg (by rw [cq37]; decide)]
      refine ev_aload_n (pc := 42) dX2_readPrice_42 rfl ?_
      refine get_R_terms (pc := 43) dX2_readPrice_43 Fl_X2_15 hP ?_
      refine get_T0_price (pc := 46) dX2_readPrice_46 Fl_X2_81 ?_
      refine ev_iload_n (pc := 49) dX2_readPrice_49 rfl ?_
      refine ev_iload_n (pc := 50) dX2_readPrice_50 rfl ?_
      refine as_T0_price (pc := 51) dX2_readPrice_51 (vp_out (n := 4) cq15 (by decide)) ?_
      refine ev_aload_n (pc := 52) dX2_readPrice_52 rfl ?_
      refine callV0V (pc := 53) dX2_readPrice_53 Ml_X2_28 M_X2_next rfl rfl rfl rfl (c_nextS (h2.a _ _).b) ?_
      refine ev_iconst (pc := 56) (v := 1) dX2_readPrice_56 (by decide) ?_
      exact ev_iret (pc := 57) dX2_readPrice_57 rfl rfl ri
    · rw [if_pos cq37]
      refine ev_iconst (pc := 40) (v := 0) dX2_readPrice_40 (by decide) ?_
      exact ev_iret (pc := 41) dX2_readPrice_41 rfl rfl ri
  · rw [if_pos cq15]
    refine ev_iconst (pc := 18) (v := 0) dX2_readPrice_18 (by decide) ?_
    exact ev_iret (pc := 19) dX2_readPrice_19 rfl rfl ri
theorem Tk.q_0 (h : Tk S) (x : Int32) : Tk (setI S (16 + 0) x) := h
theorem Tk.c_0 (h : Tk S) (x : Int32) : Tk (setI S (18 + 0) x) := h
theorem rdQuota_ok_0 (h : Tk S) : Tk (rdQuota 0 S).2 := by
  unfold rdQuota
  have h1 := nextS_Tk h.b
  dsimp only
  split
  · exact h1
  · exact nextS_Tk (h1.q_0 _).b
theorem c_X2_readQuota_0 (h : Tk S) (hP : S.2.2.2.2 2 = 35) : Ct g mX2_readQuota [.ref 16] (hC S) (RI (b2i (rdQuota 0 S).1) (rdQuota 0 S).2) := by
  have h1 := nextS_Tk h.b
  refine ct_of rfl rfl ?_
  unfold rdQuota
  refine ev_aload_n (pc := 0) dX2_readQuota_0 rfl ?_
  refine callV0V (pc := 1) dX2_readQuota_1 Ml_X2_28 M_X2_next rfl rfl rfl rfl (c_nextS h.b) ?_
  refine ev_aload_n (pc := 4) dX2_readQuota_4 rfl ?_
  refine callV0I (pc := 5) dX2_readQuota_5 Ml_X2_73 M_X2_number rfl rfl rfl rfl (c_X2_number h1) ?_
  refine ev_istore_n (pc := 8) (lv' := [(0, .ref 16), (1, .int _)]) dX2_readQuota_8 (Nat.le_of_ble_eq_true rfl) rfl ?_
  refine ev_iload_n (pc := 9) dX2_readQuota_9 rfl ?_
  refine ev_iconst (pc := 10) (v := 0) dX2_readQuota_10 (by decide) ?_
  refine ev_sipush (pc := 11) (v := 10000) dX2_readQuota_11 (by decide) ?_
  refine callS3I (pc := 14) dX2_readQuota_14 Ml_X2_77 M_X9_outside rfl rfl c_X9_outside ?_
  refine ev_if_eqB (pc := 17) (tgt := 22) dX2_readQuota_17 (by decide) (fun cq17 => ?_) (fun cq17 => ?_)
  · rw [if_neg (by rw [cq17]; decide)]
    refine ev_aload_n (pc := 22) dX2_readQuota_22 rfl ?_
    refine get_R_terms (pc := 23) dX2_readQuota_23 Fl_X2_15 hP ?_
    refine ev_iload_n (pc := 26) dX2_readQuota_26 rfl ?_
    refine put_T0_quota (pc := 27) dX2_readQuota_27 Fp_X2_84 ?_
    refine ev_aload_n (pc := 30) dX2_readQuota_30 rfl ?_
    refine callV0V (pc := 31) dX2_readQuota_31 Ml_X2_28 M_X2_next rfl rfl rfl rfl (c_nextS (h1.q_0 _).b) ?_
    refine ev_iconst (pc := 34) (v := 1) dX2_readQuota_34 (by decide) ?_
    exact ev_iret (pc := 35) dX2_readQuota_35 rfl rfl ri
  · rw [if_pos cq17]
    refine ev_iconst (pc := 20) (v := 0) dX2_readQuota_20 (by decide) ?_
    exact ev_iret (pc := 21) dX2_readQuota_21 rfl rfl ri
theorem rdShare_ok_0 {k : Nat} (h : Tk S) : Tk (rdShare 0 k S).2 := by
  unfold rdShare
  have h1 := nextS_Tk h.b
  have h2 := nextS_Tk h1.b
  have h3 := nextS_Tk h2.b
  dsimp only
  split
  · exact h1
  · split
    · split
      · exact h3
      · exact nextS_Tk (h3.s _ _ _ _).b
    · exact h2
theorem c_X2_readShare_0 {k : Nat} (hk : k < 4) (h : Tk S) (hP : S.2.2.2.2 2 = 35) : Ct g mX2_readShare [.ref 16, .int (nI k)] (hC S) (RI (b2i (rdShare 0 k S).1) (rdShare 0 k S).2) := by
  have h1 := nextS_Tk h.b
  have h2 := nextS_Tk h1.b
  have h3 := nextS_Tk h2.b
  refine ct_of rfl rfl ?_
  unfold rdShare
  refine ev_aload_n (pc := 0) dX2_readShare_0 rfl ?_
  refine callV0V (pc := 1) dX2_readShare_1 Ml_X2_28 M_X2_next rfl rfl rfl rfl (c_nextS h.b) ?_
  refine ev_aload_n (pc := 4) dX2_readShare_4 rfl ?_
  refine callV0I (pc := 5) dX2_readShare_5 Ml_X2_73 M_X2_number rfl rfl rfl rfl (c_X2_number h1) ?_
  refine ev_istore_n (pc := 8) (lv' := [(0, .ref 16), (1, .int _), (2, .int _)]) dX2_readShare_8 (Nat.le_of_ble_eq_true rfl) rfl ?_
  refine ev_iload_n (pc := 9) dX2_readShare_9 rfl ?_
  refine ev_iconst (pc := 10) (v := 0) dX2_readShare_10 (by decide) ?_
  refine ev_sipush (pc := 11) (v := 10000) dX2_readShare_11 (by decide) ?_
  refine callS3I (pc := 14) dX2_readShare_14 Ml_X2_77 M_X9_outside rfl rfl c_X9_outside ?_
  refine ev_if_eqB (pc := 17) (tgt := 22) dX2_readShare_17 (by decide) (fun cq17 => ?_) (fun cq17 => ?_)
  · rw [if_neg (by rw [cq17]; decide)]
    refine ev_aload_n (pc := 22) dX2_readShare_22 rfl ?_
    refine callV0V (pc := 23) dX2_readShare_23 Ml_X2_28 M_X2_next rfl rfl rfl rfl (c_nextS h1.b) ?_
    refine ev_aload_n (pc := 26) dX2_readShare_26 rfl ?_
    refine ev_ldcS (pc := 27) (i := 6) dX2_readShare_27 rfl (by decide) rfl ?_
    refine callV1I (pc := 29) dX2_readShare_29 Ml_X2_49 M_X2_isWord rfl rfl rfl rfl (c_X2_isWord (i := 6) (by decide) h2) ?_
    refine ev_if_neB (pc := 32) (tgt := 37) dX2_readShare_32 (by decide) (fun cq32 => ?_) (fun cq32 => ?_)
    · rw [if_pos cq32]
      refine ev_aload_n (pc := 37) dX2_readShare_37 rfl ?_
      refine callV0V (pc := 38) dX2_readShare_38 Ml_X2_28 M_X2_next rfl rfl rfl rfl (c_nextS h2.b) ?_
      refine ev_aload_n (pc := 41) dX2_readShare_41 rfl ?_
      refine callV0I (pc := 42) dX2_readShare_42 Ml_X2_73 M_X2_number rfl rfl rfl rfl (c_X2_number h3) ?_
      refine ev_istore_n (pc := 45) (lv' := [(0, .ref 16), (1, .int _), (2, .int _), (3, .int _)]) dX2_readShare_45 (Nat.le_of_ble_eq_true rfl) rfl ?_
      refine ev_iload_n (pc := 46) dX2_readShare_46 rfl ?_
      refine ev_iconst (pc := 47) (v := 1) dX2_readShare_47 (by decide) ?_
      refine ev_iload_n (pc := 48) dX2_readShare_48 rfl ?_
      refine ev_mmax (pc := 49) dX2_readShare_49 Mx_X2_88 Mxs_maxI In_Math Mxc_maxI rfl rfl ?_
      refine ev_sipush (pc := 52) (v := 10000) dX2_readShare_52 (by decide) ?_
      refine callS3I (pc := 55) dX2_readShare_55 Ml_X2_77 M_X9_outside rfl rfl c_X9_outside ?_
      refine ev_if_eqB (pc := 58) (tgt := 63) dX2_readShare_58 (by decide) (fun cq58 => ?_) (fun cq58 => ?_)
      · rw [if_neg (by unfold mx1; rw [cq58]; decide)]
        refine ev_aload_n (pc := 63) dX2_readShare_63 rfl ?_
        refine get_R_terms (pc := 64) dX2_readShare_64 Fl_X2_15 hP ?_
        refine ev_iload_n (pc := 67) dX2_readShare_67 rfl ?_
        refine ev_iload_n (pc := 68) dX2_readShare_68 rfl ?_
        refine ev_iload_n (pc := 69) dX2_readShare_69 rfl ?_
        refine callV3V (pc := 70) dX2_readShare_70 Ml_X2_94 M_X8_setShare rfl rfl rfl rfl (c_X8_setShare_0 hk) ?_
        refine ev_aload_n (pc := 73) dX2_readShare_73 rfl ?_
        refine callV0V (pc := 74) dX2_readShare_74 Ml_X2_28 M_X2_next rfl rfl rfl rfl (c_nextS (h3.s _ _ _ _).b) ?_
        refine ev_iconst (pc := 77) (v := 1) dX2_readShare_77 (by decide) ?_
        exact ev_iret (pc := 78) dX2_readShare_78 rfl rfl ri
      · rw [if_pos (by unfold mx1; exact cq58)]
        refine ev_iconst (pc := 61) (v := 0) dX2_readShare_61 (by decide) ?_
        exact ev_iret (pc := 62) dX2_readShare_62 rfl rfl ri
    · rw [if_neg (by rw [cq32]; decide)]
      refine ev_iconst (pc := 35) (v := 0) dX2_readShare_35 (by decide) ?_
      exact ev_iret (pc := 36) dX2_readShare_36 rfl rfl ri
  · rw [if_pos cq17]
    refine ev_iconst (pc := 20) (v := 0) dX2_readShare_20 (by decide) ?_
    exact ev_iret (pc := 21) dX2_readShare_21 rfl rfl ri
theorem rdClause_ok_0 (h : Tk S) : Tk (rdClause 0 S).2 := by
  unfold rdClause
  split
  · exact rdPrice_ok_0 h
  · split
    · exact rdQuota_ok_0 h
    · split
      · exact rdShare_ok_0 h
      · split
        · exact rdShare_ok_0 h
        · split
          · exact rdShare_ok_0 h
          · split
            · exact rdShare_ok_0 h
            · exact h
theorem c_X2_readClause_0 (h : Tk S) (hP : S.2.2.2.2 2 = 35) : Ct g mX2_readClause [.ref 16] (hC S) (RI (b2i (rdClause 0 S).1) (rdClause 0 S).2) := by
  refine ct_of rfl rfl ?_
  unfold rdClause
  refine ev_aload_n (pc := 0) dX2_readClause_0 rfl ?_
  refine ev_ldcS (pc := 1) (i := 0) dX2_readClause_1 rfl (by decide) rfl ?_
  refine callV1I (pc := 3) dX2_readClause_3 Ml_X2_49 M_X2_isWord rfl rfl rfl rfl (c_X2_isWord (i := 0) (by decide) h) ?_
  refine ev_if_eqB (pc := 6) (tgt := 14) dX2_readClause_6 (by decide) (fun cq6 => ?_) (fun cq6 => ?_)
  · rw [if_neg (by rw [cq6]; decide)]
    refine ev_aload_n (pc := 14) dX2_readClause_14 rfl ?_
    refine ev_ldcS (pc := 15) (i := 1) dX2_readClause_15 rfl (by decide) rfl ?_
    refine callV1I (pc := 17) dX2_readClause_17 Ml_X2_49 M_X2_isWord rfl rfl rfl rfl (c_X2_isWord (i := 1) (by decide) h) ?_
    refine ev_if_eqB (pc := 20) (tgt := 28) dX2_readClause_20 (by decide) (fun cq20 => ?_) (fun cq20 => ?_)
    · rw [if_neg (by rw [cq20]; decide)]
      refine ev_aload_n (pc := 28) dX2_readClause_28 rfl ?_
      refine ev_ldcS (pc := 29) (i := 2) dX2_readClause_29 rfl (by decide) rfl ?_
      refine callV1I (pc := 31) dX2_readClause_31 Ml_X2_49 M_X2_isWord rfl rfl rfl rfl (c_X2_isWord (i := 2) (by decide) h) ?_
      refine ev_if_eqB (pc := 34) (tgt := 43) dX2_readClause_34 (by decide) (fun cq34 => ?_) (fun cq34 => ?_)
      · rw [if_neg (by rw [cq34]; decide)]
        refine ev_aload_n (pc := 43) dX2_readClause_43 rfl ?_
        refine ev_ldcS (pc := 44) (i := 3) dX2_readClause_44 rfl (by decide) rfl ?_
        refine callV1I (pc := 46) dX2_readClause_46 Ml_X2_49 M_X2_isWord rfl rfl rfl rfl (c_X2_isWord (i := 3) (by decide) h) ?_
        refine ev_if_eqB (pc := 49) (tgt := 58) dX2_readClause_49 (by decide) (fun cq49 => ?_) (fun cq49 => ?_)
        · rw [if_neg (by rw [cq49]; decide)]
          refine ev_aload_n (pc := 58) dX2_readClause_58 rfl ?_
          refine ev_ldcS (pc := 59) (i := 4) dX2_readClause_59 rfl (by decide) rfl ?_
          refine callV1I (pc := 61) dX2_readClause_61 Ml_X2_49 M_X2_isWord rfl rfl rfl rfl (c_X2_isWord (i := 4) (by decide) h) ?_
          refine ev_if_eqB (pc := 64) (tgt := 73) dX2_readClause_64 (by decide) (fun cq64 => ?_) (fun cq64 => ?_)
          · rw [if_neg (by rw [cq64]; decide)]
            refine ev_aload_n (pc := 73) dX2_readClause_73 rfl ?_
            refine ev_ldcS (pc := 74) (i := 5) dX2_readClause_74 rfl (by decide) rfl ?_
            refine callV1I (pc := 76) dX2_readClause_76 Ml_X2_49 M_X2_isWord rfl rfl rfl rfl (c_X2_isWord (i := 5) (by decide) h) ?_
            refine ev_if_eqB (pc := 79) (tgt := 88) dX2_readClause_79 (by decide) (fun cq79 => ?_) (fun cq79 => ?_)
            · rw [if_neg (by rw [cq79]; decide)]
              refine ev_iconst (pc := 88) (v := 0) dX2_readClause_88 (by decide) ?_
              exact ev_iret (pc := 89) dX2_readClause_89 rfl rfl ri
            · rw [if_pos cq79]
              refine ev_aload_n (pc := 82) dX2_readClause_82 rfl ?_
              refine ev_iconst (pc := 83) (v := nI 3) dX2_readClause_83 (by decide) ?_
              refine callV1I (pc := 84) dX2_readClause_84 Ml_X2_63 M_X2_readShare rfl rfl rfl rfl (c_X2_readShare_0 (by decide) h hP) ?_
              exact ev_iret (pc := 87) dX2_readClause_87 rfl nb ri
          · rw [if_pos cq64]
            refine ev_aload_n (pc := 67) dX2_readClause_67 rfl ?_
            refine ev_iconst (pc := 68) (v := nI 2) dX2_readClause_68 (by decide) ?_
            refine callV1I (pc := 69) dX2_readClause_69 Ml_X2_63 M_X2_readShare rfl rfl rfl rfl (c_X2_readShare_0 (by decide) h hP) ?_
            exact ev_iret (pc := 72) dX2_readClause_72 rfl nb ri
        · rw [if_pos cq49]
          refine ev_aload_n (pc := 52) dX2_readClause_52 rfl ?_
          refine ev_iconst (pc := 53) (v := nI 1) dX2_readClause_53 (by decide) ?_
          refine callV1I (pc := 54) dX2_readClause_54 Ml_X2_63 M_X2_readShare rfl rfl rfl rfl (c_X2_readShare_0 (by decide) h hP) ?_
          exact ev_iret (pc := 57) dX2_readClause_57 rfl nb ri
      · rw [if_pos cq34]
        refine ev_aload_n (pc := 37) dX2_readClause_37 rfl ?_
        refine ev_iconst (pc := 38) (v := nI 0) dX2_readClause_38 (by decide) ?_
        refine callV1I (pc := 39) dX2_readClause_39 Ml_X2_63 M_X2_readShare rfl rfl rfl rfl (c_X2_readShare_0 (by decide) h hP) ?_
        exact ev_iret (pc := 42) dX2_readClause_42 rfl nb ri
    · rw [if_pos cq20]
      refine ev_aload_n (pc := 23) dX2_readClause_23 rfl ?_
      refine callV0I (pc := 24) dX2_readClause_24 Ml_X2_58 M_X2_readQuota rfl rfl rfl rfl (c_X2_readQuota_0 h hP) ?_
      exact ev_iret (pc := 27) dX2_readClause_27 rfl nb ri
  · rw [if_pos cq6]
    refine ev_aload_n (pc := 9) dX2_readClause_9 rfl ?_
    refine callV0I (pc := 10) dX2_readClause_10 Ml_X2_53 M_X2_readPrice rfl rfl rfl rfl (c_X2_readPrice_0 h hP) ?_
    exact ev_iret (pc := 13) dX2_readClause_13 rfl nb ri
theorem rdPrice_P_0 : (rdPrice 0 S).2.2.2.2.2 = S.2.2.2.2 := by
  unfold rdPrice; dsimp only; split
  · rfl
  · split <;> rfl
theorem rdQuota_P_0 : (rdQuota 0 S).2.2.2.2.2 = S.2.2.2.2 := by
  unfold rdQuota; dsimp only; split <;> rfl
theorem rdShare_P_0 {k : Nat} : (rdShare 0 k S).2.2.2.2.2 = S.2.2.2.2 := by
  unfold rdShare; dsimp only; split
  · rfl
  · split
    · split <;> rfl
    · rfl
theorem rdClause_P_0 : (rdClause 0 S).2.2.2.2.2 = S.2.2.2.2 := by
  unfold rdClause
  split
  · exact rdPrice_P_0
  · split
    · exact rdQuota_P_0
    · split
      · exact rdShare_P_0
      · split
        · exact rdShare_P_0
        · split
          · exact rdShare_P_0
          · split
            · exact rdShare_P_0
            · rfl
theorem rdPrice_ok_1 (h : Tk S) : Tk (rdPrice 1 S).2 := by
  unfold rdPrice
  have h1 := nextS_Tk h.b
  have h2 := nextS_Tk h1.b
  dsimp only
  split
  · exact h1
  · split
    · exact h2
    · exact nextS_Tk (h2.a _ _).b
theorem c_X2_readPrice_1 (h : Tk S) (hP : S.2.2.2.2 2 = 39) : Ct g mX2_readPrice [.ref 16] (hC S) (RI (b2i (rdPrice 1 S).1) (rdPrice 1 S).2) := by
  have h1 := nextS_Tk h.b
  have h2 := nextS_Tk h1.b
  refine ct_of rfl rfl ?_
  unfold rdPrice
  refine ev_aload_n (pc := 0) dX2_readPrice_0 rfl ?_
  refine callV0V (pc := 1) dX2_readPrice_1 Ml_X2_28 M_X2_next rfl rfl rfl rfl (c_nextS h.b) ?_
  refine ev_aload_n (pc := 4) dX2_readPrice_4 rfl ?_
  refine callV0I (pc := 5) dX2_readPrice_5 Ml_X2_73 M_X2_number rfl rfl rfl rfl (c_X2_number h1) ?_
  refine ev_istore_n (pc := 8) (lv' := [(0, .ref 16), (1, .int _)]) dX2_readPrice_8 (Nat.le_of_ble_eq_true rfl) rfl ?_
  refine ev_iload_n (pc := 9) dX2_readPrice_9 rfl ?_
  refine ev_iconst (pc := 10) (v := 0) dX2_readPrice_10 (by decide) ?_
  refine ev_iconst (pc := 11) (v := 4) dX2_readPrice_11 (by decide) ?_
  refine callS3I (pc := 12) dX2_readPrice_12 Ml_X2_77 M_X9_outside rfl rfl c_X9_outside ?_
  refine ev_if_eqB (pc := 15) (tgt := 20) dX2_readPrice_15 (by decide) (fun cq15 => ?_) (fun cq15 => ?_)
  · rw [if_neg (by rw [cq15]; decide)]
    refine ev_aload_n (pc := 20) dX2_readPrice_20 rfl ?_
    refine callV0V (pc := 21) dX2_readPrice_21 Ml_X2_28 M_X2_next rfl rfl rfl rfl (c_nextS h1.b) ?_
    refine ev_aload_n (pc := 24) dX2_readPrice_24 rfl ?_
    refine callV0I (pc := 25) dX2_readPrice_25 Ml_X2_73 M_X2_number rfl rfl rfl rfl (c_X2_number h2) ?_
    refine ev_istore_n (pc := 28) (lv' := [(0, .ref 16), (1, .int _), (2, .int _)]) dX2_readPrice_28 (Nat.le_of_ble_eq_true rfl) rfl ?_
    refine ev_iload_n (pc := 29) dX2_readPrice_29 rfl ?_
    refine ev_iconst (pc := 30) (v := 0) dX2_readPrice_30 (by decide) ?_
    refine ev_sipush (pc := 31) (v := 10000) dX2_readPrice_31 (by decide) ?_
    refine callS3I (pc := 34) dX2_readPrice_34 Ml_X2_77 M_X9_outside rfl rfl c_X9_outside ?_
    refine ev_if_eqB (pc := 37) (tgt := 42) dX2_readPrice_37 (by decide) (fun cq37 => ?_) (fun cq37 => ?_)
    · rw [if_neg (by rw [cq37]; decide)]
      refine ev_aload_n (pc := 42) dX2_readPrice_42 rfl ?_
      refine get_R_terms (pc := 43) dX2_readPrice_43 Fl_X2_15 hP ?_
      refine get_T1_price (pc := 46) dX2_readPrice_46 Fl_X2_81 ?_
      refine ev_iload_n (pc := 49) dX2_readPrice_49 rfl ?_
      refine ev_iload_n (pc := 50) dX2_readPrice_50 rfl ?_
      refine as_T1_price (pc := 51) dX2_readPrice_51 (vp_out (n := 4) cq15 (by decide)) ?_
      refine ev_aload_n (pc := 52) dX2_readPrice_52 rfl ?_
      refine callV0V (pc := 53) dX2_readPrice_53 Ml_X2_28 M_X2_next rfl rfl rfl rfl (c_nextS (h2.a _ _).b) ?_
      refine ev_iconst (pc := 56) (v := 1) dX2_readPrice_56 (by decide) ?_
      exact ev_iret (pc := 57) dX2_readPrice_57 rfl rfl ri
    · rw [if_pos cq37]
      refine ev_iconst (pc := 40) (v := 0) dX2_readPrice_40 (by decide) ?_
      exact ev_iret (pc := 41) dX2_readPrice_41 rfl rfl ri
  · rw [if_pos cq15]
    refine ev_iconst (pc := 18) (v := 0) dX2_readPrice_18 (by decide) ?_
    exact ev_iret (pc := 19) dX2_readPrice_19 rfl rfl ri
theorem Tk.q_1 (h : Tk S) (x : Int32) : Tk (setI S (16 + 1) x) := h
theorem Tk.c_1 (h : Tk S) (x : Int32) : Tk (setI S (18 + 1) x) := h
theorem rdQuota_ok_1 (h : Tk S) : Tk (rdQuota 1 S).2 := by
  unfold rdQuota
  have h1 := nextS_Tk h.b
  dsimp only
  split
  · exact h1
  · exact nextS_Tk (h1.q_1 _).b
theorem c_X2_readQuota_1 (h : Tk S) (hP : S.2.2.2.2 2 = 39) : Ct g mX2_readQuota [.ref 16] (hC S) (RI (b2i (rdQuota 1 S).1) (rdQuota 1 S).2) := by
  have h1 := nextS_Tk h.b
  refine ct_of rfl rfl ?_
  unfold rdQuota
  refine ev_aload_n (pc := 0) dX2_readQuota_0 rfl ?_
  refine callV0V (pc := 1) dX2_readQuota_1 Ml_X2_28 M_X2_next rfl rfl rfl rfl (c_nextS h.b) ?_
  refine ev_aload_n (pc := 4) dX2_readQuota_4 rfl ?_
  refine callV0I (pc := 5) dX2_readQuota_5 Ml_X2_73 M_X2_number rfl rfl rfl rfl (c_X2_number h1) ?_
  refine ev_istore_n (pc := 8) (lv' := [(0, .ref 16), (1, .int _)]) dX2_readQuota_8 (Nat.le_of_ble_eq_true rfl) rfl ?_
  refine ev_iload_n (pc := 9) dX2_readQuota_9 rfl ?_
  refine ev_iconst (pc := 10) (v := 0) dX2_readQuota_10 (by decide) ?_
  refine ev_sipush (pc := 11) (v := 10000) dX2_readQuota_11 (by decide) ?_
  refine callS3I (pc := 14) dX2_readQuota_14 Ml_X2_77 M_X9_outside rfl rfl c_X9_outside ?_
  refine ev_if_eqB (pc := 17) (tgt := 22) dX2_readQuota_17 (by decide) (fun cq17 => ?_) (fun cq17 => ?_)
  · rw [if_neg (by rw [cq17]; decide)]
    refine ev_aload_n (pc := 22) dX2_readQuota_22 rfl ?_
    refine get_R_terms (pc := 23) dX2_readQuota_23 Fl_X2_15 hP ?_
    refine ev_iload_n (pc := 26) dX2_readQuota_26 rfl ?_
    refine put_T1_quota (pc := 27) dX2_readQuota_27 Fp_X2_84 ?_
    refine ev_aload_n (pc := 30) dX2_readQuota_30 rfl ?_
    refine callV0V (pc := 31) dX2_readQuota_31 Ml_X2_28 M_X2_next rfl rfl rfl rfl (c_nextS (h1.q_1 _).b) ?_
    refine ev_iconst (pc := 34) (v := 1) dX2_readQuota_34 (by decide) ?_
    exact ev_iret (pc := 35) dX2_readQuota_35 rfl rfl ri
  · rw [if_pos cq17]
    refine ev_iconst (pc := 20) (v := 0) dX2_readQuota_20 (by decide) ?_
    exact ev_iret (pc := 21) dX2_readQuota_21 rfl rfl ri
theorem rdShare_ok_1 {k : Nat} (h : Tk S) : Tk (rdShare 1 k S).2 := by
  unfold rdShare
  have h1 := nextS_Tk h.b
  have h2 := nextS_Tk h1.b
  have h3 := nextS_Tk h2.b
  dsimp only
  split
  · exact h1
  · split
    · split
      · exact h3
      · exact nextS_Tk (h3.s _ _ _ _).b
    · exact h2
theorem c_X2_readShare_1 {k : Nat} (hk : k < 4) (h : Tk S) (hP : S.2.2.2.2 2 = 39) : Ct g mX2_readShare [.ref 16, .int (nI k)] (hC S) (RI (b2i (rdShare 1 k S).1) (rdShare 1 k S).2) := by
  have h1 := nextS_Tk h.b
  have h2 := nextS_Tk h1.b
  have h3 := nextS_Tk h2.b
  refine ct_of rfl rfl ?_
  unfold rdShare
  refine ev_aload_n (pc := 0) dX2_readShare_0 rfl ?_
  refine callV0V (pc := 1) dX2_readShare_1 Ml_X2_28 M_X2_next rfl rfl rfl rfl (c_nextS h.b) ?_
  refine ev_aload_n (pc := 4) dX2_readShare_4 rfl ?_
  refine callV0I (pc := 5) dX2_readShare_5 Ml_X2_73 M_X2_number rfl rfl rfl rfl (c_X2_number h1) ?_
  refine ev_istore_n (pc := 8) (lv' := [(0, .ref 16), (1, .int _), (2, .int _)]) dX2_readShare_8 (Nat.le_of_ble_eq_true rfl) rfl ?_
  refine ev_iload_n (pc := 9) dX2_readShare_9 rfl ?_
  refine ev_iconst (pc := 10) (v := 0) dX2_readShare_10 (by decide) ?_
  refine ev_sipush (pc := 11) (v := 10000) dX2_readShare_11 (by decide) ?_
  refine callS3I (pc := 14) dX2_readShare_14 Ml_X2_77 M_X9_outside rfl rfl c_X9_outside ?_
  refine ev_if_eqB (pc := 17) (tgt := 22) dX2_readShare_17 (by decide) (fun cq17 => ?_) (fun cq17 => ?_)
  · rw [if_neg (by rw [cq17]; decide)]
    refine ev_aload_n (pc := 22) dX2_readShare_22 rfl ?_
    refine callV0V (pc := 23) dX2_readShare_23 Ml_X2_28 M_X2_next rfl rfl rfl rfl (c_nextS h1.b) ?_
    refine ev_aload_n (pc := 26) dX2_readShare_26 rfl ?_
    refine ev_ldcS (pc := 27) (i := 6) dX2_readShare_27 rfl (by decide) rfl ?_
    refine callV1I (pc := 29) dX2_readShare_29 Ml_X2_49 M_X2_isWord rfl rfl rfl rfl (c_X2_isWord (i := 6) (by decide) h2) ?_
    refine ev_if_neB (pc := 32) (tgt := 37) dX2_readShare_32 (by decide) (fun cq32 => ?_) (fun cq32 => ?_)
    · rw [if_pos cq32]
      refine ev_aload_n (pc := 37) dX2_readShare_37 rfl ?_
      refine callV0V (pc := 38) dX2_readShare_38 Ml_X2_28 M_X2_next rfl rfl rfl rfl (c_nextS h2.b) ?_
      refine ev_aload_n (pc := 41) dX2_readShare_41 rfl ?_
      refine callV0I (pc := 42) dX2_readShare_42 Ml_X2_73 M_X2_number rfl rfl rfl rfl (c_X2_number h3) ?_
      refine ev_istore_n (pc := 45) (lv' := [(0, .ref 16), (1, .int _), (2, .int _), (3, .int _)]) dX2_readShare_45 (Nat.le_of_ble_eq_true rfl) rfl ?_
      refine ev_iload_n (pc := 46) dX2_readShare_46 rfl ?_
      refine ev_iconst (pc := 47) (v := 1) dX2_readShare_47 (by decide) ?_
      refine ev_iload_n (pc := 48) dX2_readShare_48 rfl ?_
      refine ev_mmax (pc := 49) dX2_readShare_49 Mx_X2_88 Mxs_maxI In_Math Mxc_maxI rfl rfl ?_
      refine ev_sipush (pc := 52) (v := 10000) dX2_readShare_52 (by decide) ?_
      refine callS3I (pc := 55) dX2_readShare_55 Ml_X2_77 M_X9_outside rfl rfl c_X9_outside ?_
      refine ev_if_eqB (pc := 58) (tgt := 63) dX2_readShare_58 (by decide) (fun cq58 => ?_) (fun cq58 => ?_)
      · rw [if_neg (by unfold mx1; rw [cq58]; decide)]
        refine ev_aload_n (pc := 63) dX2_readShare_63 rfl ?_
        refine get_R_terms (pc := 64) dX2_readShare_64 Fl_X2_15 hP ?_
        refine ev_iload_n (pc := 67) dX2_readShare_67 rfl ?_
        refine ev_iload_n (pc := 68) dX2_readShare_68 rfl ?_
        refine ev_iload_n (pc := 69) dX2_readShare_69 rfl ?_
        refine callV3V (pc := 70) dX2_readShare_70 Ml_X2_94 M_X8_setShare rfl rfl rfl rfl (c_X8_setShare_1 hk) ?_
        refine ev_aload_n (pc := 73) dX2_readShare_73 rfl ?_
        refine callV0V (pc := 74) dX2_readShare_74 Ml_X2_28 M_X2_next rfl rfl rfl rfl (c_nextS (h3.s _ _ _ _).b) ?_
        refine ev_iconst (pc := 77) (v := 1) dX2_readShare_77 (by decide) ?_
        exact ev_iret (pc := 78) dX2_readShare_78 rfl rfl ri
      · rw [if_pos (by unfold mx1; exact cq58)]
        refine ev_iconst (pc := 61) (v := 0) dX2_readShare_61 (by decide) ?_
        exact ev_iret (pc := 62) dX2_readShare_62 rfl rfl ri
    · rw [if_neg (by rw [cq32]; decide)]
      refine ev_iconst (pc := 35) (v := 0) dX2_readShare_35 (by decide) ?_
      exact ev_iret (pc := 36) dX2_readShare_36 rfl rfl ri
  · rw [if_pos cq17]
    refine ev_iconst (pc := 20) (v := 0) dX2_readShare_20 (by decide) ?_
    exact ev_iret (pc := 21) dX2_readShare_21 rfl rfl ri
theorem rdClause_ok_1 (h : Tk S) : Tk (rdClause 1 S).2 := by
  unfold rdClause
  split
  · exact rdPrice_ok_1 h
  · split
    · exact rdQuota_ok_1 h
    · split
      · exact rdShare_ok_1 h
      · split
        · exact rdShare_ok_1 h
        · split
          · exact rdShare_ok_1 h
          · split
            · exact rdShare_ok_1 h
            · exact h
theorem c_X2_readClause_1 (h : Tk S) (hP : S.2.2.2.2 2 = 39) : Ct g mX2_readClause [.ref 16] (hC S) (RI (b2i (rdClause 1 S).1) (rdClause 1 S).2) := by
  refine ct_of rfl rfl ?_
  unfold rdClause
  refine ev_aload_n (pc := 0) dX2_readClause_0 rfl ?_
  refine ev_ldcS (pc := 1) (i := 0) dX2_readClause_1 rfl (by decide) rfl ?_
  refine callV1I (pc := 3) dX2_readClause_3 Ml_X2_49 M_X2_isWord rfl rfl rfl rfl (c_X2_isWord (i := 0) (by decide) h) ?_
  refine ev_if_eqB (pc := 6) (tgt := 14) dX2_readClause_6 (by decide) (fun cq6 => ?_) (fun cq6 => ?_)
  · rw [if_neg (by rw [cq6]; decide)]
    refine ev_aload_n (pc := 14) dX2_readClause_14 rfl ?_
    refine ev_ldcS (pc := 15) (i := 1) dX2_readClause_15 rfl (by decide) rfl ?_
    refine callV1I (pc := 17) dX2_readClause_17 Ml_X2_49 M_X2_isWord rfl rfl rfl rfl (c_X2_isWord (i := 1) (by decide) h) ?_
    refine ev_if_eqB (pc := 20) (tgt := 28) dX2_readClause_20 (by decide) (fun cq20 => ?_) (fun cq20 => ?_)
    · rw [if_neg (by rw [cq20]; decide)]
      refine ev_aload_n (pc := 28) dX2_readClause_28 rfl ?_
      refine ev_ldcS (pc := 29) (i := 2) dX2_readClause_29 rfl (by decide) rfl ?_
      refine callV1I (pc := 31) dX2_readClause_31 Ml_X2_49 M_X2_isWord rfl rfl rfl rfl (c_X2_isWord (i := 2) (by decide) h) ?_
      refine ev_if_eqB (pc := 34) (tgt := 43) dX2_readClause_34 (by decide) (fun cq34 => ?_) (fun cq34 => ?_)
      · rw [if_neg (by rw [cq34]; decide)]
        refine ev_aload_n (pc := 43) dX2_readClause_43 rfl ?_
        refine ev_ldcS (pc := 44) (i := 3) dX2_readClause_44 rfl (by decide) rfl ?_
        refine callV1I (pc := 46) dX2_readClause_46 Ml_X2_49 M_X2_isWord rfl rfl rfl rfl (c_X2_isWord (i := 3) (by decide) h) ?_
        refine ev_if_eqB (pc := 49) (tgt := 58) dX2_readClause_49 (by decide) (fun cq49 => ?_) (fun cq49 => ?_)
        · rw [if_neg (by rw [cq49]; decide)]
          refine ev_aload_n (pc := 58) dX2_readClause_58 rfl ?_
          refine ev_ldcS (pc := 59) (i := 4) dX2_readClause_59 rfl (by decide) rfl ?_
          refine callV1I (pc := 61) dX2_readClause_61 Ml_X2_49 M_X2_isWord rfl rfl rfl rfl (c_X2_isWord (i := 4) (by decide) h) ?_
          refine ev_if_eqB (pc := 64) (tgt := 73) dX2_readClause_64 (by decide) (fun cq64 => ?_) (fun cq64 => ?_)
          · rw [if_neg (by rw [cq64]; decide)]
            refine ev_aload_n (pc := 73) dX2_readClause_73 rfl ?_
            refine ev_ldcS (pc := 74) (i := 5) dX2_readClause_74 rfl (by decide) rfl ?_
            refine callV1I (pc := 76) dX2_readClause_76 Ml_X2_49 M_X2_isWord rfl rfl rfl rfl (c_X2_isWord (i := 5) (by decide) h) ?_
            refine ev_if_eqB (pc := 79) (tgt := 88) dX2_readClause_79 (by decide) (fun cq79 => ?_) (fun cq79 => ?_)
            · rw [if_neg (by rw [cq79]; decide)]
              refine ev_iconst (pc := 88) (v := 0) dX2_readClause_88 (by decide) ?_
              exact ev_iret (pc := 89) dX2_readClause_89 rfl rfl ri
            · rw [if_pos cq79]
              refine ev_aload_n (pc := 82) dX2_readClause_82 rfl ?_
              refine ev_iconst (pc := 83) (v := nI 3) dX2_readClause_83 (by decide) ?_
              refine callV1I (pc := 84) dX2_readClause_84 Ml_X2_63 M_X2_readShare rfl rfl rfl rfl (c_X2_readShare_1 (by decide) h hP) ?_
              exact ev_iret (pc := 87) dX2_readClause_87 rfl nb ri
          · rw [if_pos cq64]
            refine ev_aload_n (pc := 67) dX2_readClause_67 rfl ?_
            refine ev_iconst (pc := 68) (v := nI 2) dX2_readClause_68 (by decide) ?_
            refine callV1I (pc := 69) dX2_readClause_69 Ml_X2_63 M_X2_readShare rfl rfl rfl rfl (c_X2_readShare_1 (by decide) h hP) ?_
            exact ev_iret (pc := 72) dX2_readClause_72 rfl nb ri
        · rw [if_pos cq49]
          refine ev_aload_n (pc := 52) dX2_readClause_52 rfl ?_
          refine ev_iconst (pc := 53) (v := nI 1) dX2_readClause_53 (by decide) ?_
          refine callV1I (pc := 54) dX2_readClause_54 Ml_X2_63 M_X2_readShare rfl rfl rfl rfl (c_X2_readShare_1 (by decide) h hP) ?_
          exact ev_iret (pc := 57) dX2_readClause_57 rfl nb ri
      · rw [if_pos cq34]
        refine ev_aload_n (pc := 37) dX2_readClause_37 rfl ?_
        refine ev_iconst (pc := 38) (v := nI 0) dX2_readClause_38 (by decide) ?_
        refine callV1I (pc := 39) dX2_readClause_39 Ml_X2_63 M_X2_readShare rfl rfl rfl rfl (c_X2_readShare_1 (by decide) h hP) ?_
        exact ev_iret (pc := 42) dX2_readClause_42 rfl nb ri
    · rw [if_pos cq20]
      refine ev_aload_n (pc := 23) dX2_readClause_23 rfl ?_
      refine callV0I (pc := 24) dX2_readClause_24 Ml_X2_58 M_X2_readQuota rfl rfl rfl rfl (c_X2_readQuota_1 h hP) ?_
      exact ev_iret (pc := 27) dX2_readClause_27 rfl nb ri
  · rw [if_pos cq6]
    refine ev_aload_n (pc := 9) dX2_readClause_9 rfl ?_
    refine callV0I (pc := 10) dX2_readClause_10 Ml_X2_53 M_X2_readPrice rfl rfl rfl rfl (c_X2_readPrice_1 h hP) ?_
    exact ev_iret (pc := 13) dX2_readClause_13 rfl nb ri
theorem rdPrice_P_1 : (rdPrice 1 S).2.2.2.2.2 = S.2.2.2.2 := by
  unfold rdPrice; dsimp only; split
  · rfl
  · split <;> rfl
theorem rdQuota_P_1 : (rdQuota 1 S).2.2.2.2.2 = S.2.2.2.2 := by
  unfold rdQuota; dsimp only; split <;> rfl
theorem rdShare_P_1 {k : Nat} : (rdShare 1 k S).2.2.2.2.2 = S.2.2.2.2 := by
  unfold rdShare; dsimp only; split
  · rfl
  · split
    · split <;> rfl
    · rfl
theorem rdClause_P_1 : (rdClause 1 S).2.2.2.2.2 = S.2.2.2.2 := by
  unfold rdClause
  split
  · exact rdPrice_P_1
  · split
    · exact rdQuota_P_1
    · split
      · exact rdShare_P_1
      · split
        · exact rdShare_P_1
        · split
          · exact rdShare_P_1
          · split
            · exact rdShare_P_1
            · rfl
def rdL (b : Nat) : Nat → St → Int32 × St
  | 0, S => (S.1 8, S)
  | r + 1, S =>
    let c := rdClause b S
    if c.1 = true then
      let S2 := setI c.2 (18 + b) (c.2.1 (18 + b) + 1)
      if S2.1 7 = 0 then (-1, S2) else if semiB S2 = true then rdL b r (nextS S2) else (S2.1 8, S2)
    else (c.2.1 8, c.2)
def rd0 (b : Nat) (S : St) : St := nextS (setI (resetS b (setP S 2 (35 + 4 * b))) 9 0)
def readS (b : Nat) (S : St) : Int32 × St := if (rd0 b S).1 7 = 0 then (-1, rd0 b S) else rdL b 20 (rd0 b S)
theorem rd_loop_0 : ∀ (r k : Nat) (S : St), k + r = 20 → Tk S → S.2.2.2.2 2 = 35 → Ev g mX2_read 32 [(0, .ref 16), (1, .ref 35), (2, .int (nI k))] [] (hC S) (RI (rdL 0 r S).1 (rdL 0 r S).2) := by
  intro r
  induction r with
  | zero =>
    intro k S hk h hP
    unfold rdL
    refine ev_iload_n (pc := 32) dX2_read_32 rfl ?_
    refine ev_bipush (pc := 33) (v := nI 20) dX2_read_33 (by decide) ?_
    refine ev_icmp_geN (pc := 35) (tgt := 94) (by omega) (by omega) dX2_read_35 (by decide) (fun cq35 => ?_) (fun cq35 => absurd (show 20 ≤ k by omega) cq35)
    refine ev_aload_n (pc := 94) dX2_read_94 rfl ?_
    refine get_R_start (pc := 95) dX2_read_95 Fl_X2_38 rfl ?_
    exact ev_iret (pc := 98) dX2_read_98 rfl rfl ri
  | succ r ih =>
    intro k S hk h hP
    have hc := rdClause_ok_0 h
    have hcP := (congrFun (rdClause_P_0 (S := S)) 2).trans hP
    rw [rdL]
    have hx := c_X2_readClause_0 (g := g) h hP
    generalize rdClause 0 S = c at *
    obtain ⟨ok, S1⟩ := c
    dsimp only at *
    refine ev_iload_n (pc := 32) dX2_read_32 rfl ?_
    refine ev_bipush (pc := 33) (v := nI 20) dX2_read_33 (by decide) ?_
    refine ev_icmp_geN (pc := 35) (tgt := 94) (by omega) (by omega) dX2_read_35 (by decide) (fun cq35 => absurd cq35 (by omega)) (fun cq35 => ?_)
    refine ev_aload_n (pc := 38) dX2_read_38 rfl ?_
    refine callV0I (pc := 39) dX2_read_39 Ml_X2_34 M_X2_readClause rfl rfl rfl rfl hx ?_
    refine ev_if_neB (pc := 42) (tgt := 50) dX2_read_42 (by decide) (fun cq42 => ?_) (fun cq42 => ?_)
    · rw [if_pos cq42]
      refine ev_aload_n (pc := 50) dX2_read_50 rfl ?_
      refine get_R_terms (pc := 51) dX2_read_51 Fl_X2_15 hcP ?_
      refine ev_dup (pc := 54) dX2_read_54 rfl ?_
      refine get_T0_clauses (pc := 55) dX2_read_55 Fl_X2_41 rfl ?_
      refine ev_iconst (pc := 58) (v := 1) dX2_read_58 (by decide) ?_
      refine ev_iadd (pc := 59) dX2_read_59 ?_
      refine put_T0_clauses (pc := 60) dX2_read_60 Fp_X2_41 ?_
      refine ev_aload_n (pc := 63) dX2_read_63 rfl ?_
      refine get_R_kind (pc := 64) dX2_read_64 Fl_X2_31 rfl ?_
      refine ev_if_ne (pc := 67) (tgt := 72) dX2_read_67 (by decide) (fun cq67 => ?_) (fun cq67 => ?_)
      · rw [if_neg cq67]
        refine ev_aload_n (pc := 72) dX2_read_72 rfl ?_
        refine callV0I (pc := 73) dX2_read_73 Ml_X2_44 M_X2_isSemicolon rfl rfl rfl rfl (c_X2_isSemicolon (hc.c_0 _)) ?_
        refine ev_if_neB (pc := 76) (tgt := 84) dX2_read_76 (by decide) (fun cq76 => ?_) (fun cq76 => ?_)
        · rw [if_pos cq76]
          refine ev_aload_n (pc := 84) dX2_read_84 rfl ?_
          refine callV0V (pc := 85) dX2_read_85 Ml_X2_28 M_X2_next rfl rfl rfl rfl (c_nextS (hc.c_0 _).b) ?_
          refine ev_iincN (pc := 88) (lv' := [(0, .ref 16), (1, .ref 35), (2, .int _)]) dX2_read_88 rfl (Nat.le_of_ble_eq_true rfl) rfl ?_
          refine ev_goto (pc := 91) (tgt := 32) dX2_read_91 (by decide) ?_
          exact ih (k + 1) _ (by omega) (nextS_Tk (hc.c_0 _).b) hcP
        · rw [if_neg (by rw [cq76]; decide)]
          refine ev_aload_n (pc := 79) dX2_read_79 rfl ?_
          refine get_R_start (pc := 80) dX2_read_80 Fl_X2_38 rfl ?_
          exact ev_iret (pc := 83) dX2_read_83 rfl rfl ri
      · rw [if_pos cq67]
        refine ev_iconst (pc := 70) (v := -1) dX2_read_70 (by decide) ?_
        exact ev_iret (pc := 71) dX2_read_71 rfl rfl ri
    · rw [if_neg (by rw [cq42]; decide)]
      refine ev_aload_n (pc := 45) dX2_read_45 rfl ?_
      refine get_R_start (pc := 46) dX2_read_46 Fl_X2_38 rfl ?_
      exact ev_iret (pc := 49) dX2_read_49 rfl rfl ri
theorem c_X2_read_0 {len : Nat} (hL : S.1 6 = nI len) (hl : len ≤ 200) : Ct g mX2_read [.ref 16, .ref 35] (hC S) (RI (readS 0 S).1 (readS 0 S).2) := by
  have hb : Tb (setI (resetS 0 (setP S 2 (35 + 4 * 0))) 9 0) := ⟨len, 0, hL, hl, nI_0.symm ▸ rfl, Nat.zero_le _⟩
  have hk := nextS_Tk hb
  have hL2 := rd_loop_0 (g := g) 20 0 (rd0 0 S) (by omega) hk rfl
  refine ct_of rfl rfl ?_
  unfold readS
  refine ev_aload_n (pc := 0) dX2_read_0 rfl ?_
  refine ev_aload_n (pc := 1) dX2_read_1 rfl ?_
  refine put_R_terms (pc := 2) dX2_read_2 Fp_X2_15 ?_
  refine ev_aload_n (pc := 5) dX2_read_5 rfl ?_
  refine get_R_terms (pc := 6) dX2_read_6 Fl_X2_15 rfl ?_
  refine callV0V (pc := 9) dX2_read_9 Ml_X2_19 M_X8_reset rfl rfl rfl rfl c_X8_reset_0 ?_
  refine ev_aload_n (pc := 12) dX2_read_12 rfl ?_
  refine ev_iconst (pc := 13) (v := 0) dX2_read_13 (by decide) ?_
  refine put_R_behind (pc := 14) dX2_read_14 Fp_X2_24 ?_
  refine ev_aload_n (pc := 17) dX2_read_17 rfl ?_
  refine callV0V (pc := 18) dX2_read_18 Ml_X2_28 M_X2_next rfl rfl rfl rfl (c_nextS hb) ?_
  refine ev_aload_n (pc := 21) dX2_read_21 rfl ?_
  refine get_R_kind (pc := 22) dX2_read_22 Fl_X2_31 rfl ?_
  refine ev_if_ne (pc := 25) (tgt := 30) dX2_read_25 (by decide) (fun cq25 => ?_) (fun cq25 => ?_)
  · have cq25 : ¬ (rd0 0 S).1 7 = 0 := cq25
    rw [if_neg cq25]
    refine ev_iconst (pc := 30) (v := nI 0) dX2_read_30 (by decide) ?_
    refine ev_istore_n (pc := 31) (lv' := [(0, .ref 16), (1, .ref 35), (2, .int _)]) dX2_read_31 (Nat.le_of_ble_eq_true rfl) rfl ?_
    exact hL2
  · have cq25 : (rd0 0 S).1 7 = 0 := cq25
    rw [if_pos cq25]
    refine ev_iconst (pc := 28) (v := -1) dX2_read_28 (by decide) ?_
    exact ev_iret (pc := 29) dX2_read_29 rfl rfl ri
theorem rd_loop_1 : ∀ (r k : Nat) (S : St), k + r = 20 → Tk S → S.2.2.2.2 2 = 39 → Ev g mX2_read 32 [(0, .ref 16), (1, .ref 39), (2, .int (nI k))] [] (hC S) (RI (rdL 1 r S).1 (rdL 1 r S).2) := by
  intro r
  induction r with
  | zero =>
    intro k S hk h hP
    unfold rdL
    refine ev_iload_n (pc := 32) dX2_read_32 rfl ?_
    refine ev_bipush (pc := 33) (v := nI 20) dX2_read_33 (by decide) ?_
    refine ev_icmp_geN (pc := 35) (tgt := 94) (by omega) (by omega) dX2_read_35 (by decide) (fun cq35 => ?_) (fun cq35 => absurd (show 20 ≤ k by omega) cq35)
    refine ev_aload_n (pc := 94) dX2_read_94 rfl ?_
    refine get_R_start (pc := 95) dX2_read_95 Fl_X2_38 rfl ?_
    exact ev_iret (pc := 98) dX2_read_98 rfl rfl ri
  | succ r ih =>
    intro k S hk h hP
    have hc := rdClause_ok_1 h
    have hcP := (congrFun (rdClause_P_1 (S := S)) 2).trans hP
    rw [rdL]
    have hx := c_X2_readClause_1 (g := g) h hP
    generalize rdClause 1 S = c at *
    obtain ⟨ok, S1⟩ := c
    dsimp only at *
    refine ev_iload_n (pc := 32) dX2_read_32 rfl ?_
    refine ev_bipush (pc := 33) (v := nI 20) dX2_read_33 (by decide) ?_
    refine ev_icmp_geN (pc := 35) (tgt := 94) (by omega) (by omega) dX2_read_35 (by decide) (fun cq35 => absurd cq35 (by omega)) (fun cq35 => ?_)
    refine ev_aload_n (pc := 38) dX2_read_38 rfl ?_
    refine callV0I (pc := 39) dX2_read_39 Ml_X2_34 M_X2_readClause rfl rfl rfl rfl hx ?_
    refine ev_if_neB (pc := 42) (tgt := 50) dX2_read_42 (by decide) (fun cq42 => ?_) (fun cq42 => ?_)
    · rw [if_pos cq42]
      refine ev_aload_n (pc := 50) dX2_read_50 rfl ?_
      refine get_R_terms (pc := 51) dX2_read_51 Fl_X2_15 hcP ?_
      refine ev_dup (pc := 54) dX2_read_54 rfl ?_
      refine get_T1_clauses (pc := 55) dX2_read_55 Fl_X2_41 rfl ?_
      refine ev_iconst (pc := 58) (v := 1) dX2_read_58 (by decide) ?_
      refine ev_iadd (pc := 59) dX2_read_59 ?_
      refine put_T1_clauses (pc := 60) dX2_read_60 Fp_X2_41 ?_
      refine ev_aload_n (pc := 63) dX2_read_63 rfl ?_
      refine get_R_kind (pc := 64) dX2_read_64 Fl_X2_31 rfl ?_
      refine ev_if_ne (pc := 67) (tgt := 72) dX2_read_67 (by decide) (fun cq67 => ?_) (fun cq67 => ?_)
      · rw [if_neg cq67]
        refine ev_aload_n (pc := 72) dX2_read_72 rfl ?_
        refine callV0I (pc := 73) dX2_read_73 Ml_X2_44 M_X2_isSemicolon rfl rfl rfl rfl (c_X2_isSemicolon (hc.c_1 _)) ?_
        refine ev_if_neB (pc := 76) (tgt := 84) dX2_read_76 (by decide) (fun cq76 => ?_) (fun cq76 => ?_)
        · rw [if_pos cq76]
          refine ev_aload_n (pc := 84) dX2_read_84 rfl ?_
          refine callV0V (pc := 85) dX2_read_85 Ml_X2_28 M_X2_next rfl rfl rfl rfl (c_nextS (hc.c_1 _).b) ?_
          refine ev_iincN (pc := 88) (lv' := [(0, .ref 16), (1, .ref 39), (2, .int _)]) dX2_read_88 rfl (Nat.le_of_ble_eq_true rfl) rfl ?_
          refine ev_goto (pc := 91) (tgt := 32) dX2_read_91 (by decide) ?_
          exact ih (k + 1) _ (by omega) (nextS_Tk (hc.c_1 _).b) hcP
        · rw [if_neg (by rw [cq76]; decide)]
          refine ev_aload_n (pc := 79) dX2_read_79 rfl ?_
          refine get_R_start (pc := 80) dX2_read_80 Fl_X2_38 rfl ?_
          exact ev_iret (pc := 83) dX2_read_83 rfl rfl ri
      · rw [if_pos cq67]
        refine ev_iconst (pc := 70) (v := -1) dX2_read_70 (by decide) ?_
        exact ev_iret (pc := 71) dX2_read_71 rfl rfl ri
    · rw [if_neg (by rw [cq42]; decide)]
      refine ev_aload_n (pc := 45) dX2_read_45 rfl ?_
      refine get_R_start (pc := 46) dX2_read_46 Fl_X2_38 rfl ?_
      exact ev_iret (pc := 49) dX2_read_49 rfl rfl ri
theorem c_X2_read_1 {len : Nat} (hL : S.1 6 = nI len) (hl : len ≤ 200) : Ct g mX2_read [.ref 16, .ref 39] (hC S) (RI (readS 1 S).1 (readS 1 S).2) := by
  have hb : Tb (setI (resetS 1 (setP S 2 (35 + 4 * 1))) 9 0) := ⟨len, 0, hL, hl, nI_0.symm ▸ rfl, Nat.zero_le _⟩
  have hk := nextS_Tk hb
  have hL2 := rd_loop_1 (g := g) 20 0 (rd0 1 S) (by omega) hk rfl
  refine ct_of rfl rfl ?_
  unfold readS
  refine ev_aload_n (pc := 0) dX2_read_0 rfl ?_
  refine ev_aload_n (pc := 1) dX2_read_1 rfl ?_
  refine put_R_terms (pc := 2) dX2_read_2 Fp_X2_15 ?_
  refine ev_aload_n (pc := 5) dX2_read_5 rfl ?_
  refine get_R_terms (pc := 6) dX2_read_6 Fl_X2_15 rfl ?_
  refine callV0V (pc := 9) dX2_read_9 Ml_X2_19 M_X8_reset rfl rfl rfl rfl c_X8_reset_1 ?_
  refine ev_aload_n (pc := 12) dX2_read_12 rfl ?_
  refine ev_iconst (pc := 13) (v := 0) dX2_read_13 (by decide) ?_
  refine put_R_behind (pc := 14) dX2_read_14 Fp_X2_24 ?_
  refine ev_aload_n (pc := 17) dX2_read_17 rfl ?_
  refine callV0V (pc := 18) dX2_read_18 Ml_X2_28 M_X2_next rfl rfl rfl rfl (c_nextS hb) ?_
  refine ev_aload_n (pc := 21) dX2_read_21 rfl ?_
  refine get_R_kind (pc := 22) dX2_read_22 Fl_X2_31 rfl ?_
  refine ev_if_ne (pc := 25) (tgt := 30) dX2_read_25 (by decide) (fun cq25 => ?_) (fun cq25 => ?_)
  · have cq25 : ¬ (rd0 1 S).1 7 = 0 := cq25
    rw [if_neg cq25]
    refine ev_iconst (pc := 30) (v := nI 0) dX2_read_30 (by decide) ?_
    refine ev_istore_n (pc := 31) (lv' := [(0, .ref 16), (1, .ref 39), (2, .int _)]) dX2_read_31 (Nat.le_of_ble_eq_true rfl) rfl ?_
    exact hL2
  · have cq25 : (rd0 1 S).1 7 = 0 := cq25
    rw [if_pos cq25]
    refine ev_iconst (pc := 28) (v := -1) dX2_read_28 (by decide) ?_
    exact ev_iret (pc := 29) dX2_read_29 rfl rfl ri
end RR3
