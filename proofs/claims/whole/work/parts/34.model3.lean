section MO3
variable {g : GG} {S : St}
def lenM (S : St) : Nat := (S.1 29).toNatClampNeg
def toM (S : St) : Nat := (S.1 31).toNatClampNeg
def TbM (S : St) : Prop := ∃ len p : Nat, S.1 29 = nI len ∧ len ≤ 200 ∧ S.1 31 = nI p ∧ p ≤ len
def nextM (S : St) : St := nextQ (lenM S) (toM S) S
theorem bhF_le {by' : Nat → Int32} {len st : Nat} (h : st ≤ len) : bhF by' len st (kindF by' len st) ≤ len := by
  have h1 := ruF_le by' (kindF by' len st) (len - st) st
  unfold bhF
  split
  · rename_i hk
    have := kindF_lt (by rw [hk]; decide)
    omega
  · split
    · omega
    · split <;> omega
theorem nextM_Tb (h : TbM S) : TbM (nextM S) := by
  obtain ⟨len, p, h1, h2, h3, h4⟩ := h
  have e1 : lenM S = len := by unfold lenM; rw [h1]; exact nI_clamp (by omega)
  have e2 : toM S = p := by unfold toM; rw [h3]; exact nI_clamp (by omega)
  unfold nextM
  rw [e1, e2]
  have hsk := skF_le (S.2.1 40) (len - p) p
  exact ⟨len, _, h1, h2, rfl, bhF_le (by omega)⟩
theorem c_nextM (h : TbM S) : Ct g mX10_next [.ref 43] (hC S) (RV (nextM S)) := by
  obtain ⟨len, p, h1, h2, h3, h4⟩ := h
  have e1 : lenM S = len := by unfold lenM; rw [h1]; exact nI_clamp (by omega)
  have e2 : toM S = p := by unfold toM; rw [h3]; exact nI_clamp (by omega)
  unfold nextM
  rw [e1, e2]
  exact c_X10_nextQ h1 h2 h3 h4
def wv1 (v : Int64) (c : Int32) : Int64 := if c = 0 then v else v * 32 + c.toInt64 - 96
def wv (a b c d e : Int32) : Int64 := wv1 (wv1 (wv1 ((a.toInt64 - 96) * 32 + b.toInt64 - 96) c) d) e
def isWM (S : St) (a b c d e : Int32) : Bool := decide (S.1 32 = 1) && decide (S.2.2.1 3 = wv a b c d e)
theorem c_X10_isWord {a b c d e : Int32} : Ct g mX10_isWord [.ref 43, .int a, .int b, .int c, .int d, .int e] (hC S) (RI (b2i (isWM S a b c d e)) S) := by
  have fin : ∀ v, v = wv a b c d e → Ev g mX10_isWord 95 [(0, .ref 43), (1, .int a), (2, .int b), (3, .int c), (4, .int d), (5, .int e), (6, .long v)] [] (hC S) (RI (b2i (isWM S a b c d e)) S) := by
    intro v hv
    subst hv
    unfold isWM
    refine ev_aload_n (pc := 95) dX10_isWord_95 rfl ?_
    refine get_MO_sort (pc := 96) dX10_isWord_96 Fl_X10_182 rfl ?_
    refine ev_iconst (pc := 99) (v := 1) dX10_isWord_99 (by decide) ?_
    refine ev_icmp_ne (pc := 100) (tgt := 117) dX10_isWord_100 (by decide) (fun cq100 => ?_) (fun cq100 => ?_)
    · refine ev_iconst (pc := 117) (v := 0) dX10_isWord_117 (by decide) ?_
      exact ev_iret (pc := 118) dX10_isWord_118 rfl rfl (ri' (by simp [b2i, *]) rfl)
    · refine ev_aload_n (pc := 103) dX10_isWord_103 rfl ?_
      refine get_MO_worth (pc := 104) dX10_isWord_104 Fl_X10_172 rfl ?_
      refine ev_lload (pc := 107) dX10_isWord_107 rfl ?_
      refine ev_lcmp_ne (pc := 109) (tgt := 117) dX10_isWord_109 dX10_isWord_110 (by decide) (fun cq109 => ?_) (fun cq109 => ?_)
      · refine ev_iconst (pc := 117) (v := 0) dX10_isWord_117 (by decide) ?_
        exact ev_iret (pc := 118) dX10_isWord_118 rfl rfl (ri' (by simp [b2i, *]) rfl)
      · refine ev_iconst (pc := 113) (v := 1) dX10_isWord_113 (by decide) ?_
        refine ev_goto (pc := 114) (tgt := 118) dX10_isWord_114 (by decide) ?_
        exact ev_iret (pc := 118) dX10_isWord_118 rfl rfl (ri' (by simp [b2i, *]) rfl)
  refine ct_of rfl rfl ?_
  refine ev_iload_n (pc := 0) dX10_isWord_0 rfl ?_
  refine ev_i2l (pc := 1) dX10_isWord_1 ?_
  refine ev_ldc2 (pc := 2) dX10_isWord_2 Cn_X10_187 ?_
  refine ev_lsub (pc := 5) dX10_isWord_5 ?_
  refine ev_ldc2 (pc := 6) dX10_isWord_6 Cn_X10_185 ?_
  refine ev_lmul (pc := 9) dX10_isWord_9 ?_
  refine ev_iload_n (pc := 10) dX10_isWord_10 rfl ?_
  refine ev_i2l (pc := 11) dX10_isWord_11 ?_
  refine ev_ladd (pc := 12) dX10_isWord_12 ?_
  refine ev_ldc2 (pc := 13) dX10_isWord_13 Cn_X10_187 ?_
  refine ev_lsub (pc := 16) dX10_isWord_16 ?_
  refine ev_lstore (pc := 17) (lv' := [(0, .ref 43), (1, .int _), (2, .int _), (3, .int _), (4, .int _), (5, .int _), (6, .long _)]) dX10_isWord_17 (Nat.le_of_ble_eq_true rfl) rfl ?_
  refine ev_iload_n (pc := 19) dX10_isWord_19 rfl ?_
  refine ev_if_ne (pc := 20) (tgt := 28) dX10_isWord_20 (by decide) (fun cq20 => ?_) (fun cq20 => ?_)
  · refine ev_lload (pc := 28) dX10_isWord_28 rfl ?_
    refine ev_ldc2 (pc := 30) dX10_isWord_30 Cn_X10_185 ?_
    refine ev_lmul (pc := 33) dX10_isWord_33 ?_
    refine ev_iload_n (pc := 34) dX10_isWord_34 rfl ?_
    refine ev_i2l (pc := 35) dX10_isWord_35 ?_
    refine ev_ladd (pc := 36) dX10_isWord_36 ?_
    refine ev_ldc2 (pc := 37) dX10_isWord_37 Cn_X10_187 ?_
    refine ev_lsub (pc := 40) dX10_isWord_40 ?_
    refine ev_lstore (pc := 41) (lv' := [(0, .ref 43), (1, .int _), (2, .int _), (3, .int _), (4, .int _), (5, .int _), (6, .long _)]) dX10_isWord_41 (Nat.le_of_ble_eq_true rfl) rfl ?_
    refine ev_iload (pc := 43) dX10_isWord_43 rfl ?_
    refine ev_if_ne (pc := 45) (tgt := 53) dX10_isWord_45 (by decide) (fun cq45 => ?_) (fun cq45 => ?_)
    · refine ev_lload (pc := 53) dX10_isWord_53 rfl ?_
      refine ev_ldc2 (pc := 55) dX10_isWord_55 Cn_X10_185 ?_
      refine ev_lmul (pc := 58) dX10_isWord_58 ?_
      refine ev_iload (pc := 59) dX10_isWord_59 rfl ?_
      refine ev_i2l (pc := 61) dX10_isWord_61 ?_
      refine ev_ladd (pc := 62) dX10_isWord_62 ?_
      refine ev_ldc2 (pc := 63) dX10_isWord_63 Cn_X10_187 ?_
      refine ev_lsub (pc := 66) dX10_isWord_66 ?_
      refine ev_lstore (pc := 67) (lv' := [(0, .ref 43), (1, .int _), (2, .int _), (3, .int _), (4, .int _), (5, .int _), (6, .long _)]) dX10_isWord_67 (Nat.le_of_ble_eq_true rfl) rfl ?_
      refine ev_iload (pc := 69) dX10_isWord_69 rfl ?_
      refine ev_if_ne (pc := 71) (tgt := 79) dX10_isWord_71 (by decide) (fun cq71 => ?_) (fun cq71 => ?_)
      · refine ev_lload (pc := 79) dX10_isWord_79 rfl ?_
        refine ev_ldc2 (pc := 81) dX10_isWord_81 Cn_X10_185 ?_
        refine ev_lmul (pc := 84) dX10_isWord_84 ?_
        refine ev_iload (pc := 85) dX10_isWord_85 rfl ?_
        refine ev_i2l (pc := 87) dX10_isWord_87 ?_
        refine ev_ladd (pc := 88) dX10_isWord_88 ?_
        refine ev_ldc2 (pc := 89) dX10_isWord_89 Cn_X10_187 ?_
        refine ev_lsub (pc := 92) dX10_isWord_92 ?_
        refine ev_lstore (pc := 93) (lv' := [(0, .ref 43), (1, .int _), (2, .int _), (3, .int _), (4, .int _), (5, .int _), (6, .long _)]) dX10_isWord_93 (Nat.le_of_ble_eq_true rfl) rfl ?_
        exact fin _ (by unfold wv wv1; simp only [if_pos, if_neg, not_false_eq_true, *])
      · refine ev_lload (pc := 74) dX10_isWord_74 rfl ?_
        refine ev_goto (pc := 76) (tgt := 93) dX10_isWord_76 (by decide) ?_
        refine ev_lstore (pc := 93) (lv' := [(0, .ref 43), (1, .int _), (2, .int _), (3, .int _), (4, .int _), (5, .int _), (6, .long _)]) dX10_isWord_93 (Nat.le_of_ble_eq_true rfl) rfl ?_
        exact fin _ (by unfold wv wv1; simp only [if_pos, if_neg, not_false_eq_true, *])
    · refine ev_lload (pc := 48) dX10_isWord_48 rfl ?_
      refine ev_goto (pc := 50) (tgt := 67) dX10_isWord_50 (by decide) ?_
      refine ev_lstore (pc := 67) (lv' := [(0, .ref 43), (1, .int _), (2, .int _), (3, .int _), (4, .int _), (5, .int _), (6, .long _)]) dX10_isWord_67 (Nat.le_of_ble_eq_true rfl) rfl ?_
      refine ev_iload (pc := 69) dX10_isWord_69 rfl ?_
      refine ev_if_ne (pc := 71) (tgt := 79) dX10_isWord_71 (by decide) (fun cq71 => ?_) (fun cq71 => ?_)
      · refine ev_lload (pc := 79) dX10_isWord_79 rfl ?_
        refine ev_ldc2 (pc := 81) dX10_isWord_81 Cn_X10_185 ?_
        refine ev_lmul (pc := 84) dX10_isWord_84 ?_
        refine ev_iload (pc := 85) dX10_isWord_85 rfl ?_
        refine ev_i2l (pc := 87) dX10_isWord_87 ?_
        refine ev_ladd (pc := 88) dX10_isWord_88 ?_
        refine ev_ldc2 (pc := 89) dX10_isWord_89 Cn_X10_187 ?_
        refine ev_lsub (pc := 92) dX10_isWord_92 ?_
        refine ev_lstore (pc := 93) (lv' := [(0, .ref 43), (1, .int _), (2, .int _), (3, .int _), (4, .int _), (5, .int _), (6, .long _)]) dX10_isWord_93 (Nat.le_of_ble_eq_true rfl) rfl ?_
        exact fin _ (by unfold wv wv1; simp only [if_pos, if_neg, not_false_eq_true, *])
      · refine ev_lload (pc := 74) dX10_isWord_74 rfl ?_
        refine ev_goto (pc := 76) (tgt := 93) dX10_isWord_76 (by decide) ?_
        refine ev_lstore (pc := 93) (lv' := [(0, .ref 43), (1, .int _), (2, .int _), (3, .int _), (4, .int _), (5, .int _), (6, .long _)]) dX10_isWord_93 (Nat.le_of_ble_eq_true rfl) rfl ?_
        exact fin _ (by unfold wv wv1; simp only [if_pos, if_neg, not_false_eq_true, *])
  · refine ev_lload (pc := 23) dX10_isWord_23 rfl ?_
    refine ev_goto (pc := 25) (tgt := 41) dX10_isWord_25 (by decide) ?_
    refine ev_lstore (pc := 41) (lv' := [(0, .ref 43), (1, .int _), (2, .int _), (3, .int _), (4, .int _), (5, .int _), (6, .long _)]) dX10_isWord_41 (Nat.le_of_ble_eq_true rfl) rfl ?_
    refine ev_iload (pc := 43) dX10_isWord_43 rfl ?_
    refine ev_if_ne (pc := 45) (tgt := 53) dX10_isWord_45 (by decide) (fun cq45 => ?_) (fun cq45 => ?_)
    · refine ev_lload (pc := 53) dX10_isWord_53 rfl ?_
      refine ev_ldc2 (pc := 55) dX10_isWord_55 Cn_X10_185 ?_
      refine ev_lmul (pc := 58) dX10_isWord_58 ?_
      refine ev_iload (pc := 59) dX10_isWord_59 rfl ?_
      refine ev_i2l (pc := 61) dX10_isWord_61 ?_
      refine ev_ladd (pc := 62) dX10_isWord_62 ?_
      refine ev_ldc2 (pc := 63) dX10_isWord_63 Cn_X10_187 ?_
      refine ev_lsub (pc := 66) dX10_isWord_66 ?_
      refine ev_lstore (pc := 67) (lv' := [(0, .ref 43), (1, .int _), (2, .int _), (3, .int _), (4, .int _), (5, .int _), (6, .long _)]) dX10_isWord_67 (Nat.le_of_ble_eq_true rfl) rfl ?_
      refine ev_iload (pc := 69) dX10_isWord_69 rfl ?_
      refine ev_if_ne (pc := 71) (tgt := 79) dX10_isWord_71 (by decide) (fun cq71 => ?_) (fun cq71 => ?_)
      · refine ev_lload (pc := 79) dX10_isWord_79 rfl ?_
        refine ev_ldc2 (pc := 81) dX10_isWord_81 Cn_X10_185 ?_
        refine ev_lmul (pc := 84) dX10_isWord_84 ?_
        refine ev_iload (pc := 85) dX10_isWord_85 rfl ?_
        refine ev_i2l (pc := 87) dX10_isWord_87 ?_
        refine ev_ladd (pc := 88) dX10_isWord_88 ?_
        refine ev_ldc2 (pc := 89) dX10_isWord_89 Cn_X10_187 ?_
        refine ev_lsub (pc := 92) dX10_isWord_92 ?_
        refine ev_lstore (pc := 93) (lv' := [(0, .ref 43), (1, .int _), (2, .int _), (3, .int _), (4, .int _), (5, .int _), (6, .long _)]) dX10_isWord_93 (Nat.le_of_ble_eq_true rfl) rfl ?_
        exact fin _ (by unfold wv wv1; simp only [if_pos, if_neg, not_false_eq_true, *])
      · refine ev_lload (pc := 74) dX10_isWord_74 rfl ?_
        refine ev_goto (pc := 76) (tgt := 93) dX10_isWord_76 (by decide) ?_
        refine ev_lstore (pc := 93) (lv' := [(0, .ref 43), (1, .int _), (2, .int _), (3, .int _), (4, .int _), (5, .int _), (6, .long _)]) dX10_isWord_93 (Nat.le_of_ble_eq_true rfl) rfl ?_
        exact fin _ (by unfold wv wv1; simp only [if_pos, if_neg, not_false_eq_true, *])
    · refine ev_lload (pc := 48) dX10_isWord_48 rfl ?_
      refine ev_goto (pc := 50) (tgt := 67) dX10_isWord_50 (by decide) ?_
      refine ev_lstore (pc := 67) (lv' := [(0, .ref 43), (1, .int _), (2, .int _), (3, .int _), (4, .int _), (5, .int _), (6, .long _)]) dX10_isWord_67 (Nat.le_of_ble_eq_true rfl) rfl ?_
      refine ev_iload (pc := 69) dX10_isWord_69 rfl ?_
      refine ev_if_ne (pc := 71) (tgt := 79) dX10_isWord_71 (by decide) (fun cq71 => ?_) (fun cq71 => ?_)
      · refine ev_lload (pc := 79) dX10_isWord_79 rfl ?_
        refine ev_ldc2 (pc := 81) dX10_isWord_81 Cn_X10_185 ?_
        refine ev_lmul (pc := 84) dX10_isWord_84 ?_
        refine ev_iload (pc := 85) dX10_isWord_85 rfl ?_
        refine ev_i2l (pc := 87) dX10_isWord_87 ?_
        refine ev_ladd (pc := 88) dX10_isWord_88 ?_
        refine ev_ldc2 (pc := 89) dX10_isWord_89 Cn_X10_187 ?_
        refine ev_lsub (pc := 92) dX10_isWord_92 ?_
        refine ev_lstore (pc := 93) (lv' := [(0, .ref 43), (1, .int _), (2, .int _), (3, .int _), (4, .int _), (5, .int _), (6, .long _)]) dX10_isWord_93 (Nat.le_of_ble_eq_true rfl) rfl ?_
        exact fin _ (by unfold wv wv1; simp only [if_pos, if_neg, not_false_eq_true, *])
      · refine ev_lload (pc := 74) dX10_isWord_74 rfl ?_
        refine ev_goto (pc := 76) (tgt := 93) dX10_isWord_76 (by decide) ?_
        refine ev_lstore (pc := 93) (lv' := [(0, .ref 43), (1, .int _), (2, .int _), (3, .int _), (4, .int _), (5, .int _), (6, .long _)]) dX10_isWord_93 (Nat.le_of_ble_eq_true rfl) rfl ?_
        exact fin _ (by unfold wv wv1; simp only [if_pos, if_neg, not_false_eq_true, *])
def mustM (is : Bool) (S : St) : St := if S.1 34 = 0 then (if is = true then nextM S else setI (setI S 34 1) 33 (S.1 30)) else S
theorem mustM_Tb {is : Bool} (h : TbM S) : TbM (mustM is S) := by
  unfold mustM
  split
  · split
    · exact nextM_Tb h
    · exact h
  · exact h
theorem c_X10_must {is : Bool} (h : TbM S) : Ct g mX10_must [.ref 43, .int (b2i is)] (hC S) (RV (mustM is S)) := by
  refine ct_of rfl rfl ?_
  unfold mustM
  by_cases hb : S.1 34 = 0
  · rw [if_pos hb]
    cases is with
    | true =>
      rw [if_pos rfl]
      refine ev_aload_n (pc := 0) dX10_must_0 rfl ?_
      refine get_MO_bad (pc := 1) dX10_must_1 Fl_X10_197 hb ?_
      refine ev_if_ne (pc := 4) (tgt := 24) dX10_must_4 (by decide) (fun cq4 => absurd rfl cq4) (fun cq4 => ?_)
      refine ev_iload_n (pc := 7) dX10_must_7 rfl ?_
      refine ev_if_neB (pc := 8) (tgt := 24) dX10_must_8 (by decide) (fun cq8 => ?_) (fun cq8 => absurd cq8 (by decide))
      refine ev_aload_n (pc := 24) dX10_must_24 rfl ?_
      refine get_MO_bad (pc := 25) dX10_must_25 Fl_X10_197 hb ?_
      refine ev_if_ne (pc := 28) (tgt := 35) dX10_must_28 (by decide) (fun cq28 => absurd rfl cq28) (fun cq28 => ?_)
      refine ev_aload_n (pc := 31) dX10_must_31 rfl ?_
      refine callV0V (pc := 32) dX10_must_32 Ml_X10_201 M_X10_next rfl rfl rfl rfl (c_nextM h) ?_
      exact ev_ret (pc := 35) dX10_must_35 rfl rv
    | false =>
      rw [if_neg (by decide)]
      refine ev_aload_n (pc := 0) dX10_must_0 rfl ?_
      refine get_MO_bad (pc := 1) dX10_must_1 Fl_X10_197 hb ?_
      refine ev_if_ne (pc := 4) (tgt := 24) dX10_must_4 (by decide) (fun cq4 => absurd rfl cq4) (fun cq4 => ?_)
      refine ev_iload_n (pc := 7) dX10_must_7 rfl ?_
      refine ev_if_neB (pc := 8) (tgt := 24) dX10_must_8 (by decide) (fun cq8 => absurd cq8 (by decide)) (fun cq8 => ?_)
      refine ev_aload_n (pc := 11) dX10_must_11 rfl ?_
      refine ev_iconst (pc := 12) (v := 1) dX10_must_12 (by decide) ?_
      refine put_MO_bad (pc := 13) dX10_must_13 Fp_X10_197 rfl rfl ?_
      refine ev_aload_n (pc := 16) dX10_must_16 rfl ?_
      refine ev_aload_n (pc := 17) dX10_must_17 rfl ?_
      refine get_MO_from (pc := 18) dX10_must_18 Fl_X10_169 rfl ?_
      refine put_MO_fault (pc := 21) dX10_must_21 Fp_X10_65 ?_
      refine ev_aload_n (pc := 24) dX10_must_24 rfl ?_
      refine get_MO_bad (pc := 25) dX10_must_25 Fl_X10_197 (show _ = (1 : Int32) from rfl) ?_
      refine ev_if_ne (pc := 28) (tgt := 35) dX10_must_28 (by decide) (fun cq28 => ?_) (fun cq28 => absurd cq28 (by decide))
      exact ev_ret (pc := 35) dX10_must_35 rfl rv
  · rw [if_neg hb]
    refine ev_aload_n (pc := 0) dX10_must_0 rfl ?_
    refine get_MO_bad (pc := 1) dX10_must_1 Fl_X10_197 rfl ?_
    refine ev_if_ne (pc := 4) (tgt := 24) dX10_must_4 (by decide) (fun cq4 => ?_) (fun cq4 => absurd cq4 hb)
    refine ev_aload_n (pc := 24) dX10_must_24 rfl ?_
    refine get_MO_bad (pc := 25) dX10_must_25 Fl_X10_197 rfl ?_
    refine ev_if_ne (pc := 28) (tgt := 35) dX10_must_28 (by decide) (fun cq28 => ?_) (fun cq28 => absurd cq28 hb)
    exact ev_ret (pc := 35) dX10_must_35 rfl rv
def inL (v lo hi : Int64) : Bool := !decide (v < lo) && !decide (hi < v)
theorem c_X10_inL {x y z : Int64} : Ct g mX10_in [.long x, .long y, .long z] (hC S) (RI (b2i (inL x y z)) S) := by
  refine ct_of rfl rfl ?_
  refine ev_lload_n (pc := 0) dX10_in_0 rfl ?_
  refine ev_lload_n (pc := 1) dX10_in_1 rfl ?_
  refine ev_lcmp_lt (pc := 2) (tgt := 17) dX10_in_2 dX10_in_3 (by decide) (fun cq2 => ?_) (fun cq2 => ?_)
  · refine ev_iconst (pc := 17) (v := 0) dX10_in_17 (by decide) ?_
    exact ev_iret (pc := 18) dX10_in_18 rfl rfl (ri' (by simp [inL, b2i, *]) rfl)
  · refine ev_lload_n (pc := 6) dX10_in_6 rfl ?_
    refine ev_lload (pc := 7) dX10_in_7 rfl ?_
    refine ev_lcmp_gt (pc := 9) (tgt := 17) dX10_in_9 dX10_in_10 (by decide) (fun cq9 => ?_) (fun cq9 => ?_)
    · refine ev_iconst (pc := 17) (v := 0) dX10_in_17 (by decide) ?_
      exact ev_iret (pc := 18) dX10_in_18 rfl rfl (ri' (by simp [inL, b2i, *]) rfl)
    · refine ev_iconst (pc := 13) (v := 1) dX10_in_13 (by decide) ?_
      refine ev_goto (pc := 14) (tgt := 18) dX10_in_14 (by decide) ?_
      exact ev_iret (pc := 18) dX10_in_18 rfl rfl (ri' (by simp [inL, b2i, *]) rfl)
def numM (lo hi : Int64) (S : St) : Int32 × St := ((S.2.2.1 3).toInt32, mustM (decide (S.1 32 = 2) && inL (S.2.2.1 3) lo hi) S)
theorem c_X10_number {lo hi : Int64} (h : TbM S) : Ct g mX10_number [.ref 43, .long lo, .long hi] (hC S) (RI (numM lo hi S).1 (numM lo hi S).2) := by
  have fin : ∀ is, is = (decide (S.1 32 = 2) && inL (S.2.2.1 3) lo hi) → Ev g mX10_number 33 [(0, .ref 43), (1, .long lo), (3, .long hi), (5, .int ((S.2.2.1 3).toInt32))] [.int (b2i is), .ref 43] (hC S) (RI (numM lo hi S).1 (numM lo hi S).2) := by
    intro is hi'
    subst hi'
    refine callV1V (pc := 33) dX10_number_33 Ml_X10_204 M_X10_must rfl rfl rfl rfl (c_X10_must h) ?_
    refine ev_iload (pc := 36) dX10_number_36 rfl ?_
    exact ev_iret (pc := 38) dX10_number_38 rfl rfl ri
  refine ct_of rfl rfl ?_
  refine ev_aload_n (pc := 0) dX10_number_0 rfl ?_
  refine get_MO_worth (pc := 1) dX10_number_1 Fl_X10_172 rfl ?_
  refine ev_l2i (pc := 4) dX10_number_4 ?_
  refine ev_istore (pc := 5) (lv' := [(0, .ref 43), (1, .long _), (3, .long _), (5, .int _)]) dX10_number_5 (Nat.le_of_ble_eq_true rfl) rfl ?_
  refine ev_aload_n (pc := 7) dX10_number_7 rfl ?_
  refine ev_aload_n (pc := 8) dX10_number_8 rfl ?_
  refine get_MO_sort (pc := 9) dX10_number_9 Fl_X10_182 rfl ?_
  refine ev_iconst (pc := 12) (v := 2) dX10_number_12 (by decide) ?_
  refine ev_icmp_ne (pc := 13) (tgt := 32) dX10_number_13 (by decide) (fun cq13 => ?_) (fun cq13 => ?_)
  · refine ev_iconst (pc := 32) (v := 0) dX10_number_32 (by decide) ?_
    first | (refine fin true ?_; simp [*]; done) | (refine fin false ?_; simp [*]; done)
  · refine ev_aload_n (pc := 16) dX10_number_16 rfl ?_
    refine get_MO_worth (pc := 17) dX10_number_17 Fl_X10_172 rfl ?_
    refine ev_lload_n (pc := 20) dX10_number_20 rfl ?_
    refine ev_lload_n (pc := 21) dX10_number_21 rfl ?_
    refine callS3I (pc := 22) dX10_number_22 Ml_X10_125 M_X10_in rfl rfl c_X10_inL ?_
    refine ev_if_eqB (pc := 25) (tgt := 32) dX10_number_25 (by decide) (fun cq25 => ?_) (fun cq25 => ?_)
    · refine ev_iconst (pc := 32) (v := 0) dX10_number_32 (by decide) ?_
      first | (refine fin true ?_; simp [*]; done) | (refine fin false ?_; simp [*]; done)
    · refine ev_iconst (pc := 28) (v := 1) dX10_number_28 (by decide) ?_
      refine ev_goto (pc := 29) (tgt := 33) dX10_number_29 (by decide) ?_
      first | (refine fin true ?_; simp [*]; done) | (refine fin false ?_; simp [*]; done)
def partN (S : St) : Int32 := if isWM S 111 118 101 114 0 = true then 0 else if isWM S 100 101 98 116 0 = true then 1 else if isWM S 115 116 97 110 100 = true then 2 else if isWM S 100 117 101 0 0 = true then 3 else -1
theorem c_X10_partAt : Ct g mX10_partAt [.ref 43] (hC S) (RI (partN S) S) := by
  refine ct_of rfl rfl ?_
  unfold partN
  refine ev_aload_n (pc := 0) dX10_partAt_0 rfl ?_
  refine ev_bipush (pc := 1) (v := 111) dX10_partAt_1 (by decide) ?_
  refine ev_bipush (pc := 3) (v := 118) dX10_partAt_3 (by decide) ?_
  refine ev_bipush (pc := 5) (v := 101) dX10_partAt_5 (by decide) ?_
  refine ev_bipush (pc := 7) (v := 114) dX10_partAt_7 (by decide) ?_
  refine ev_iconst (pc := 9) (v := 0) dX10_partAt_9 (by decide) ?_
  refine callV5I (pc := 10) dX10_partAt_10 Ml_X10_208 M_X10_isWord rfl rfl rfl rfl c_X10_isWord ?_
  refine ev_if_eqB (pc := 13) (tgt := 20) dX10_partAt_13 (by decide) (fun cq13 => ?_) (fun cq13 => ?_)
  · rw [if_neg (by rw [cq13]; decide)]
    refine ev_aload_n (pc := 20) dX10_partAt_20 rfl ?_
    refine ev_bipush (pc := 21) (v := 100) dX10_partAt_21 (by decide) ?_
    refine ev_bipush (pc := 23) (v := 101) dX10_partAt_23 (by decide) ?_
    refine ev_bipush (pc := 25) (v := 98) dX10_partAt_25 (by decide) ?_
    refine ev_bipush (pc := 27) (v := 116) dX10_partAt_27 (by decide) ?_
    refine ev_iconst (pc := 29) (v := 0) dX10_partAt_29 (by decide) ?_
    refine callV5I (pc := 30) dX10_partAt_30 Ml_X10_208 M_X10_isWord rfl rfl rfl rfl c_X10_isWord ?_
    refine ev_if_eqB (pc := 33) (tgt := 40) dX10_partAt_33 (by decide) (fun cq33 => ?_) (fun cq33 => ?_)
    · rw [if_neg (by rw [cq33]; decide)]
      refine ev_aload_n (pc := 40) dX10_partAt_40 rfl ?_
      refine ev_bipush (pc := 41) (v := 115) dX10_partAt_41 (by decide) ?_
      refine ev_bipush (pc := 43) (v := 116) dX10_partAt_43 (by decide) ?_
      refine ev_bipush (pc := 45) (v := 97) dX10_partAt_45 (by decide) ?_
      refine ev_bipush (pc := 47) (v := 110) dX10_partAt_47 (by decide) ?_
      refine ev_bipush (pc := 49) (v := 100) dX10_partAt_49 (by decide) ?_
      refine callV5I (pc := 51) dX10_partAt_51 Ml_X10_208 M_X10_isWord rfl rfl rfl rfl c_X10_isWord ?_
      refine ev_if_eqB (pc := 54) (tgt := 61) dX10_partAt_54 (by decide) (fun cq54 => ?_) (fun cq54 => ?_)
      · rw [if_neg (by rw [cq54]; decide)]
        refine ev_aload_n (pc := 61) dX10_partAt_61 rfl ?_
        refine ev_bipush (pc := 62) (v := 100) dX10_partAt_62 (by decide) ?_
        refine ev_bipush (pc := 64) (v := 117) dX10_partAt_64 (by decide) ?_
        refine ev_bipush (pc := 66) (v := 101) dX10_partAt_66 (by decide) ?_
        refine ev_iconst (pc := 68) (v := 0) dX10_partAt_68 (by decide) ?_
        refine ev_iconst (pc := 69) (v := 0) dX10_partAt_69 (by decide) ?_
        refine callV5I (pc := 70) dX10_partAt_70 Ml_X10_208 M_X10_isWord rfl rfl rfl rfl c_X10_isWord ?_
        refine ev_if_eqB (pc := 73) (tgt := 80) dX10_partAt_73 (by decide) (fun cq73 => ?_) (fun cq73 => ?_)
        · rw [if_neg (by rw [cq73]; decide)]
          refine ev_iconst (pc := 80) (v := -1) dX10_partAt_80 (by decide) ?_
          exact ev_iret (pc := 81) dX10_partAt_81 rfl rfl ri
        · rw [if_pos cq73]
          refine ev_iconst (pc := 76) (v := 3) dX10_partAt_76 (by decide) ?_
          refine ev_goto (pc := 77) (tgt := 81) dX10_partAt_77 (by decide) ?_
          exact ev_iret (pc := 81) dX10_partAt_81 rfl rfl ri
      · rw [if_pos cq54]
        refine ev_iconst (pc := 57) (v := 2) dX10_partAt_57 (by decide) ?_
        refine ev_goto (pc := 58) (tgt := 81) dX10_partAt_58 (by decide) ?_
        exact ev_iret (pc := 81) dX10_partAt_81 rfl rfl ri
    · rw [if_pos cq33]
      refine ev_iconst (pc := 36) (v := 1) dX10_partAt_36 (by decide) ?_
      refine ev_goto (pc := 37) (tgt := 81) dX10_partAt_37 (by decide) ?_
      exact ev_iret (pc := 81) dX10_partAt_81 rfl rfl ri
  · rw [if_pos cq13]
    refine ev_iconst (pc := 16) (v := 0) dX10_partAt_16 (by decide) ?_
    refine ev_goto (pc := 17) (tgt := 81) dX10_partAt_17 (by decide) ?_
    exact ev_iret (pc := 81) dX10_partAt_81 rfl rfl ri
theorem mustM_bad {is : Bool} (h : (mustM is S).1 34 = 0) : S.1 34 = 0 ∧ is = true := by
  unfold mustM at h
  by_cases hb : S.1 34 = 0
  · rw [if_pos hb] at h
    refine ⟨hb, ?_⟩
    cases is with
    | true => rfl
    | false =>
      rw [if_neg (by decide)] at h
      exact absurd h (by show ¬ (1 : Int32) = 0; decide)
  · rw [if_neg hb] at h
    exact absurd h hb
/-- what a clause leaves -/
def clEnd (price limit : Bool) (part grade a b : Int32) (X : St) : St :=
  if X.1 34 = 0 then
    let Y := if price = true then setA X 37 (upd (X.2.1 37) grade.toNatClampNeg a) else if limit = true then setI X 28 a else setA (setA X 38 (upd (X.2.1 38) part.toNatClampNeg a)) 39 (upd (X.2.1 39) part.toNatClampNeg b)
    setI Y 27 (Y.1 27 + 1)
  else X
def cl2 (part a : Int32) (X : St) : Int32 × St := if 0 ≤ part then numM (if 1 ≤ a then a.toInt64 else 1) 10000 (mustM (isWM X 111 102 0 0 0) X) else (0, X)
def cl1 (price limit : Bool) (part grade : Int32) (X : St) : St :=
  let q := numM 0 10000 X
  let r := cl2 part q.1 q.2
  clEnd price limit part grade q.1 r.1 r.2
def clM (S : St) : St :=
  let price := isWM S 112 114 105 99 101
  let limit := isWM S 113 117 111 116 97
  let part := partN S
  let S1 := mustM ((price || (limit || decide (0 ≤ part))) && decide (S.1 27 < 20)) S
  let q := if price = true then numM 0 4 S1 else (0, S1)
  cl1 price limit part q.1 q.2
theorem cl_end {price limit : Bool} {part grade a b : Int32} {X : St} (hg : X.1 34 = 0 → price = true → vp_in grade 5) (hp : X.1 34 = 0 → price = false → limit = false → vp_in part 4) : Ev g mX10_readClause 137 [(0, .ref 43), (1, .int (b2i price)), (2, .int (b2i limit)), (3, .int part), (4, .int grade), (5, .int a), (6, .int b)] [] (hC X) (RV (clEnd price limit part grade a b X)) := by
  unfold clEnd
  refine ev_aload_n (pc := 137) dX10_readClause_137 rfl ?_
  refine get_MO_bad (pc := 138) dX10_readClause_138 Fl_X10_197 rfl ?_
  refine ev_if_eq (pc := 141) (tgt := 145) dX10_readClause_141 (by decide) (fun cq141 => ?_) (fun cq141 => ?_)
  · rw [if_pos cq141]
    refine ev_iload_n (pc := 145) dX10_readClause_145 rfl ?_
    refine ev_if_eqB (pc := 146) (tgt := 161) dX10_readClause_146 (by decide) (fun cq146 => ?_) (fun cq146 => ?_)
    · simp only [if_neg (show ¬ price = true by rw [cq146]; decide)]
      refine ev_iload_n (pc := 161) dX10_readClause_161 rfl ?_
      refine ev_if_eqB (pc := 162) (tgt := 174) dX10_readClause_162 (by decide) (fun cq162 => ?_) (fun cq162 => ?_)
      · simp only [if_neg (show ¬ limit = true by rw [cq162]; decide)]
        refine ev_aload_n (pc := 174) dX10_readClause_174 rfl ?_
        refine get_MO_nA (pc := 175) dX10_readClause_175 Fl_X10_56 ?_
        refine ev_iload_n (pc := 178) dX10_readClause_178 rfl ?_
        refine ev_iload (pc := 179) dX10_readClause_179 rfl ?_
        refine as_MO_nA (pc := 181) dX10_readClause_181 (hp cq141 cq146 cq162) ?_
        refine ev_aload_n (pc := 182) dX10_readClause_182 rfl ?_
        refine get_MO_nB (pc := 183) dX10_readClause_183 Fl_X10_59 ?_
        refine ev_iload_n (pc := 186) dX10_readClause_186 rfl ?_
        refine ev_iload (pc := 187) dX10_readClause_187 rfl ?_
        refine as_MO_nB (pc := 189) dX10_readClause_189 (hp cq141 cq146 cq162) ?_
        refine ev_aload_n (pc := 190) dX10_readClause_190 rfl ?_
        refine ev_dup (pc := 191) dX10_readClause_191 rfl ?_
        refine get_MO_nMany (pc := 192) dX10_readClause_192 Fl_X10_216 rfl ?_
        refine ev_iconst (pc := 195) (v := 1) dX10_readClause_195 (by decide) ?_
        refine ev_iadd (pc := 196) dX10_readClause_196 ?_
        refine put_MO_nMany (pc := 197) dX10_readClause_197 Fp_X10_216 ?_
        exact ev_ret (pc := 200) dX10_readClause_200 rfl rv
      · simp only [if_pos cq162]
        refine ev_aload_n (pc := 165) dX10_readClause_165 rfl ?_
        refine ev_iload (pc := 166) dX10_readClause_166 rfl ?_
        refine put_MO_nQuota (pc := 168) dX10_readClause_168 Fp_X10_223 ?_
        refine ev_goto (pc := 171) (tgt := 190) dX10_readClause_171 (by decide) ?_
        refine ev_aload_n (pc := 190) dX10_readClause_190 rfl ?_
        refine ev_dup (pc := 191) dX10_readClause_191 rfl ?_
        refine get_MO_nMany (pc := 192) dX10_readClause_192 Fl_X10_216 rfl ?_
        refine ev_iconst (pc := 195) (v := 1) dX10_readClause_195 (by decide) ?_
        refine ev_iadd (pc := 196) dX10_readClause_196 ?_
        refine put_MO_nMany (pc := 197) dX10_readClause_197 Fp_X10_216 ?_
        exact ev_ret (pc := 200) dX10_readClause_200 rfl rv
    · simp only [if_pos cq146]
      refine ev_aload_n (pc := 149) dX10_readClause_149 rfl ?_
      refine get_MO_nPrices (pc := 150) dX10_readClause_150 Fl_X10_53 ?_
      refine ev_iload (pc := 153) dX10_readClause_153 rfl ?_
      refine ev_iload (pc := 155) dX10_readClause_155 rfl ?_
      refine as_MO_nPrices (pc := 157) dX10_readClause_157 (hg cq141 cq146) ?_
      refine ev_goto (pc := 158) (tgt := 190) dX10_readClause_158 (by decide) ?_
      refine ev_aload_n (pc := 190) dX10_readClause_190 rfl ?_
      refine ev_dup (pc := 191) dX10_readClause_191 rfl ?_
      refine get_MO_nMany (pc := 192) dX10_readClause_192 Fl_X10_216 rfl ?_
      refine ev_iconst (pc := 195) (v := 1) dX10_readClause_195 (by decide) ?_
      refine ev_iadd (pc := 196) dX10_readClause_196 ?_
      refine put_MO_nMany (pc := 197) dX10_readClause_197 Fp_X10_216 ?_
      exact ev_ret (pc := 200) dX10_readClause_200 rfl rv
  · rw [if_neg cq141]
    exact ev_ret (pc := 144) dX10_readClause_144 rfl rv
theorem cl2_bad {part a : Int32} {X : St} (h : (cl2 part a X).2.1 34 = 0) : X.1 34 = 0 := by
  unfold cl2 at h
  split at h
  · exact (mustM_bad (mustM_bad h).1).1
  · exact h
theorem cl_2 {price limit : Bool} {part grade a : Int32} {X : St} (hT : TbM X) (hg : X.1 34 = 0 → price = true → vp_in grade 5) (hp : X.1 34 = 0 → price = false → limit = false → vp_in part 4) : Ev g mX10_readClause 96 [(0, .ref 43), (1, .int (b2i price)), (2, .int (b2i limit)), (3, .int part), (4, .int grade), (5, .int a), (6, .int 0)] [] (hC X) (RV (clEnd price limit part grade a (cl2 part a X).1 (cl2 part a X).2)) := by
  have hb := @cl2_bad part a X
  have hx := cl_end (g := g) (price := price) (limit := limit) (part := part) (grade := grade) (a := a) (b := (cl2 part a X).1) (X := (cl2 part a X).2) (fun h => hg (hb h)) (fun h => hp (hb h))
  unfold cl2 at hx ⊢
  refine ev_iload_n (pc := 96) dX10_readClause_96 rfl ?_
  refine ev_if_lt (pc := 97) (tgt := 137) dX10_readClause_97 (by decide) (fun cq97 => ?_) (fun cq97 => ?_)
  · rw [if_neg (Int32.not_le.mpr cq97)] at hx ⊢
    exact hx
  · rw [if_pos (Int32.not_lt.mp cq97)] at hx ⊢
    refine ev_aload_n (pc := 100) dX10_readClause_100 rfl ?_
    refine ev_aload_n (pc := 101) dX10_readClause_101 rfl ?_
    refine ev_bipush (pc := 102) (v := 111) dX10_readClause_102 (by decide) ?_
    refine ev_bipush (pc := 104) (v := 102) dX10_readClause_104 (by decide) ?_
    refine ev_iconst (pc := 106) (v := 0) dX10_readClause_106 (by decide) ?_
    refine ev_iconst (pc := 107) (v := 0) dX10_readClause_107 (by decide) ?_
    refine ev_iconst (pc := 108) (v := 0) dX10_readClause_108 (by decide) ?_
    refine callV5I (pc := 109) dX10_readClause_109 Ml_X10_208 M_X10_isWord rfl rfl rfl rfl c_X10_isWord ?_
    refine callV1V (pc := 112) dX10_readClause_112 Ml_X10_204 M_X10_must rfl rfl rfl rfl (c_X10_must hT) ?_
    refine ev_aload_n (pc := 115) dX10_readClause_115 rfl ?_
    refine ev_iload (pc := 116) dX10_readClause_116 rfl ?_
    refine ev_iconst (pc := 118) (v := 1) dX10_readClause_118 (by decide) ?_
    refine ev_icmp_ge (pc := 119) (tgt := 126) dX10_readClause_119 (by decide) (fun cq119 => ?_) (fun cq119 => ?_)
    · rw [if_pos cq119] at hx ⊢
      refine ev_iload (pc := 126) dX10_readClause_126 rfl ?_
      refine ev_i2l (pc := 128) dX10_readClause_128 ?_
      refine ev_ldc2 (pc := 129) dX10_readClause_129 Cn_X10_191 ?_
      refine callV2I (pc := 132) dX10_readClause_132 Ml_X10_219 M_X10_number rfl rfl rfl rfl (c_X10_number (mustM_Tb hT)) ?_
      refine ev_istore (pc := 135) (lv' := [(0, .ref 43), (1, .int _), (2, .int _), (3, .int _), (4, .int _), (5, .int _), (6, .int _)]) dX10_readClause_135 (Nat.le_of_ble_eq_true rfl) rfl ?_
      exact hx
    · rw [if_neg cq119] at hx ⊢
      refine ev_lconst (pc := 122) (v := 1) dX10_readClause_122 (by decide) ?_
      refine ev_goto (pc := 123) (tgt := 129) dX10_readClause_123 (by decide) ?_
      refine ev_ldc2 (pc := 129) dX10_readClause_129 Cn_X10_191 ?_
      refine callV2I (pc := 132) dX10_readClause_132 Ml_X10_219 M_X10_number rfl rfl rfl rfl (c_X10_number (mustM_Tb hT)) ?_
      refine ev_istore (pc := 135) (lv' := [(0, .ref 43), (1, .int _), (2, .int _), (3, .int _), (4, .int _), (5, .int _), (6, .int _)]) dX10_readClause_135 (Nat.le_of_ble_eq_true rfl) rfl ?_
      exact hx
theorem cl_1 {price limit : Bool} {part grade : Int32} {X : St} (hT : TbM X) (hg : X.1 34 = 0 → price = true → vp_in grade 5) (hp : X.1 34 = 0 → price = false → limit = false → vp_in part 4) : Ev g mX10_readClause 83 [(0, .ref 43), (1, .int (b2i price)), (2, .int (b2i limit)), (3, .int part), (4, .int grade)] [] (hC X) (RV (cl1 price limit part grade X)) := by
  have hx := cl_2 (g := g) (price := price) (limit := limit) (part := part) (grade := grade) (a := (numM 0 10000 X).1) (X := (numM 0 10000 X).2) (mustM_Tb hT) (fun h => hg (mustM_bad h).1) (fun h => hp (mustM_bad h).1)
  refine ev_aload_n (pc := 83) dX10_readClause_83 rfl ?_
  refine ev_lconst (pc := 84) (v := 0) dX10_readClause_84 (by decide) ?_
  refine ev_ldc2 (pc := 85) dX10_readClause_85 Cn_X10_191 ?_
  refine callV2I (pc := 88) dX10_readClause_88 Ml_X10_219 M_X10_number rfl rfl rfl rfl (c_X10_number hT) ?_
  refine ev_istore (pc := 91) (lv' := [(0, .ref 43), (1, .int _), (2, .int _), (3, .int _), (4, .int _), (5, .int _)]) dX10_readClause_91 (Nat.le_of_ble_eq_true rfl) rfl ?_
  refine ev_iconst (pc := 93) (v := 0) dX10_readClause_93 (by decide) ?_
  refine ev_istore (pc := 94) (lv' := [(0, .ref 43), (1, .int _), (2, .int _), (3, .int _), (4, .int _), (5, .int _), (6, .int _)]) dX10_readClause_94 (Nat.le_of_ble_eq_true rfl) rfl ?_
  exact hx
theorem in04 {w : Int64} (h : inL w 0 4 = true) : vp_in w.toInt32 5 := by
  unfold inL at h
  simp only [Bool.and_eq_true, Bool.not_eq_true', decide_eq_false_iff_not] at h
  have h1 := h.1
  have h2 := h.2
  rw [Int64.lt_iff_toInt_lt] at h1 h2
  have e0 : (0 : Int64).toInt = 0 := by decide
  have e4 : (4 : Int64).toInt = 4 := by decide
  rw [vp_in_iff, Int64.toInt_toInt32]
  rw [Int.bmod_eq_of_le (by omega) (by omega)]
  omega
theorem vpk : vp_in 0 4 ∧ vp_in 1 4 ∧ vp_in 2 4 ∧ vp_in 3 4 := by unfold vp_in; decide
theorem partN_in (h : 0 ≤ partN S) : vp_in (partN S) 4 := by
  unfold partN at *
  by_cases q1 : isWM S 111 118 101 114 0 = true
  · rw [if_pos q1]; exact vpk.1
  · rw [if_neg q1] at h ⊢
    by_cases q2 : isWM S 100 101 98 116 0 = true
    · rw [if_pos q2]; exact vpk.2.1
    · rw [if_neg q2] at h ⊢
      by_cases q3 : isWM S 115 116 97 110 100 = true
      · rw [if_pos q3]; exact vpk.2.2.1
      · rw [if_neg q3] at h ⊢
        by_cases q4 : isWM S 100 117 101 0 0 = true
        · rw [if_pos q4]; exact vpk.2.2.2
        · rw [if_neg q4] at h
          exact absurd h (by decide)
theorem cl_0 {S0 : St} {price limit : Bool} {part : Int32} {X : St} (hT : TbM X) (hp : X.1 34 = 0 → price = false → limit = false → vp_in part 4) : Ev g mX10_readClause 65 [(0, .ref 43), (1, .int (b2i price)), (2, .int (b2i limit)), (3, .int part)] [] (hC X) (RV (cl1 price limit part (if price = true then numM 0 4 X else (0, X)).1 (if price = true then numM 0 4 X else (0, X)).2)) := by
  cases price with
  | true =>
    rw [if_pos rfl]
    have hx := cl_1 (g := g) (price := true) (limit := limit) (part := part) (grade := (numM 0 4 X).1) (X := (numM 0 4 X).2) (mustM_Tb hT) (fun h _ => by have := (mustM_bad h).2; rw [Bool.and_eq_true] at this; exact in04 this.2) (fun _ h => absurd h (by decide))
    refine ev_iload_n (pc := 65) dX10_readClause_65 rfl ?_
    refine ev_if_eqB (pc := 66) (tgt := 80) dX10_readClause_66 (by decide) (fun cq66 => absurd cq66 (by decide)) (fun cq66 => ?_)
    refine ev_aload_n (pc := 69) dX10_readClause_69 rfl ?_
    refine ev_lconst (pc := 70) (v := 0) dX10_readClause_70 (by decide) ?_
    refine ev_ldc2 (pc := 71) dX10_readClause_71 Cn_X10_154 ?_
    refine callV2I (pc := 74) dX10_readClause_74 Ml_X10_219 M_X10_number rfl rfl rfl rfl (c_X10_number hT) ?_
    refine ev_goto (pc := 77) (tgt := 81) dX10_readClause_77 (by decide) ?_
    refine ev_istore (pc := 81) (lv' := [(0, .ref 43), (1, .int _), (2, .int _), (3, .int _), (4, .int _)]) dX10_readClause_81 (Nat.le_of_ble_eq_true rfl) rfl ?_
    exact hx
  | false =>
    rw [if_neg (by decide)]
    have hx := cl_1 (g := g) (price := false) (limit := limit) (part := part) (grade := 0) (X := X) hT (fun _ h => absurd h (by decide)) hp
    refine ev_iload_n (pc := 65) dX10_readClause_65 rfl ?_
    refine ev_if_eqB (pc := 66) (tgt := 80) dX10_readClause_66 (by decide) (fun cq66 => ?_) (fun cq66 => absurd cq66 (by decide))
    refine ev_iconst (pc := 80) (v := 0) dX10_readClause_80 (by decide) ?_
    refine ev_istore (pc := 81) (lv' := [(0, .ref 43), (1, .int _), (2, .int _), (3, .int _), (4, .int _)]) dX10_readClause_81 (Nat.le_of_ble_eq_true rfl) rfl ?_
    exact hx
theorem c_X10_readClause (hT : TbM S) : Ct g mX10_readClause [.ref 43] (hC S) (RV (clM S)) := by
  have mid : ∀ is, is = ((isWM S 112 114 105 99 101 || (isWM S 113 117 111 116 97 || decide (0 ≤ partN S))) && decide (S.1 27 < 20)) → Ev g mX10_readClause 62 [(0, .ref 43), (1, .int (b2i (isWM S 112 114 105 99 101))), (2, .int (b2i (isWM S 113 117 111 116 97))), (3, .int (partN S))] [.int (b2i is), .ref 43] (hC S) (RV (clM S)) := by
    intro is his
    subst his
    have hx := cl_0 (g := g) (S0 := S) (price := isWM S 112 114 105 99 101) (limit := isWM S 113 117 111 116 97) (part := partN S) (X := mustM ((isWM S 112 114 105 99 101 || (isWM S 113 117 111 116 97 || decide (0 ≤ partN S))) && decide (S.1 27 < 20)) S) (mustM_Tb hT) (fun h h1 h2 => by
      have := (mustM_bad h).2
      rw [h1, h2, Bool.false_or, Bool.false_or, Bool.and_eq_true] at this
      exact partN_in (of_decide_eq_true this.1))
    refine callV1V (pc := 62) dX10_readClause_62 Ml_X10_204 M_X10_must rfl rfl rfl rfl (c_X10_must hT) ?_
    exact hx
  refine ct_of rfl rfl ?_
  refine ev_aload_n (pc := 0) dX10_readClause_0 rfl ?_
  refine ev_bipush (pc := 1) (v := 112) dX10_readClause_1 (by decide) ?_
  refine ev_bipush (pc := 3) (v := 114) dX10_readClause_3 (by decide) ?_
  refine ev_bipush (pc := 5) (v := 105) dX10_readClause_5 (by decide) ?_
  refine ev_bipush (pc := 7) (v := 99) dX10_readClause_7 (by decide) ?_
  refine ev_bipush (pc := 9) (v := 101) dX10_readClause_9 (by decide) ?_
  refine callV5I (pc := 11) dX10_readClause_11 Ml_X10_208 M_X10_isWord rfl rfl rfl rfl c_X10_isWord ?_
  refine ev_istore_n (pc := 14) (lv' := [(0, .ref 43), (1, .int _)]) dX10_readClause_14 (Nat.le_of_ble_eq_true rfl) rfl ?_
  refine ev_aload_n (pc := 15) dX10_readClause_15 rfl ?_
  refine ev_bipush (pc := 16) (v := 113) dX10_readClause_16 (by decide) ?_
  refine ev_bipush (pc := 18) (v := 117) dX10_readClause_18 (by decide) ?_
  refine ev_bipush (pc := 20) (v := 111) dX10_readClause_20 (by decide) ?_
  refine ev_bipush (pc := 22) (v := 116) dX10_readClause_22 (by decide) ?_
  refine ev_bipush (pc := 24) (v := 97) dX10_readClause_24 (by decide) ?_
  refine callV5I (pc := 26) dX10_readClause_26 Ml_X10_208 M_X10_isWord rfl rfl rfl rfl c_X10_isWord ?_
  refine ev_istore_n (pc := 29) (lv' := [(0, .ref 43), (1, .int _), (2, .int _)]) dX10_readClause_29 (Nat.le_of_ble_eq_true rfl) rfl ?_
  refine ev_aload_n (pc := 30) dX10_readClause_30 rfl ?_
  refine callV0I (pc := 31) dX10_readClause_31 Ml_X10_212 M_X10_partAt rfl rfl rfl rfl c_X10_partAt ?_
  refine ev_istore_n (pc := 34) (lv' := [(0, .ref 43), (1, .int _), (2, .int _), (3, .int _)]) dX10_readClause_34 (Nat.le_of_ble_eq_true rfl) rfl ?_
  refine ev_aload_n (pc := 35) dX10_readClause_35 rfl ?_
  refine ev_iload_n (pc := 36) dX10_readClause_36 rfl ?_
  refine ev_if_neB (pc := 37) (tgt := 48) dX10_readClause_37 (by decide) (fun cq37 => ?_) (fun cq37 => ?_)
  · refine ev_aload_n (pc := 48) dX10_readClause_48 rfl ?_
    refine get_MO_nMany (pc := 49) dX10_readClause_49 Fl_X10_216 rfl ?_
    refine ev_bipush (pc := 52) (v := 20) dX10_readClause_52 (by decide) ?_
    refine ev_icmp_ge (pc := 54) (tgt := 61) dX10_readClause_54 (by decide) (fun cq54 => ?_) (fun cq54 => ?_)
    · rw [← Int32.not_lt] at cq54
      refine ev_iconst (pc := 61) (v := 0) dX10_readClause_61 (by decide) ?_
      first | (refine mid true ?_; simp [cq37, cq54]; done) | (refine mid false ?_; simp [cq37, cq54]; done) | (refine mid true ?_; simp [cq37, cq41, cq54]; done) | (refine mid false ?_; simp [cq37, cq41, cq54]; done) | (refine mid true ?_; simp [cq37, cq41, Int32.not_lt.mp cq45, cq54]; done) | (refine mid false ?_; simp [cq37, cq41, Int32.not_lt.mp cq45, cq54]; done) | (refine mid false ?_; simp [cq37, cq41, Int32.not_le.mpr cq45]; done)
    · rw [Int32.not_le] at cq54
      refine ev_iconst (pc := 57) (v := 1) dX10_readClause_57 (by decide) ?_
      refine ev_goto (pc := 58) (tgt := 62) dX10_readClause_58 (by decide) ?_
      first | (refine mid true ?_; simp [cq37, cq54]; done) | (refine mid false ?_; simp [cq37, cq54]; done) | (refine mid true ?_; simp [cq37, cq41, cq54]; done) | (refine mid false ?_; simp [cq37, cq41, cq54]; done) | (refine mid true ?_; simp [cq37, cq41, Int32.not_lt.mp cq45, cq54]; done) | (refine mid false ?_; simp [cq37, cq41, Int32.not_lt.mp cq45, cq54]; done) | (refine mid false ?_; simp [cq37, cq41, Int32.not_le.mpr cq45]; done)
  · refine ev_iload_n (pc := 40) dX10_readClause_40 rfl ?_
    refine ev_if_neB (pc := 41) (tgt := 48) dX10_readClause_41 (by decide) (fun cq41 => ?_) (fun cq41 => ?_)
    · refine ev_aload_n (pc := 48) dX10_readClause_48 rfl ?_
      refine get_MO_nMany (pc := 49) dX10_readClause_49 Fl_X10_216 rfl ?_
      refine ev_bipush (pc := 52) (v := 20) dX10_readClause_52 (by decide) ?_
      refine ev_icmp_ge (pc := 54) (tgt := 61) dX10_readClause_54 (by decide) (fun cq54 => ?_) (fun cq54 => ?_)
      · rw [← Int32.not_lt] at cq54
        refine ev_iconst (pc := 61) (v := 0) dX10_readClause_61 (by decide) ?_
        first | (refine mid true ?_; simp [cq37, cq54]; done) | (refine mid false ?_; simp [cq37, cq54]; done) | (refine mid true ?_; simp [cq37, cq41, cq54]; done) | (refine mid false ?_; simp [cq37, cq41, cq54]; done) | (refine mid true ?_; simp [cq37, cq41, Int32.not_lt.mp cq45, cq54]; done) | (refine mid false ?_; simp [cq37, cq41, Int32.not_lt.mp cq45, cq54]; done) | (refine mid false ?_; simp [cq37, cq41, Int32.not_le.mpr cq45]; done)
      · rw [Int32.not_le] at cq54
        refine ev_iconst (pc := 57) (v := 1) dX10_readClause_57 (by decide) ?_
        refine ev_goto (pc := 58) (tgt := 62) dX10_readClause_58 (by decide) ?_
        first | (refine mid true ?_; simp [cq37, cq54]; done) | (refine mid false ?_; simp [cq37, cq54]; done) | (refine mid true ?_; simp [cq37, cq41, cq54]; done) | (refine mid false ?_; simp [cq37, cq41, cq54]; done) | (refine mid true ?_; simp [cq37, cq41, Int32.not_lt.mp cq45, cq54]; done) | (refine mid false ?_; simp [cq37, cq41, Int32.not_lt.mp cq45, cq54]; done) | (refine mid false ?_; simp [cq37, cq41, Int32.not_le.mpr cq45]; done)
    · refine ev_iload_n (pc := 44) dX10_readClause_44 rfl ?_
      refine ev_if_lt (pc := 45) (tgt := 61) dX10_readClause_45 (by decide) (fun cq45 => ?_) (fun cq45 => ?_)
      · refine ev_iconst (pc := 61) (v := 0) dX10_readClause_61 (by decide) ?_
        first | (refine mid true ?_; simp [cq37, cq54]; done) | (refine mid false ?_; simp [cq37, cq54]; done) | (refine mid true ?_; simp [cq37, cq41, cq54]; done) | (refine mid false ?_; simp [cq37, cq41, cq54]; done) | (refine mid true ?_; simp [cq37, cq41, Int32.not_lt.mp cq45, cq54]; done) | (refine mid false ?_; simp [cq37, cq41, Int32.not_lt.mp cq45, cq54]; done) | (refine mid false ?_; simp [cq37, cq41, Int32.not_le.mpr cq45]; done)
      · refine ev_aload_n (pc := 48) dX10_readClause_48 rfl ?_
        refine get_MO_nMany (pc := 49) dX10_readClause_49 Fl_X10_216 rfl ?_
        refine ev_bipush (pc := 52) (v := 20) dX10_readClause_52 (by decide) ?_
        refine ev_icmp_ge (pc := 54) (tgt := 61) dX10_readClause_54 (by decide) (fun cq54 => ?_) (fun cq54 => ?_)
        · rw [← Int32.not_lt] at cq54
          refine ev_iconst (pc := 61) (v := 0) dX10_readClause_61 (by decide) ?_
          first | (refine mid true ?_; simp [cq37, cq54]; done) | (refine mid false ?_; simp [cq37, cq54]; done) | (refine mid true ?_; simp [cq37, cq41, cq54]; done) | (refine mid false ?_; simp [cq37, cq41, cq54]; done) | (refine mid true ?_; simp [cq37, cq41, Int32.not_lt.mp cq45, cq54]; done) | (refine mid false ?_; simp [cq37, cq41, Int32.not_lt.mp cq45, cq54]; done) | (refine mid false ?_; simp [cq37, cq41, Int32.not_le.mpr cq45]; done)
        · rw [Int32.not_le] at cq54
          refine ev_iconst (pc := 57) (v := 1) dX10_readClause_57 (by decide) ?_
          refine ev_goto (pc := 58) (tgt := 62) dX10_readClause_58 (by decide) ?_
          first | (refine mid true ?_; simp [cq37, cq54]; done) | (refine mid false ?_; simp [cq37, cq54]; done) | (refine mid true ?_; simp [cq37, cq41, cq54]; done) | (refine mid false ?_; simp [cq37, cq41, cq54]; done) | (refine mid true ?_; simp [cq37, cq41, Int32.not_lt.mp cq45, cq54]; done) | (refine mid false ?_; simp [cq37, cq41, Int32.not_lt.mp cq45, cq54]; done) | (refine mid false ?_; simp [cq37, cq41, Int32.not_le.mpr cq45]; done)
end MO3
