section MO6
variable {g : GG} {S : St}
theorem lN_pos {n : Nat} (h : n < 2 ^ 63) : 0 ≤ lN n := by
  rw [Int64.le_iff_toInt_le, pk_lT h, show (0 : Int64).toInt = 0 by decide]; omega
theorem i64_lN {x : Int64} (h : 0 ≤ x) : x = lN x.toInt.toNat := by
  obtain ⟨k, hk, rfl⟩ := pk_lOf (x := x) (by rw [Int64.not_lt]; exact h)
  rw [pk_lT hk, Int.toNat_natCast]
theorem msF_nn (gr : Nat → Int32) (ca : Nat → Int64) (grp : Int32) : ∀ k, 0 ≤ msF gr ca grp k
  | 0 => by show (0 : Int64) ≤ 0; decide
  | k + 1 => by
    have h := msF_nn gr ca grp k
    rw [msF]
    split
    · split
      · exact h
      · rename_i h1 h2
        exact Int64.le_trans h (Int64.le_of_lt (Int64.not_le.mp h2))
    · exact h
theorem msF_lt (gr : Nat → Int32) (ca : Nat → Int64) (grp : Int32) : ∀ k, (∀ j, j < k → (ca j).toInt < 2 ^ 61) → (msF gr ca grp k).toInt < 2 ^ 61
  | 0, _ => by show (0 : Int64).toInt < 2 ^ 61; decide
  | k + 1, hc => by
    have h := msF_lt gr ca grp k (fun j hj => hc j (by omega))
    rw [msF]
    split
    · split
      · exact h
      · exact hc k (by omega)
    · exact h
theorem sd_db {grp : Int32} {n : Nat} (hs : S.1 22 = nI n) (hn : n ≤ 40) (Post : Option Value → List va_E → Prop) (hx : Ev g mX10_stand 86 [(0, .ref 43), (1, .int grp), (2, .long (dbF (S.2.1 24) (S.2.2.2.1 16) grp n)), (4, .long (msF (S.2.1 24) (S.2.2.2.1 14) grp n))] [] (hC S) Post) : Ev g mX10_stand 0 [(0, .ref 43), (1, .int grp)] [] (hC S) Post := by
  have L : ∀ k, k ≤ n → Ev g mX10_stand 8 [(0, .ref 43), (1, .int grp), (2, .long (dbF (S.2.1 24) (S.2.2.2.1 16) grp k)), (4, .long (msF (S.2.1 24) (S.2.2.2.1 14) grp k)), (6, .int (nI k))] [] (hC S) Post := by
    refine loop_up n ?_ ?_
    · skip
      refine ev_iload (pc := 8) dX10_stand_8 rfl ?_
      refine ev_aload_n (pc := 10) dX10_stand_10 rfl ?_
      refine get_MO_farmers (pc := 11) dX10_stand_11 Fl_X10_129 hs ?_
      refine ev_icmp_geN (pc := 14) (tgt := 86) (by omega) (by omega) dX10_stand_14 (by decide) (fun cq14 => ?_) (fun cq14 => absurd (Nat.le_refl n) cq14)
      exact ev_keep [0, 1, 2, 4] hx
    · intro k hk ih
      rw [dbF, msF] at ih
      by_cases hg : S.2.1 24 k = grp
      · rw [if_pos hg, if_pos hg] at ih
        refine ev_iload (pc := 8) dX10_stand_8 rfl ?_
        refine ev_aload_n (pc := 10) dX10_stand_10 rfl ?_
        refine get_MO_farmers (pc := 11) dX10_stand_11 Fl_X10_129 hs ?_
        refine ev_icmp_geN (pc := 14) (tgt := 86) (by omega) (by omega) dX10_stand_14 (by decide) (fun cq14 => absurd cq14 (by omega)) (fun cq14 => ?_)
        refine ev_lload_n (pc := 17) dX10_stand_17 rfl ?_
        refine ev_aload_n (pc := 18) dX10_stand_18 rfl ?_
        refine get_MO_fGroup (pc := 19) dX10_stand_19 Fl_X10_7 ?_
        refine ev_iload (pc := 22) dX10_stand_22 rfl ?_
        refine ldN_MO_fGroup (pc := 24) dX10_stand_24 (by omega) rfl ?_
        refine ev_iload_n (pc := 25) dX10_stand_25 rfl ?_
        refine ev_icmp_ne (pc := 26) (tgt := 39) dX10_stand_26 (by decide) (fun cq26 => absurd hg cq26) (fun cq26 => ?_)
        refine ev_aload_n (pc := 29) dX10_stand_29 rfl ?_
        refine get_MO_left (pc := 30) dX10_stand_30 Fl_X10_93 ?_
        refine ev_iload (pc := 33) dX10_stand_33 rfl ?_
        refine ldN_MO_left (pc := 35) dX10_stand_35 (by omega) rfl ?_
        refine ev_goto (pc := 36) (tgt := 40) dX10_stand_36 (by decide) ?_
        refine ev_ladd (pc := 40) dX10_stand_40 ?_
        refine ev_lstore_n (pc := 41) (lv' := [(0, .ref 43), (1, .int _), (2, .long _), (4, .long _), (6, .int _)]) dX10_stand_41 (Nat.le_of_ble_eq_true rfl) rfl ?_
        refine ev_aload_n (pc := 42) dX10_stand_42 rfl ?_
        refine get_MO_fGroup (pc := 43) dX10_stand_43 Fl_X10_7 ?_
        refine ev_iload (pc := 46) dX10_stand_46 rfl ?_
        refine ldN_MO_fGroup (pc := 48) dX10_stand_48 (by omega) rfl ?_
        refine ev_iload_n (pc := 49) dX10_stand_49 rfl ?_
        refine ev_icmp_ne (pc := 50) (tgt := 76) dX10_stand_50 (by decide) (fun cq50 => absurd hg cq50) (fun cq50 => ?_)
        refine ev_aload_n (pc := 53) dX10_stand_53 rfl ?_
        refine get_MO_can (pc := 54) dX10_stand_54 Fl_X10_87 ?_
        refine ev_iload (pc := 57) dX10_stand_57 rfl ?_
        refine ldN_MO_can (pc := 59) dX10_stand_59 (by omega) rfl ?_
        refine ev_lload (pc := 60) dX10_stand_60 rfl ?_
        refine ev_lcmp_le (pc := 62) (tgt := 76) dX10_stand_62 dX10_stand_63 (by decide) (fun cq62 => ?_) (fun cq62 => ?_)
        · rw [if_pos cq62] at ih
          refine ev_lload (pc := 76) dX10_stand_76 rfl ?_
          refine ev_lstore (pc := 78) (lv' := [(0, .ref 43), (1, .int _), (2, .long _), (4, .long _), (6, .int _)]) dX10_stand_78 (Nat.le_of_ble_eq_true rfl) rfl ?_
          refine ev_iincN (pc := 80) (lv' := [(0, .ref 43), (1, .int _), (2, .long _), (4, .long _), (6, .int _)]) dX10_stand_80 rfl (Nat.le_of_ble_eq_true rfl) rfl ?_
          refine ev_goto (pc := 83) (tgt := 8) dX10_stand_83 (by decide) ?_
          exact ih
        · rw [if_neg cq62] at ih
          refine ev_aload_n (pc := 66) dX10_stand_66 rfl ?_
          refine get_MO_can (pc := 67) dX10_stand_67 Fl_X10_87 ?_
          refine ev_iload (pc := 70) dX10_stand_70 rfl ?_
          refine ldN_MO_can (pc := 72) dX10_stand_72 (by omega) rfl ?_
          refine ev_goto (pc := 73) (tgt := 78) dX10_stand_73 (by decide) ?_
          refine ev_lstore (pc := 78) (lv' := [(0, .ref 43), (1, .int _), (2, .long _), (4, .long _), (6, .int _)]) dX10_stand_78 (Nat.le_of_ble_eq_true rfl) rfl ?_
          refine ev_iincN (pc := 80) (lv' := [(0, .ref 43), (1, .int _), (2, .long _), (4, .long _), (6, .int _)]) dX10_stand_80 rfl (Nat.le_of_ble_eq_true rfl) rfl ?_
          refine ev_goto (pc := 83) (tgt := 8) dX10_stand_83 (by decide) ?_
          exact ih
      · rw [if_neg hg, if_neg hg] at ih
        refine ev_iload (pc := 8) dX10_stand_8 rfl ?_
        refine ev_aload_n (pc := 10) dX10_stand_10 rfl ?_
        refine get_MO_farmers (pc := 11) dX10_stand_11 Fl_X10_129 hs ?_
        refine ev_icmp_geN (pc := 14) (tgt := 86) (by omega) (by omega) dX10_stand_14 (by decide) (fun cq14 => absurd cq14 (by omega)) (fun cq14 => ?_)
        refine ev_lload_n (pc := 17) dX10_stand_17 rfl ?_
        refine ev_aload_n (pc := 18) dX10_stand_18 rfl ?_
        refine get_MO_fGroup (pc := 19) dX10_stand_19 Fl_X10_7 ?_
        refine ev_iload (pc := 22) dX10_stand_22 rfl ?_
        refine ldN_MO_fGroup (pc := 24) dX10_stand_24 (by omega) rfl ?_
        refine ev_iload_n (pc := 25) dX10_stand_25 rfl ?_
        refine ev_icmp_ne (pc := 26) (tgt := 39) dX10_stand_26 (by decide) (fun cq26 => ?_) (fun cq26 => absurd cq26 hg)
        refine ev_lconst (pc := 39) (v := 0) dX10_stand_39 (by decide) ?_
        refine ev_ladd (pc := 40) dX10_stand_40 ?_
        refine ev_lstore_n (pc := 41) (lv' := [(0, .ref 43), (1, .int _), (2, .long _), (4, .long _), (6, .int _)]) dX10_stand_41 (Nat.le_of_ble_eq_true rfl) rfl ?_
        refine ev_aload_n (pc := 42) dX10_stand_42 rfl ?_
        refine get_MO_fGroup (pc := 43) dX10_stand_43 Fl_X10_7 ?_
        refine ev_iload (pc := 46) dX10_stand_46 rfl ?_
        refine ldN_MO_fGroup (pc := 48) dX10_stand_48 (by omega) rfl ?_
        refine ev_iload_n (pc := 49) dX10_stand_49 rfl ?_
        refine ev_icmp_ne (pc := 50) (tgt := 76) dX10_stand_50 (by decide) (fun cq50 => ?_) (fun cq50 => absurd cq50 hg)
        refine ev_lload (pc := 76) dX10_stand_76 rfl ?_
        refine ev_lstore (pc := 78) (lv' := [(0, .ref 43), (1, .int _), (2, .long _), (4, .long _), (6, .int _)]) dX10_stand_78 (Nat.le_of_ble_eq_true rfl) rfl ?_
        refine ev_iincN (pc := 80) (lv' := [(0, .ref 43), (1, .int _), (2, .long _), (4, .long _), (6, .int _)]) dX10_stand_80 rfl (Nat.le_of_ble_eq_true rfl) rfl ?_
        refine ev_goto (pc := 83) (tgt := 8) dX10_stand_83 (by decide) ?_
        exact ih
  refine ev_lconst (pc := 0) (v := 0) dX10_stand_0 (by decide) ?_
  refine ev_lstore_n (pc := 1) (lv' := [(0, .ref 43), (1, .int _), (2, .long _)]) dX10_stand_1 (Nat.le_of_ble_eq_true rfl) rfl ?_
  refine ev_lconst (pc := 2) (v := 0) dX10_stand_2 (by decide) ?_
  refine ev_lstore (pc := 3) (lv' := [(0, .ref 43), (1, .int _), (2, .long _), (4, .long _)]) dX10_stand_3 (Nat.le_of_ble_eq_true rfl) rfl ?_
  refine ev_iconst (pc := 5) (v := nI 0) dX10_stand_5 (by decide) ?_
  refine ev_istore (pc := 6) (lv' := [(0, .ref 43), (1, .int _), (2, .long _), (4, .long _), (6, .int _)]) dX10_stand_6 (Nat.le_of_ble_eq_true rfl) rfl ?_
  exact L 0 (Nat.zero_le _)
theorem sd_bs {grp : Int32} {db ms : Int64} {n : Nat} (hs : S.1 22 = nI n) (hn : n ≤ 40) (Post : Option Value → List va_E → Prop) : ∀ (r a b : Nat), a < b → b < 2 ^ 62 → b - a ≤ 2 ^ r → (∀ hi, Ev g mX10_stand 142 [(0, .ref 43), (1, .int grp), (2, .long db), (4, .long ms), (6, .long (lN (bsN (fun z => gaF (S.2.1 24) (S.2.2.2.1 14) grp z n) db r a b))), (8, .long hi)] [] (hC S) Post) → Ev g mX10_stand 95 [(0, .ref 43), (1, .int grp), (2, .long db), (4, .long ms), (6, .long (lN a)), (8, .long (lN b))] [] (hC S) Post := by
  have h1 : (1 : Int64) = lN 1 := by decide
  have h2 : (2 : Int64) = lN 2 := by decide
  intro r
  induction r with
  | zero =>
    intro a b hab hb hr k
    have hr' : b - a ≤ 1 := hr
    refine ev_lload (pc := 95) dX10_stand_95 rfl ?_
    refine ev_lload (pc := 97) dX10_stand_97 rfl ?_
    refine ev_lsub (pc := 99) dX10_stand_99 ?_
    refine ev_lconst (pc := 100) (v := 1) dX10_stand_100 (by decide) ?_
    refine ev_lcmp_le (pc := 101) (tgt := 142) dX10_stand_101 dX10_stand_102 (by decide) (fun cq101 => ?_) (fun cq101 => absurd (by rw [lN_sub (by omega), h1]; exact (pk_lLE (by omega) (by omega)).mpr hr') cq101)
    exact k _
  | succ r ih =>
    intro a b hab hb hr k
    have hp : 2 ^ (r + 1) = 2 * 2 ^ r := by rw [Nat.pow_succ]; omega
    rw [bsN] at k
    by_cases hd : b - a ≤ 1
    · rw [if_pos hd] at k
      refine ev_lload (pc := 95) dX10_stand_95 rfl ?_
      refine ev_lload (pc := 97) dX10_stand_97 rfl ?_
      refine ev_lsub (pc := 99) dX10_stand_99 ?_
      refine ev_lconst (pc := 100) (v := 1) dX10_stand_100 (by decide) ?_
      refine ev_lcmp_le (pc := 101) (tgt := 142) dX10_stand_101 dX10_stand_102 (by decide) (fun cq101 => ?_) (fun cq101 => absurd (by rw [lN_sub (by omega), h1]; exact (pk_lLE (by omega) (by omega)).mpr hd) cq101)
      exact k _
    · rw [if_neg hd] at k
      have hm : (lN a + lN b) / 2 = lN ((a + b) / 2) := by rw [lN_add, h2, pk_lDiv (by omega) (by omega) (by omega)]
      refine ev_lload (pc := 95) dX10_stand_95 rfl ?_
      refine ev_lload (pc := 97) dX10_stand_97 rfl ?_
      refine ev_lsub (pc := 99) dX10_stand_99 ?_
      refine ev_lconst (pc := 100) (v := 1) dX10_stand_100 (by decide) ?_
      refine ev_lcmp_le (pc := 101) (tgt := 142) dX10_stand_101 dX10_stand_102 (by decide) (fun cq101 => absurd cq101 (by rw [lN_sub (by omega), h1]; intro z; exact hd ((pk_lLE (by omega) (by omega)).mp z))) (fun cq101 => ?_)
      refine ev_lload (pc := 105) dX10_stand_105 rfl ?_
      refine ev_lload (pc := 107) dX10_stand_107 rfl ?_
      refine ev_ladd (pc := 109) dX10_stand_109 ?_
      refine ev_ldc2 (pc := 110) dX10_stand_110 Cn_X10_243 ?_
      refine ev_ldiv (pc := 113) dX10_stand_113 (by decide) ?_
      rw [hm]
      refine ev_lstore (pc := 114) (lv' := [(0, .ref 43), (1, .int _), (2, .long _), (4, .long _), (6, .long _), (8, .long _), (10, .long _)]) dX10_stand_114 (Nat.le_of_ble_eq_true rfl) rfl ?_
      refine ev_aload_n (pc := 116) dX10_stand_116 rfl ?_
      refine ev_iload_n (pc := 117) dX10_stand_117 rfl ?_
      refine ev_lload (pc := 118) dX10_stand_118 rfl ?_
      refine callV2L (pc := 120) dX10_stand_120 Ml_X10_245 M_X10_givenAt rfl rfl rfl rfl (c_X10_givenAt hs hn) ?_
      refine ev_lload_n (pc := 123) dX10_stand_123 rfl ?_
      refine ev_lcmp_gt (pc := 124) (tgt := 135) dX10_stand_124 dX10_stand_125 (by decide) (fun cq124 => ?_) (fun cq124 => ?_)
      · rw [if_pos cq124] at k
        refine ev_lload (pc := 135) dX10_stand_135 rfl ?_
        refine ev_lstore (pc := 137) (lv' := [(0, .ref 43), (1, .int _), (2, .long _), (4, .long _), (6, .long _), (8, .long _), (10, .long _)]) dX10_stand_137 (Nat.le_of_ble_eq_true rfl) rfl ?_
        refine ev_goto (pc := 139) (tgt := 95) dX10_stand_139 (by decide) ?_
        exact ev_keep [0, 1, 2, 4, 6, 8] (ih _ _ (by omega) (by omega) (by omega) k)
      · rw [if_neg cq124] at k
        refine ev_lload (pc := 128) dX10_stand_128 rfl ?_
        refine ev_lstore (pc := 130) (lv' := [(0, .ref 43), (1, .int _), (2, .long _), (4, .long _), (6, .long _), (8, .long _), (10, .long _)]) dX10_stand_130 (Nat.le_of_ble_eq_true rfl) rfl ?_
        refine ev_goto (pc := 132) (tgt := 139) dX10_stand_132 (by decide) ?_
        refine ev_goto (pc := 139) (tgt := 95) dX10_stand_139 (by decide) ?_
        exact ev_keep [0, 1, 2, 4, 6, 8] (ih _ _ (by omega) (by omega) (by omega) k)
theorem sd_gv {grp : Int32} {db ms lo hi m0 : Int64} {n : Nat} (hs : S.1 22 = nI n) (hn : n ≤ 40) (Post : Option Value → List va_E → Prop) (hx : Ev g mX10_stand 282 [(0, .ref 43), (1, .int grp), (2, .long db), (4, .long ms), (6, .long lo), (8, .long hi), (10, .long (it (gvB grp lo) n (S, m0, 0)).2.1), (12, .long (it (gvB grp lo) n (S, m0, 0)).2.2)] [] (hC (it (gvB grp lo) n (S, m0, 0)).1) Post) : Ev g mX10_stand 159 [(0, .ref 43), (1, .int grp), (2, .long db), (4, .long ms), (6, .long lo), (8, .long hi), (10, .long m0), (12, .long 0), (14, .int (nI 0))] [] (hC S) Post := by
  have hse : ∀ k, (it (gvB grp lo) k (S, m0, 0)).1.1 22 = nI n := fun k => by rw [(gvB_eqs grp lo k (S, m0, 0)).1]; exact hs
  have L : ∀ k, k ≤ n → Ev g mX10_stand 159 [(0, .ref 43), (1, .int grp), (2, .long db), (4, .long ms), (6, .long lo), (8, .long hi), (10, .long (it (gvB grp lo) k (S, m0, 0)).2.1), (12, .long (it (gvB grp lo) k (S, m0, 0)).2.2), (14, .int (nI k))] [] (hC (it (gvB grp lo) k (S, m0, 0)).1) Post := by
    refine loop_up n ?_ ?_
    · have hs := hse n
      refine ev_iload (pc := 159) dX10_stand_159 rfl ?_
      refine ev_aload_n (pc := 161) dX10_stand_161 rfl ?_
      refine get_MO_farmers (pc := 162) dX10_stand_162 Fl_X10_129 hs ?_
      refine ev_icmp_geN (pc := 165) (tgt := 282) (by omega) (by omega) dX10_stand_165 (by decide) (fun cq165 => ?_) (fun cq165 => absurd (Nat.le_refl n) cq165)
      exact ev_keep [0, 1, 2, 4, 6, 8, 10, 12] hx
    · intro k hk ih
      exact gv_step _ k Post hk hn (hse k) ih
  exact L 0 (Nat.zero_le _)
theorem sd_py {grp : Int32} {db ms lo hi mi m0 : Int64} {n : Nat} (hs : S.1 22 = nI n) (hn : n ≤ 40) : Ev g mX10_stand 285 [(0, .ref 43), (1, .int grp), (2, .long db), (4, .long ms), (6, .long lo), (8, .long hi), (10, .long mi), (12, .long m0), (14, .int (nI 0))] [] (hC S) (RV (it (pyB grp) n (S, m0)).1) := by
  have hse : ∀ k, (it (pyB grp) k (S, m0)).1.1 22 = nI n := fun k => by rw [(pyB_eqs grp k (S, m0)).1]; exact hs
  have L : ∀ k, k ≤ n → Ev g mX10_stand 285 [(0, .ref 43), (1, .int grp), (2, .long db), (4, .long ms), (6, .long lo), (8, .long hi), (10, .long mi), (12, .long (it (pyB grp) k (S, m0)).2), (14, .int (nI k))] [] (hC (it (pyB grp) k (S, m0)).1) (RV (it (pyB grp) n (S, m0)).1) := by
    refine loop_up n ?_ ?_
    · have hs := hse n
      refine ev_iload (pc := 285) dX10_stand_285 rfl ?_
      refine ev_aload_n (pc := 287) dX10_stand_287 rfl ?_
      refine get_MO_farmers (pc := 288) dX10_stand_288 Fl_X10_129 hs ?_
      refine ev_icmp_geN (pc := 291) (tgt := 357) (by omega) (by omega) dX10_stand_291 (by decide) (fun cq291 => ?_) (fun cq291 => absurd (Nat.le_refl n) cq291)
      exact ev_ret (pc := 357) dX10_stand_357 rfl rv
    · intro k hk ih
      exact py_step _ k _ hk hn (hse k) ih
  exact L 0 (Nat.zero_le _)
theorem c_X10_stand {grp : Int32} {n : Nat} (hs : S.1 22 = nI n) (hn : n ≤ 40) (hc : ∀ k, k < n → (S.2.2.2.1 14 k).toInt < 2 ^ 61) : Ct g mX10_stand [.ref 43, .int grp] (hC S) (RV (standM grp n S)) := by
  refine ct_of rfl rfl ?_
  refine sd_db hs hn _ ?_
  have hm0 := msF_nn (S.2.1 24) (S.2.2.2.1 14) grp n
  have hm1 := msF_lt (S.2.1 24) (S.2.2.2.1 14) grp n hc
  have hm2 : (msF (S.2.1 24) (S.2.2.2.1 14) grp n).toInt.toNat < 2 ^ 61 := by omega
  have he := i64_lN hm0
  unfold standM
  unfold lowM
  have hy := fun lo db ms hi m0 => sd_py (g := g) (S := (it (gvB grp lo) n (S, m0, 0)).1) (grp := grp) (db := db) (ms := ms) (lo := lo) (hi := hi) (mi := (it (gvB grp lo) n (S, m0, 0)).2.1) (m0 := (it (gvB grp lo) n (S, m0, 0)).2.2) (n := n) (by rw [(gvB_eqs grp lo n (S, m0, 0)).1]; exact hs) hn
  have hz : ∀ (lo db ms hi m0 : Int64), Ev g mX10_stand 282 [(0, .ref 43), (1, .int grp), (2, .long db), (4, .long ms), (6, .long lo), (8, .long hi), (10, .long (it (gvB grp lo) n (S, m0, 0)).2.1), (12, .long (it (gvB grp lo) n (S, m0, 0)).2.2)] [] (hC (it (gvB grp lo) n (S, m0, 0)).1) (RV (it (pyB grp) n ((it (gvB grp lo) n (S, m0, 0)).1, (it (gvB grp lo) n (S, m0, 0)).2.2)).1) := by
    intro lo db ms hi m0
    refine ev_iconst (pc := 282) (v := nI 0) dX10_stand_282 (by decide) ?_
    refine ev_istore (pc := 283) (lv' := [(0, .ref 43), (1, .int _), (2, .long _), (4, .long _), (6, .long _), (8, .long _), (10, .long _), (12, .long _), (14, .int _)]) dX10_stand_283 (Nat.le_of_ble_eq_true rfl) rfl ?_
    exact hy lo db ms hi m0
  have hb := sd_bs (g := g) (grp := grp) (db := dbF (S.2.1 24) (S.2.2.2.1 16) grp n) (ms := msF (S.2.1 24) (S.2.2.2.1 14) grp n) hs hn (RV (it (pyB grp) n ((it (gvB grp (lN (bsN (fun z => gaF (S.2.1 24) (S.2.2.2.1 14) grp z n) (dbF (S.2.1 24) (S.2.2.2.1 16) grp n) 62 0 ((msF (S.2.1 24) (S.2.2.2.1 14) grp n).toInt.toNat + 1)))) n (S, dbF (S.2.1 24) (S.2.2.2.1 16) grp n - gaF (S.2.1 24) (S.2.2.2.1 14) grp (lN (bsN (fun z => gaF (S.2.1 24) (S.2.2.2.1 14) grp z n) (dbF (S.2.1 24) (S.2.2.2.1 16) grp n) 62 0 ((msF (S.2.1 24) (S.2.2.2.1 14) grp n).toInt.toNat + 1))) n, 0)).1, (it (gvB grp (lN (bsN (fun z => gaF (S.2.1 24) (S.2.2.2.1 14) grp z n) (dbF (S.2.1 24) (S.2.2.2.1 16) grp n) 62 0 ((msF (S.2.1 24) (S.2.2.2.1 14) grp n).toInt.toNat + 1)))) n (S, dbF (S.2.1 24) (S.2.2.2.1 16) grp n - gaF (S.2.1 24) (S.2.2.2.1 14) grp (lN (bsN (fun z => gaF (S.2.1 24) (S.2.2.2.1 14) grp z n) (dbF (S.2.1 24) (S.2.2.2.1 16) grp n) 62 0 ((msF (S.2.1 24) (S.2.2.2.1 14) grp n).toInt.toNat + 1))) n, 0)).2.2)).1) 62 0 ((msF (S.2.1 24) (S.2.2.2.1 14) grp n).toInt.toNat + 1) (by omega) (by omega) (by omega)
  refine ev_lconst (pc := 86) (v := 0) dX10_stand_86 (by decide) ?_
  refine ev_lstore (pc := 87) (lv' := [(0, .ref 43), (1, .int _), (2, .long _), (4, .long _), (6, .long _)]) dX10_stand_87 (Nat.le_of_ble_eq_true rfl) rfl ?_
  refine ev_lload (pc := 89) dX10_stand_89 rfl ?_
  refine ev_lconst (pc := 91) (v := 1) dX10_stand_91 (by decide) ?_
  refine ev_ladd (pc := 92) dX10_stand_92 ?_
  have e1 : msF (S.2.1 24) (S.2.2.2.1 14) grp n + 1 = lN ((msF (S.2.1 24) (S.2.2.2.1 14) grp n).toInt.toNat + 1) := by rw [← lN_1, ← he]
  rw [e1]
  refine ev_lstore (pc := 93) (lv' := [(0, .ref 43), (1, .int _), (2, .long _), (4, .long _), (6, .long _), (8, .long _)]) dX10_stand_93 (Nat.le_of_ble_eq_true rfl) rfl ?_
  refine hb ?_
  intro hi
  refine ev_lload_n (pc := 142) dX10_stand_142 rfl ?_
  refine ev_aload_n (pc := 143) dX10_stand_143 rfl ?_
  refine ev_iload_n (pc := 144) dX10_stand_144 rfl ?_
  refine ev_lload (pc := 145) dX10_stand_145 rfl ?_
  refine callV2L (pc := 147) dX10_stand_147 Ml_X10_245 M_X10_givenAt rfl rfl rfl rfl (c_X10_givenAt hs hn) ?_
  refine ev_lsub (pc := 150) dX10_stand_150 ?_
  refine ev_lstore (pc := 151) (lv' := [(0, .ref 43), (1, .int _), (2, .long _), (4, .long _), (6, .long _), (8, .long _), (10, .long _)]) dX10_stand_151 (Nat.le_of_ble_eq_true rfl) rfl ?_
  refine ev_lconst (pc := 153) (v := 0) dX10_stand_153 (by decide) ?_
  refine ev_lstore (pc := 154) (lv' := [(0, .ref 43), (1, .int _), (2, .long _), (4, .long _), (6, .long _), (8, .long _), (10, .long _), (12, .long _)]) dX10_stand_154 (Nat.le_of_ble_eq_true rfl) rfl ?_
  refine ev_iconst (pc := 156) (v := nI 0) dX10_stand_156 (by decide) ?_
  refine ev_istore (pc := 157) (lv' := [(0, .ref 43), (1, .int _), (2, .long _), (4, .long _), (6, .long _), (8, .long _), (10, .long _), (12, .long _), (14, .int _)]) dX10_stand_157 (Nat.le_of_ble_eq_true rfl) rfl ?_
  exact sd_gv hs hn _ (hz _ _ _ _ _)
end MO6
