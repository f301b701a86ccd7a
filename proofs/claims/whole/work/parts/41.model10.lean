section MO10
variable {g : GG} {S : St}
theorem c_widenL {m nv lo hi s n : Nat} (hV : Vm S nv) (hm : S.1 38 = nI m) (hm2 : m ≤ 17) (h1 : lo ≤ hi) (h2 : hi < m) (h3 : s < 2) (h4 : n ≤ 16) : Ct g mX10_widen [.ref 43, .int (nI lo), .int (nI hi), .int (nI s), .int (nI n), .int (nI lo - 1), .int (nI hi)] (hC S) (RV (wdL nv lo hi s n S)) := by
  have ha := at_lt (lo := lo) (hi := hi) (s := s) (n := n) (by omega) (by omega) h3 h4
  unfold wdL
  cases lo with
  | zero =>
    refine ct_of rfl rfl ?_
    refine ev_aload_n (pc := 0) dX10_widen_0 rfl ?_
    refine get_MO_early (pc := 1) dX10_widen_1 Fl_X10_114 ?_
    refine ev_iload_n (pc := 4) dX10_widen_4 rfl ?_
    refine ev_iload_n (pc := 5) dX10_widen_5 rfl ?_
    refine ev_iload_n (pc := 6) dX10_widen_6 rfl ?_
    refine ev_iload (pc := 7) dX10_widen_7 rfl ?_
    refine callS4I (pc := 9) dX10_widen_9 Ml_X10_274 M_X10_at rfl rfl c_X10_at ?_
    refine ldN_MO_early (pc := 12) dX10_widen_12 (by omega) rfl ?_
    refine ev_istore (pc := 13) (lv' := [(0, .ref 43), (1, .int _), (2, .int _), (3, .int _), (4, .int _), (5, .int _), (6, .int _), (7, .int _)]) dX10_widen_13 (Nat.le_of_ble_eq_true rfl) rfl ?_
    refine ev_iload (pc := 15) dX10_widen_15 rfl ?_
    refine ev_iload_n (pc := 17) dX10_widen_17 rfl ?_
    refine ev_icmp_ge (pc := 18) (tgt := 26) dX10_widen_18 (by decide) (fun cq18 => absurd cq18 (by decide)) (fun cq18 => ?_)
    refine ev_iload (pc := 21) dX10_widen_21 rfl ?_
    refine ev_goto (pc := 23) (tgt := 28) dX10_widen_23 (by decide) ?_
    refine ev_istore (pc := 28) (lv' := [(0, .ref 43), (1, .int _), (2, .int _), (3, .int _), (4, .int _), (5, .int _), (6, .int _), (7, .int _), (8, .int _)]) dX10_widen_28 (Nat.le_of_ble_eq_true rfl) rfl ?_
    refine ev_iload (pc := 30) dX10_widen_30 rfl ?_
    refine ev_ldcw (pc := 32) dX10_widen_32 Cn_X10_278 ?_
    refine ev_icmp_eq (pc := 35) (tgt := 52) dX10_widen_35 (by decide) (fun cq35 => ?_) (fun cq35 => ?_)
    · rw [if_pos cq35]
      exact ev_ret (pc := 52) dX10_widen_52 rfl rv
    · rw [if_neg cq35, if_pos rfl]
      refine ev_iload (pc := 38) dX10_widen_38 rfl ?_
      refine ev_if_lt (pc := 40) (tgt := 52) dX10_widen_40 (by decide) (fun cq40 => ?_) (fun cq40 => absurd (by decide) cq40)
      exact ev_ret (pc := 52) dX10_widen_52 rfl rv
  | succ k =>
    have hmt := fun p h => mtF_le (S.2.1 25) (S.2.1 44) (S.2.1 45) p h nv
    have hnv := hV.2.1
    have ha2 : ∀ p h, atN k hi 0 (n + mtF (S.2.1 25) (S.2.1 44) (S.2.1 45) p h nv) < 9826 := fun p h => at_lt2 (by omega) (by omega) (by omega) (by have := hmt p h; omega)
    rw [nI_pred]
    refine ct_of rfl rfl ?_
    refine ev_aload_n (pc := 0) dX10_widen_0 rfl ?_
    refine get_MO_early (pc := 1) dX10_widen_1 Fl_X10_114 ?_
    refine ev_iload_n (pc := 4) dX10_widen_4 rfl ?_
    refine ev_iload_n (pc := 5) dX10_widen_5 rfl ?_
    refine ev_iload_n (pc := 6) dX10_widen_6 rfl ?_
    refine ev_iload (pc := 7) dX10_widen_7 rfl ?_
    refine callS4I (pc := 9) dX10_widen_9 Ml_X10_274 M_X10_at rfl rfl c_X10_at ?_
    refine ldN_MO_early (pc := 12) dX10_widen_12 (by omega) rfl ?_
    refine ev_istore (pc := 13) (lv' := [(0, .ref 43), (1, .int _), (2, .int _), (3, .int _), (4, .int _), (5, .int _), (6, .int _), (7, .int _)]) dX10_widen_13 (Nat.le_of_ble_eq_true rfl) rfl ?_
    refine ev_iload (pc := 15) dX10_widen_15 rfl ?_
    refine ev_iload_n (pc := 17) dX10_widen_17 rfl ?_
    refine ev_icmp_geN (pc := 18) (tgt := 26) (by omega) (by omega) dX10_widen_18 (by decide) (fun cq18 => absurd cq18 (by omega)) (fun cq18 => ?_)
    refine ev_iload (pc := 21) dX10_widen_21 rfl ?_
    refine ev_goto (pc := 23) (tgt := 28) dX10_widen_23 (by decide) ?_
    refine ev_istore (pc := 28) (lv' := [(0, .ref 43), (1, .int _), (2, .int _), (3, .int _), (4, .int _), (5, .int _), (6, .int _), (7, .int _), (8, .int _)]) dX10_widen_28 (Nat.le_of_ble_eq_true rfl) rfl ?_
    refine ev_iload (pc := 30) dX10_widen_30 rfl ?_
    refine ev_ldcw (pc := 32) dX10_widen_32 Cn_X10_278 ?_
    refine ev_icmp_eq (pc := 35) (tgt := 52) dX10_widen_35 (by decide) (fun cq35 => ?_) (fun cq35 => ?_)
    · rw [if_pos cq35]
      exact ev_ret (pc := 52) dX10_widen_52 rfl rv
    · rw [if_neg cq35, if_neg (by omega)]
      unfold wdT absI
      dsimp only
      simp only [Nat.add_sub_cancel]
      refine ev_iload (pc := 38) dX10_widen_38 rfl ?_
      refine ev_if_lt (pc := 40) (tgt := 52) dX10_widen_40 (by decide) (fun cq40 => absurd cq40 (nI_pos (by omega))) (fun cq40 => ?_)
      refine ev_iload (pc := 43) dX10_widen_43 rfl ?_
      refine ev_aload_n (pc := 45) dX10_widen_45 rfl ?_
      refine get_MO_places (pc := 46) dX10_widen_46 Fl_X10_271 hm ?_
      refine ev_icmp_neN (pc := 49) (tgt := 53) (by omega) (by omega) dX10_widen_49 (by decide) (fun cq49 => ?_) (fun cq49 => absurd cq49 (by omega))
      refine ev_aload_n (pc := 53) dX10_widen_53 rfl ?_
      refine get_MO_place (pc := 54) dX10_widen_54 Fl_X10_111 ?_
      refine ev_iload (pc := 57) dX10_widen_57 rfl ?_
      refine ldN_MO_place (pc := 59) dX10_widen_59 (by omega) rfl ?_
      refine ev_aload_n (pc := 60) dX10_widen_60 rfl ?_
      refine get_MO_place (pc := 61) dX10_widen_61 Fl_X10_111 ?_
      refine ev_iload_n (pc := 64) dX10_widen_64 rfl ?_
      refine ev_if_neN (pc := 65) (tgt := 72) (by omega) dX10_widen_65 (by decide) (fun cq65 => ?_) (fun cq65 => ?_)
      · simp only [if_neg cq65]
        refine ev_iload_n (pc := 72) dX10_widen_72 rfl ?_
        refine ldN_MO_place (pc := 73) dX10_widen_73 (by omega) rfl ?_
        refine ev_isub (pc := 74) dX10_widen_74 ?_
        refine ev_istore (pc := 75) (lv' := [(0, .ref 43), (1, .int _), (2, .int _), (3, .int _), (4, .int _), (5, .int _), (6, .int _), (7, .int _), (8, .int _), (9, .int _)]) dX10_widen_75 (Nat.le_of_ble_eq_true rfl) rfl ?_
        refine ev_iload (pc := 77) dX10_widen_77 rfl ?_
        refine ev_iload (pc := 79) dX10_widen_79 rfl ?_
        refine ev_if_ge (pc := 81) (tgt := 90) dX10_widen_81 (by decide) (fun cq81 => ?_) (fun cq81 => ?_)
        · simp only [if_pos cq81]
          refine ev_iload (pc := 90) dX10_widen_90 rfl ?_
          refine ev_iadd (pc := 92) dX10_widen_92 ?_
          refine ev_istore (pc := 93) (lv' := [(0, .ref 43), (1, .int _), (2, .int _), (3, .int _), (4, .int _), (5, .int _), (6, .int _), (7, .int _), (8, .int _), (9, .int _), (10, .int _)]) dX10_widen_93 (Nat.le_of_ble_eq_true rfl) rfl ?_
          refine ev_iload (pc := 95) dX10_widen_95 rfl ?_
          refine ev_iload (pc := 97) dX10_widen_97 rfl ?_
          refine ev_iload (pc := 99) dX10_widen_99 rfl ?_
          refine ev_iload_n (pc := 101) dX10_widen_101 rfl ?_
          refine ev_icmp_geN (pc := 102) (tgt := 109) (by omega) (by omega) dX10_widen_102 (by decide) (fun cq102 => absurd cq102 (by omega)) (fun cq102 => ?_)
          refine ev_iconst (pc := 105) (v := nI 0) dX10_widen_105 (by decide) ?_
          refine ev_goto (pc := 106) (tgt := 110) dX10_widen_106 (by decide) ?_
          refine ev_iload (pc := 110) dX10_widen_110 rfl ?_
          refine ev_aload_n (pc := 112) dX10_widen_112 rfl ?_
          refine ev_aload_n (pc := 113) dX10_widen_113 rfl ?_
          refine get_MO_place (pc := 114) dX10_widen_114 Fl_X10_111 ?_
          refine ev_iload (pc := 117) dX10_widen_117 rfl ?_
          refine ldN_MO_place (pc := 119) dX10_widen_119 (by omega) rfl ?_
          refine ev_iload (pc := 120) dX10_widen_120 rfl ?_
          refine callV2I (pc := 122) dX10_widen_122 Ml_X10_279 M_X10_metAt rfl rfl rfl rfl (c_X10_metAt hV) ?_
          refine ev_iadd (pc := 125) dX10_widen_125 ?_
          rw [nI_add]
          refine callS4I (pc := 126) dX10_widen_126 Ml_X10_274 M_X10_at rfl rfl c_X10_at ?_
          refine ev_istore (pc := 129) (lv' := [(0, .ref 43), (1, .int _), (2, .int _), (3, .int _), (4, .int _), (5, .int _), (6, .int _), (7, .int _), (8, .int _), (9, .int _), (10, .int _), (11, .int _)]) dX10_widen_129 (Nat.le_of_ble_eq_true rfl) rfl ?_
          refine ev_aload_n (pc := 131) dX10_widen_131 rfl ?_
          refine get_MO_early (pc := 132) dX10_widen_132 Fl_X10_114 ?_
          refine ev_iload (pc := 135) dX10_widen_135 rfl ?_
          refine ev_iload (pc := 137) dX10_widen_137 rfl ?_
          refine ev_aload_n (pc := 139) dX10_widen_139 rfl ?_
          refine get_MO_early (pc := 140) dX10_widen_140 Fl_X10_114 ?_
          refine ev_iload (pc := 143) dX10_widen_143 rfl ?_
          refine ldN_MO_early (pc := 145) dX10_widen_145 (ha2 _ _) rfl ?_
          refine ev_icmp_ge (pc := 146) (tgt := 154) dX10_widen_146 (by decide) (fun cq146 => ?_) (fun cq146 => ?_)
          · simp only [if_pos cq146]
            refine ev_aload_n (pc := 154) dX10_widen_154 rfl ?_
            refine get_MO_early (pc := 155) dX10_widen_155 Fl_X10_114 ?_
            refine ev_iload (pc := 158) dX10_widen_158 rfl ?_
            refine ldN_MO_early (pc := 160) dX10_widen_160 (ha2 _ _) rfl ?_
            refine asN_MO_early (pc := 161) dX10_widen_161 (ha2 _ _) ?_
            exact ev_ret (pc := 162) dX10_widen_162 rfl rv
          · simp only [if_neg cq146]
            refine ev_iload (pc := 149) dX10_widen_149 rfl ?_
            refine ev_goto (pc := 151) (tgt := 161) dX10_widen_151 (by decide) ?_
            refine asN_MO_early (pc := 161) dX10_widen_161 (ha2 _ _) ?_
            exact ev_ret (pc := 162) dX10_widen_162 rfl rv
        · simp only [if_neg cq81]
          refine ev_iload (pc := 84) dX10_widen_84 rfl ?_
          refine ev_ineg (pc := 86) dX10_widen_86 ?_
          refine ev_goto (pc := 87) (tgt := 92) dX10_widen_87 (by decide) ?_
          refine ev_iadd (pc := 92) dX10_widen_92 ?_
          refine ev_istore (pc := 93) (lv' := [(0, .ref 43), (1, .int _), (2, .int _), (3, .int _), (4, .int _), (5, .int _), (6, .int _), (7, .int _), (8, .int _), (9, .int _), (10, .int _)]) dX10_widen_93 (Nat.le_of_ble_eq_true rfl) rfl ?_
          refine ev_iload (pc := 95) dX10_widen_95 rfl ?_
          refine ev_iload (pc := 97) dX10_widen_97 rfl ?_
          refine ev_iload (pc := 99) dX10_widen_99 rfl ?_
          refine ev_iload_n (pc := 101) dX10_widen_101 rfl ?_
          refine ev_icmp_geN (pc := 102) (tgt := 109) (by omega) (by omega) dX10_widen_102 (by decide) (fun cq102 => absurd cq102 (by omega)) (fun cq102 => ?_)
          refine ev_iconst (pc := 105) (v := nI 0) dX10_widen_105 (by decide) ?_
          refine ev_goto (pc := 106) (tgt := 110) dX10_widen_106 (by decide) ?_
          refine ev_iload (pc := 110) dX10_widen_110 rfl ?_
          refine ev_aload_n (pc := 112) dX10_widen_112 rfl ?_
          refine ev_aload_n (pc := 113) dX10_widen_113 rfl ?_
          refine get_MO_place (pc := 114) dX10_widen_114 Fl_X10_111 ?_
          refine ev_iload (pc := 117) dX10_widen_117 rfl ?_
          refine ldN_MO_place (pc := 119) dX10_widen_119 (by omega) rfl ?_
          refine ev_iload (pc := 120) dX10_widen_120 rfl ?_
          refine callV2I (pc := 122) dX10_widen_122 Ml_X10_279 M_X10_metAt rfl rfl rfl rfl (c_X10_metAt hV) ?_
          refine ev_iadd (pc := 125) dX10_widen_125 ?_
          rw [nI_add]
          refine callS4I (pc := 126) dX10_widen_126 Ml_X10_274 M_X10_at rfl rfl c_X10_at ?_
          refine ev_istore (pc := 129) (lv' := [(0, .ref 43), (1, .int _), (2, .int _), (3, .int _), (4, .int _), (5, .int _), (6, .int _), (7, .int _), (8, .int _), (9, .int _), (10, .int _), (11, .int _)]) dX10_widen_129 (Nat.le_of_ble_eq_true rfl) rfl ?_
          refine ev_aload_n (pc := 131) dX10_widen_131 rfl ?_
          refine get_MO_early (pc := 132) dX10_widen_132 Fl_X10_114 ?_
          refine ev_iload (pc := 135) dX10_widen_135 rfl ?_
          refine ev_iload (pc := 137) dX10_widen_137 rfl ?_
          refine ev_aload_n (pc := 139) dX10_widen_139 rfl ?_
          refine get_MO_early (pc := 140) dX10_widen_140 Fl_X10_114 ?_
          refine ev_iload (pc := 143) dX10_widen_143 rfl ?_
          refine ldN_MO_early (pc := 145) dX10_widen_145 (ha2 _ _) rfl ?_
          refine ev_icmp_ge (pc := 146) (tgt := 154) dX10_widen_146 (by decide) (fun cq146 => ?_) (fun cq146 => ?_)
          · simp only [if_pos cq146]
            refine ev_aload_n (pc := 154) dX10_widen_154 rfl ?_
            refine get_MO_early (pc := 155) dX10_widen_155 Fl_X10_114 ?_
            refine ev_iload (pc := 158) dX10_widen_158 rfl ?_
            refine ldN_MO_early (pc := 160) dX10_widen_160 (ha2 _ _) rfl ?_
            refine asN_MO_early (pc := 161) dX10_widen_161 (ha2 _ _) ?_
            exact ev_ret (pc := 162) dX10_widen_162 rfl rv
          · simp only [if_neg cq146]
            refine ev_iload (pc := 149) dX10_widen_149 rfl ?_
            refine ev_goto (pc := 151) (tgt := 161) dX10_widen_151 (by decide) ?_
            refine asN_MO_early (pc := 161) dX10_widen_161 (ha2 _ _) ?_
            exact ev_ret (pc := 162) dX10_widen_162 rfl rv
      · simp only [if_pos cq65]
        refine ev_iload_n (pc := 68) dX10_widen_68 rfl ?_
        refine ev_goto (pc := 69) (tgt := 73) dX10_widen_69 (by decide) ?_
        refine ldN_MO_place (pc := 73) dX10_widen_73 (by omega) rfl ?_
        refine ev_isub (pc := 74) dX10_widen_74 ?_
        refine ev_istore (pc := 75) (lv' := [(0, .ref 43), (1, .int _), (2, .int _), (3, .int _), (4, .int _), (5, .int _), (6, .int _), (7, .int _), (8, .int _), (9, .int _)]) dX10_widen_75 (Nat.le_of_ble_eq_true rfl) rfl ?_
        refine ev_iload (pc := 77) dX10_widen_77 rfl ?_
        refine ev_iload (pc := 79) dX10_widen_79 rfl ?_
        refine ev_if_ge (pc := 81) (tgt := 90) dX10_widen_81 (by decide) (fun cq81 => ?_) (fun cq81 => ?_)
        · simp only [if_pos cq81]
          refine ev_iload (pc := 90) dX10_widen_90 rfl ?_
          refine ev_iadd (pc := 92) dX10_widen_92 ?_
          refine ev_istore (pc := 93) (lv' := [(0, .ref 43), (1, .int _), (2, .int _), (3, .int _), (4, .int _), (5, .int _), (6, .int _), (7, .int _), (8, .int _), (9, .int _), (10, .int _)]) dX10_widen_93 (Nat.le_of_ble_eq_true rfl) rfl ?_
          refine ev_iload (pc := 95) dX10_widen_95 rfl ?_
          refine ev_iload (pc := 97) dX10_widen_97 rfl ?_
          refine ev_iload (pc := 99) dX10_widen_99 rfl ?_
          refine ev_iload_n (pc := 101) dX10_widen_101 rfl ?_
          refine ev_icmp_geN (pc := 102) (tgt := 109) (by omega) (by omega) dX10_widen_102 (by decide) (fun cq102 => absurd cq102 (by omega)) (fun cq102 => ?_)
          refine ev_iconst (pc := 105) (v := nI 0) dX10_widen_105 (by decide) ?_
          refine ev_goto (pc := 106) (tgt := 110) dX10_widen_106 (by decide) ?_
          refine ev_iload (pc := 110) dX10_widen_110 rfl ?_
          refine ev_aload_n (pc := 112) dX10_widen_112 rfl ?_
          refine ev_aload_n (pc := 113) dX10_widen_113 rfl ?_
          refine get_MO_place (pc := 114) dX10_widen_114 Fl_X10_111 ?_
          refine ev_iload (pc := 117) dX10_widen_117 rfl ?_
          refine ldN_MO_place (pc := 119) dX10_widen_119 (by omega) rfl ?_
          refine ev_iload (pc := 120) dX10_widen_120 rfl ?_
          refine callV2I (pc := 122) dX10_widen_122 Ml_X10_279 M_X10_metAt rfl rfl rfl rfl (c_X10_metAt hV) ?_
          refine ev_iadd (pc := 125) dX10_widen_125 ?_
          rw [nI_add]
          refine callS4I (pc := 126) dX10_widen_126 Ml_X10_274 M_X10_at rfl rfl c_X10_at ?_
          refine ev_istore (pc := 129) (lv' := [(0, .ref 43), (1, .int _), (2, .int _), (3, .int _), (4, .int _), (5, .int _), (6, .int _), (7, .int _), (8, .int _), (9, .int _), (10, .int _), (11, .int _)]) dX10_widen_129 (Nat.le_of_ble_eq_true rfl) rfl ?_
          refine ev_aload_n (pc := 131) dX10_widen_131 rfl ?_
          refine get_MO_early (pc := 132) dX10_widen_132 Fl_X10_114 ?_
          refine ev_iload (pc := 135) dX10_widen_135 rfl ?_
          refine ev_iload (pc := 137) dX10_widen_137 rfl ?_
          refine ev_aload_n (pc := 139) dX10_widen_139 rfl ?_
          refine get_MO_early (pc := 140) dX10_widen_140 Fl_X10_114 ?_
          refine ev_iload (pc := 143) dX10_widen_143 rfl ?_
          refine ldN_MO_early (pc := 145) dX10_widen_145 (ha2 _ _) rfl ?_
          refine ev_icmp_ge (pc := 146) (tgt := 154) dX10_widen_146 (by decide) (fun cq146 => ?_) (fun cq146 => ?_)
          · simp only [if_pos cq146]
            refine ev_aload_n (pc := 154) dX10_widen_154 rfl ?_
            refine get_MO_early (pc := 155) dX10_widen_155 Fl_X10_114 ?_
            refine ev_iload (pc := 158) dX10_widen_158 rfl ?_
            refine ldN_MO_early (pc := 160) dX10_widen_160 (ha2 _ _) rfl ?_
            refine asN_MO_early (pc := 161) dX10_widen_161 (ha2 _ _) ?_
            exact ev_ret (pc := 162) dX10_widen_162 rfl rv
          · simp only [if_neg cq146]
            refine ev_iload (pc := 149) dX10_widen_149 rfl ?_
            refine ev_goto (pc := 151) (tgt := 161) dX10_widen_151 (by decide) ?_
            refine asN_MO_early (pc := 161) dX10_widen_161 (ha2 _ _) ?_
            exact ev_ret (pc := 162) dX10_widen_162 rfl rv
        · simp only [if_neg cq81]
          refine ev_iload (pc := 84) dX10_widen_84 rfl ?_
          refine ev_ineg (pc := 86) dX10_widen_86 ?_
          refine ev_goto (pc := 87) (tgt := 92) dX10_widen_87 (by decide) ?_
          refine ev_iadd (pc := 92) dX10_widen_92 ?_
          refine ev_istore (pc := 93) (lv' := [(0, .ref 43), (1, .int _), (2, .int _), (3, .int _), (4, .int _), (5, .int _), (6, .int _), (7, .int _), (8, .int _), (9, .int _), (10, .int _)]) dX10_widen_93 (Nat.le_of_ble_eq_true rfl) rfl ?_
          refine ev_iload (pc := 95) dX10_widen_95 rfl ?_
          refine ev_iload (pc := 97) dX10_widen_97 rfl ?_
          refine ev_iload (pc := 99) dX10_widen_99 rfl ?_
          refine ev_iload_n (pc := 101) dX10_widen_101 rfl ?_
          refine ev_icmp_geN (pc := 102) (tgt := 109) (by omega) (by omega) dX10_widen_102 (by decide) (fun cq102 => absurd cq102 (by omega)) (fun cq102 => ?_)
          refine ev_iconst (pc := 105) (v := nI 0) dX10_widen_105 (by decide) ?_
          refine ev_goto (pc := 106) (tgt := 110) dX10_widen_106 (by decide) ?_
          refine ev_iload (pc := 110) dX10_widen_110 rfl ?_
          refine ev_aload_n (pc := 112) dX10_widen_112 rfl ?_
          refine ev_aload_n (pc := 113) dX10_widen_113 rfl ?_
          refine get_MO_place (pc := 114) dX10_widen_114 Fl_X10_111 ?_
          refine ev_iload (pc := 117) dX10_widen_117 rfl ?_
          refine ldN_MO_place (pc := 119) dX10_widen_119 (by omega) rfl ?_
          refine ev_iload (pc := 120) dX10_widen_120 rfl ?_
          refine callV2I (pc := 122) dX10_widen_122 Ml_X10_279 M_X10_metAt rfl rfl rfl rfl (c_X10_metAt hV) ?_
          refine ev_iadd (pc := 125) dX10_widen_125 ?_
          rw [nI_add]
          refine callS4I (pc := 126) dX10_widen_126 Ml_X10_274 M_X10_at rfl rfl c_X10_at ?_
          refine ev_istore (pc := 129) (lv' := [(0, .ref 43), (1, .int _), (2, .int _), (3, .int _), (4, .int _), (5, .int _), (6, .int _), (7, .int _), (8, .int _), (9, .int _), (10, .int _), (11, .int _)]) dX10_widen_129 (Nat.le_of_ble_eq_true rfl) rfl ?_
          refine ev_aload_n (pc := 131) dX10_widen_131 rfl ?_
          refine get_MO_early (pc := 132) dX10_widen_132 Fl_X10_114 ?_
          refine ev_iload (pc := 135) dX10_widen_135 rfl ?_
          refine ev_iload (pc := 137) dX10_widen_137 rfl ?_
          refine ev_aload_n (pc := 139) dX10_widen_139 rfl ?_
          refine get_MO_early (pc := 140) dX10_widen_140 Fl_X10_114 ?_
          refine ev_iload (pc := 143) dX10_widen_143 rfl ?_
          refine ldN_MO_early (pc := 145) dX10_widen_145 (ha2 _ _) rfl ?_
          refine ev_icmp_ge (pc := 146) (tgt := 154) dX10_widen_146 (by decide) (fun cq146 => ?_) (fun cq146 => ?_)
          · simp only [if_pos cq146]
            refine ev_aload_n (pc := 154) dX10_widen_154 rfl ?_
            refine get_MO_early (pc := 155) dX10_widen_155 Fl_X10_114 ?_
            refine ev_iload (pc := 158) dX10_widen_158 rfl ?_
            refine ldN_MO_early (pc := 160) dX10_widen_160 (ha2 _ _) rfl ?_
            refine asN_MO_early (pc := 161) dX10_widen_161 (ha2 _ _) ?_
            exact ev_ret (pc := 162) dX10_widen_162 rfl rv
          · simp only [if_neg cq146]
            refine ev_iload (pc := 149) dX10_widen_149 rfl ?_
            refine ev_goto (pc := 151) (tgt := 161) dX10_widen_151 (by decide) ?_
            refine asN_MO_early (pc := 161) dX10_widen_161 (ha2 _ _) ?_
            exact ev_ret (pc := 162) dX10_widen_162 rfl rv
theorem c_widenR {m nv lo hi s n : Nat} (hV : Vm S nv) (hm : S.1 38 = nI m) (hm2 : m ≤ 17) (h1 : lo ≤ hi) (h2 : hi < m) (h3 : s < 2) (h4 : n ≤ 16) : Ct g mX10_widen [.ref 43, .int (nI lo), .int (nI hi), .int (nI s), .int (nI n), .int (nI lo), .int (nI (hi + 1))] (hC S) (RV (wdR m nv lo hi s n S)) := by
  have ha := at_lt (lo := lo) (hi := hi) (s := s) (n := n) (by omega) (by omega) h3 h4
  have hmt := fun p h => mtF_le (S.2.1 25) (S.2.1 44) (S.2.1 45) p h nv
  have hnv := hV.2.1
  have ha2 : ¬ hi + 1 = m → ∀ p h, atN lo (hi + 1) 1 (n + mtF (S.2.1 25) (S.2.1 44) (S.2.1 45) p h nv) < 9826 := fun hq p h => at_lt2 (by omega) (by omega) (by omega) (by have := hmt p h; omega)
  unfold wdR
  refine ct_of rfl rfl ?_
  refine ev_aload_n (pc := 0) dX10_widen_0 rfl ?_
  refine get_MO_early (pc := 1) dX10_widen_1 Fl_X10_114 ?_
  refine ev_iload_n (pc := 4) dX10_widen_4 rfl ?_
  refine ev_iload_n (pc := 5) dX10_widen_5 rfl ?_
  refine ev_iload_n (pc := 6) dX10_widen_6 rfl ?_
  refine ev_iload (pc := 7) dX10_widen_7 rfl ?_
  refine callS4I (pc := 9) dX10_widen_9 Ml_X10_274 M_X10_at rfl rfl c_X10_at ?_
  refine ldN_MO_early (pc := 12) dX10_widen_12 (by omega) rfl ?_
  refine ev_istore (pc := 13) (lv' := [(0, .ref 43), (1, .int _), (2, .int _), (3, .int _), (4, .int _), (5, .int _), (6, .int _), (7, .int _)]) dX10_widen_13 (Nat.le_of_ble_eq_true rfl) rfl ?_
  refine ev_iload (pc := 15) dX10_widen_15 rfl ?_
  refine ev_iload_n (pc := 17) dX10_widen_17 rfl ?_
  refine ev_icmp_geN (pc := 18) (tgt := 26) (by omega) (by omega) dX10_widen_18 (by decide) (fun cq18 => ?_) (fun cq18 => absurd (Nat.le_refl _) cq18)
  refine ev_iload (pc := 26) dX10_widen_26 rfl ?_
  refine ev_istore (pc := 28) (lv' := [(0, .ref 43), (1, .int _), (2, .int _), (3, .int _), (4, .int _), (5, .int _), (6, .int _), (7, .int _), (8, .int _)]) dX10_widen_28 (Nat.le_of_ble_eq_true rfl) rfl ?_
  refine ev_iload (pc := 30) dX10_widen_30 rfl ?_
  refine ev_ldcw (pc := 32) dX10_widen_32 Cn_X10_278 ?_
  refine ev_icmp_eq (pc := 35) (tgt := 52) dX10_widen_35 (by decide) (fun cq35 => ?_) (fun cq35 => ?_)
  · rw [if_pos cq35]
    exact ev_ret (pc := 52) dX10_widen_52 rfl rv
  · rw [if_neg cq35]
    refine ev_iload (pc := 38) dX10_widen_38 rfl ?_
    refine ev_if_lt (pc := 40) (tgt := 52) dX10_widen_40 (by decide) (fun cq40 => absurd cq40 (nI_pos (by omega))) (fun cq40 => ?_)
    refine ev_iload (pc := 43) dX10_widen_43 rfl ?_
    refine ev_aload_n (pc := 45) dX10_widen_45 rfl ?_
    refine get_MO_places (pc := 46) dX10_widen_46 Fl_X10_271 hm ?_
    refine ev_icmp_neN (pc := 49) (tgt := 53) (by omega) (by omega) dX10_widen_49 (by decide) (fun cq49 => ?_) (fun cq49 => ?_)
    · rw [if_neg cq49]
      unfold wdT absI
      dsimp only
      refine ev_aload_n (pc := 53) dX10_widen_53 rfl ?_
      refine get_MO_place (pc := 54) dX10_widen_54 Fl_X10_111 ?_
      refine ev_iload (pc := 57) dX10_widen_57 rfl ?_
      refine ldN_MO_place (pc := 59) dX10_widen_59 (by omega) rfl ?_
      refine ev_aload_n (pc := 60) dX10_widen_60 rfl ?_
      refine get_MO_place (pc := 61) dX10_widen_61 Fl_X10_111 ?_
      refine ev_iload_n (pc := 64) dX10_widen_64 rfl ?_
      refine ev_if_neN (pc := 65) (tgt := 72) (by omega) dX10_widen_65 (by decide) (fun cq65 => ?_) (fun cq65 => ?_)
      · simp only [if_neg cq65]
        refine ev_iload_n (pc := 72) dX10_widen_72 rfl ?_
        refine ldN_MO_place (pc := 73) dX10_widen_73 (by omega) rfl ?_
        refine ev_isub (pc := 74) dX10_widen_74 ?_
        refine ev_istore (pc := 75) (lv' := [(0, .ref 43), (1, .int _), (2, .int _), (3, .int _), (4, .int _), (5, .int _), (6, .int _), (7, .int _), (8, .int _), (9, .int _)]) dX10_widen_75 (Nat.le_of_ble_eq_true rfl) rfl ?_
        refine ev_iload (pc := 77) dX10_widen_77 rfl ?_
        refine ev_iload (pc := 79) dX10_widen_79 rfl ?_
        refine ev_if_ge (pc := 81) (tgt := 90) dX10_widen_81 (by decide) (fun cq81 => ?_) (fun cq81 => ?_)
        · simp only [if_pos cq81]
          refine ev_iload (pc := 90) dX10_widen_90 rfl ?_
          refine ev_iadd (pc := 92) dX10_widen_92 ?_
          refine ev_istore (pc := 93) (lv' := [(0, .ref 43), (1, .int _), (2, .int _), (3, .int _), (4, .int _), (5, .int _), (6, .int _), (7, .int _), (8, .int _), (9, .int _), (10, .int _)]) dX10_widen_93 (Nat.le_of_ble_eq_true rfl) rfl ?_
          refine ev_iload (pc := 95) dX10_widen_95 rfl ?_
          refine ev_iload (pc := 97) dX10_widen_97 rfl ?_
          refine ev_iload (pc := 99) dX10_widen_99 rfl ?_
          refine ev_iload_n (pc := 101) dX10_widen_101 rfl ?_
          refine ev_icmp_geN (pc := 102) (tgt := 109) (by omega) (by omega) dX10_widen_102 (by decide) (fun cq102 => ?_) (fun cq102 => absurd (Nat.le_refl _) cq102)
          refine ev_iconst (pc := 109) (v := nI 1) dX10_widen_109 (by decide) ?_
          refine ev_iload (pc := 110) dX10_widen_110 rfl ?_
          refine ev_aload_n (pc := 112) dX10_widen_112 rfl ?_
          refine ev_aload_n (pc := 113) dX10_widen_113 rfl ?_
          refine get_MO_place (pc := 114) dX10_widen_114 Fl_X10_111 ?_
          refine ev_iload (pc := 117) dX10_widen_117 rfl ?_
          refine ldN_MO_place (pc := 119) dX10_widen_119 (by omega) rfl ?_
          refine ev_iload (pc := 120) dX10_widen_120 rfl ?_
          refine callV2I (pc := 122) dX10_widen_122 Ml_X10_279 M_X10_metAt rfl rfl rfl rfl (c_X10_metAt hV) ?_
          refine ev_iadd (pc := 125) dX10_widen_125 ?_
          rw [nI_add]
          refine callS4I (pc := 126) dX10_widen_126 Ml_X10_274 M_X10_at rfl rfl c_X10_at ?_
          refine ev_istore (pc := 129) (lv' := [(0, .ref 43), (1, .int _), (2, .int _), (3, .int _), (4, .int _), (5, .int _), (6, .int _), (7, .int _), (8, .int _), (9, .int _), (10, .int _), (11, .int _)]) dX10_widen_129 (Nat.le_of_ble_eq_true rfl) rfl ?_
          refine ev_aload_n (pc := 131) dX10_widen_131 rfl ?_
          refine get_MO_early (pc := 132) dX10_widen_132 Fl_X10_114 ?_
          refine ev_iload (pc := 135) dX10_widen_135 rfl ?_
          refine ev_iload (pc := 137) dX10_widen_137 rfl ?_
          refine ev_aload_n (pc := 139) dX10_widen_139 rfl ?_
          refine get_MO_early (pc := 140) dX10_widen_140 Fl_X10_114 ?_
          refine ev_iload (pc := 143) dX10_widen_143 rfl ?_
          refine ldN_MO_early (pc := 145) dX10_widen_145 (ha2 cq49 _ _) rfl ?_
          refine ev_icmp_ge (pc := 146) (tgt := 154) dX10_widen_146 (by decide) (fun cq146 => ?_) (fun cq146 => ?_)
          · simp only [if_pos cq146]
            refine ev_aload_n (pc := 154) dX10_widen_154 rfl ?_
            refine get_MO_early (pc := 155) dX10_widen_155 Fl_X10_114 ?_
            refine ev_iload (pc := 158) dX10_widen_158 rfl ?_
            refine ldN_MO_early (pc := 160) dX10_widen_160 (ha2 cq49 _ _) rfl ?_
            refine asN_MO_early (pc := 161) dX10_widen_161 (ha2 cq49 _ _) ?_
            exact ev_ret (pc := 162) dX10_widen_162 rfl rv
          · simp only [if_neg cq146]
            refine ev_iload (pc := 149) dX10_widen_149 rfl ?_
            refine ev_goto (pc := 151) (tgt := 161) dX10_widen_151 (by decide) ?_
            refine asN_MO_early (pc := 161) dX10_widen_161 (ha2 cq49 _ _) ?_
            exact ev_ret (pc := 162) dX10_widen_162 rfl rv
        · simp only [if_neg cq81]
          refine ev_iload (pc := 84) dX10_widen_84 rfl ?_
          refine ev_ineg (pc := 86) dX10_widen_86 ?_
          refine ev_goto (pc := 87) (tgt := 92) dX10_widen_87 (by decide) ?_
          refine ev_iadd (pc := 92) dX10_widen_92 ?_
          refine ev_istore (pc := 93) (lv' := [(0, .ref 43), (1, .int _), (2, .int _), (3, .int _), (4, .int _), (5, .int _), (6, .int _), (7, .int _), (8, .int _), (9, .int _), (10, .int _)]) dX10_widen_93 (Nat.le_of_ble_eq_true rfl) rfl ?_
          refine ev_iload (pc := 95) dX10_widen_95 rfl ?_
          refine ev_iload (pc := 97) dX10_widen_97 rfl ?_
          refine ev_iload (pc := 99) dX10_widen_99 rfl ?_
          refine ev_iload_n (pc := 101) dX10_widen_101 rfl ?_
          refine ev_icmp_geN (pc := 102) (tgt := 109) (by omega) (by omega) dX10_widen_102 (by decide) (fun cq102 => ?_) (fun cq102 => absurd (Nat.le_refl _) cq102)
          refine ev_iconst (pc := 109) (v := nI 1) dX10_widen_109 (by decide) ?_
          refine ev_iload (pc := 110) dX10_widen_110 rfl ?_
          refine ev_aload_n (pc := 112) dX10_widen_112 rfl ?_
          refine ev_aload_n (pc := 113) dX10_widen_113 rfl ?_
          refine get_MO_place (pc := 114) dX10_widen_114 Fl_X10_111 ?_
          refine ev_iload (pc := 117) dX10_widen_117 rfl ?_
          refine ldN_MO_place (pc := 119) dX10_widen_119 (by omega) rfl ?_
          refine ev_iload (pc := 120) dX10_widen_120 rfl ?_
          refine callV2I (pc := 122) dX10_widen_122 Ml_X10_279 M_X10_metAt rfl rfl rfl rfl (c_X10_metAt hV) ?_
          refine ev_iadd (pc := 125) dX10_widen_125 ?_
          rw [nI_add]
          refine callS4I (pc := 126) dX10_widen_126 Ml_X10_274 M_X10_at rfl rfl c_X10_at ?_
          refine ev_istore (pc := 129) (lv' := [(0, .ref 43), (1, .int _), (2, .int _), (3, .int _), (4, .int _), (5, .int _), (6, .int _), (7, .int _), (8, .int _), (9, .int _), (10, .int _), (11, .int _)]) dX10_widen_129 (Nat.le_of_ble_eq_true rfl) rfl ?_
          refine ev_aload_n (pc := 131) dX10_widen_131 rfl ?_
          refine get_MO_early (pc := 132) dX10_widen_132 Fl_X10_114 ?_
          refine ev_iload (pc := 135) dX10_widen_135 rfl ?_
          refine ev_iload (pc := 137) dX10_widen_137 rfl ?_
          refine ev_aload_n (pc := 139) dX10_widen_139 rfl ?_
          refine get_MO_early (pc := 140) dX10_widen_140 Fl_X10_114 ?_
          refine ev_iload (pc := 143) dX10_widen_143 rfl ?_
          refine ldN_MO_early (pc := 145) dX10_widen_145 (ha2 cq49 _ _) rfl ?_
          refine ev_icmp_ge (pc := 146) (tgt := 154) dX10_widen_146 (by decide) (fun cq146 => ?_) (fun cq146 => ?_)
          · simp only [if_pos cq146]
            refine ev_aload_n (pc := 154) dX10_widen_154 rfl ?_
            refine get_MO_early (pc := 155) dX10_widen_155 Fl_X10_114 ?_
            refine ev_iload (pc := 158) dX10_widen_158 rfl ?_
            refine ldN_MO_early (pc := 160) dX10_widen_160 (ha2 cq49 _ _) rfl ?_
            refine asN_MO_early (pc := 161) dX10_widen_161 (ha2 cq49 _ _) ?_
            exact ev_ret (pc := 162) dX10_widen_162 rfl rv
          · simp only [if_neg cq146]
            refine ev_iload (pc := 149) dX10_widen_149 rfl ?_
            refine ev_goto (pc := 151) (tgt := 161) dX10_widen_151 (by decide) ?_
            refine asN_MO_early (pc := 161) dX10_widen_161 (ha2 cq49 _ _) ?_
            exact ev_ret (pc := 162) dX10_widen_162 rfl rv
      · simp only [if_pos cq65]
        refine ev_iload_n (pc := 68) dX10_widen_68 rfl ?_
        refine ev_goto (pc := 69) (tgt := 73) dX10_widen_69 (by decide) ?_
        refine ldN_MO_place (pc := 73) dX10_widen_73 (by omega) rfl ?_
        refine ev_isub (pc := 74) dX10_widen_74 ?_
        refine ev_istore (pc := 75) (lv' := [(0, .ref 43), (1, .int _), (2, .int _), (3, .int _), (4, .int _), (5, .int _), (6, .int _), (7, .int _), (8, .int _), (9, .int _)]) dX10_widen_75 (Nat.le_of_ble_eq_true rfl) rfl ?_
        refine ev_iload (pc := 77) dX10_widen_77 rfl ?_
        refine ev_iload (pc := 79) dX10_widen_79 rfl ?_
        refine ev_if_ge (pc := 81) (tgt := 90) dX10_widen_81 (by decide) (fun cq81 => ?_) (fun cq81 => ?_)
        · simp only [if_pos cq81]
          refine ev_iload (pc := 90) dX10_widen_90 rfl ?_
          refine ev_iadd (pc := 92) dX10_widen_92 ?_
          refine ev_istore (pc := 93) (lv' := [(0, .ref 43), (1, .int _), (2, .int _), (3, .int _), (4, .int _), (5, .int _), (6, .int _), (7, .int _), (8, .int _), (9, .int _), (10, .int _)]) dX10_widen_93 (Nat.le_of_ble_eq_true rfl) rfl ?_
          refine ev_iload (pc := 95) dX10_widen_95 rfl ?_
          refine ev_iload (pc := 97) dX10_widen_97 rfl ?_
          refine ev_iload (pc := 99) dX10_widen_99 rfl ?_
          refine ev_iload_n (pc := 101) dX10_widen_101 rfl ?_
          refine ev_icmp_geN (pc := 102) (tgt := 109) (by omega) (by omega) dX10_widen_102 (by decide) (fun cq102 => ?_) (fun cq102 => absurd (Nat.le_refl _) cq102)
          refine ev_iconst (pc := 109) (v := nI 1) dX10_widen_109 (by decide) ?_
          refine ev_iload (pc := 110) dX10_widen_110 rfl ?_
          refine ev_aload_n (pc := 112) dX10_widen_112 rfl ?_
          refine ev_aload_n (pc := 113) dX10_widen_113 rfl ?_
          refine get_MO_place (pc := 114) dX10_widen_114 Fl_X10_111 ?_
          refine ev_iload (pc := 117) dX10_widen_117 rfl ?_
          refine ldN_MO_place (pc := 119) dX10_widen_119 (by omega) rfl ?_
          refine ev_iload (pc := 120) dX10_widen_120 rfl ?_
          refine callV2I (pc := 122) dX10_widen_122 Ml_X10_279 M_X10_metAt rfl rfl rfl rfl (c_X10_metAt hV) ?_
          refine ev_iadd (pc := 125) dX10_widen_125 ?_
          rw [nI_add]
          refine callS4I (pc := 126) dX10_widen_126 Ml_X10_274 M_X10_at rfl rfl c_X10_at ?_
          refine ev_istore (pc := 129) (lv' := [(0, .ref 43), (1, .int _), (2, .int _), (3, .int _), (4, .int _), (5, .int _), (6, .int _), (7, .int _), (8, .int _), (9, .int _), (10, .int _), (11, .int _)]) dX10_widen_129 (Nat.le_of_ble_eq_true rfl) rfl ?_
          refine ev_aload_n (pc := 131) dX10_widen_131 rfl ?_
          refine get_MO_early (pc := 132) dX10_widen_132 Fl_X10_114 ?_
          refine ev_iload (pc := 135) dX10_widen_135 rfl ?_
          refine ev_iload (pc := 137) dX10_widen_137 rfl ?_
          refine ev_aload_n (pc := 139) dX10_widen_139 rfl ?_
          refine get_MO_early (pc := 140) dX10_widen_140 Fl_X10_114 ?_
          refine ev_iload (pc := 143) dX10_widen_143 rfl ?_
          refine ldN_MO_early (pc := 145) dX10_widen_145 (ha2 cq49 _ _) rfl ?_
          refine ev_icmp_ge (pc := 146) (tgt := 154) dX10_widen_146 (by decide) (fun cq146 => ?_) (fun cq146 => ?_)
          · simp only [if_pos cq146]
            refine ev_aload_n (pc := 154) dX10_widen_154 rfl ?_
            refine get_MO_early (pc := 155) dX10_widen_155 Fl_X10_114 ?_
            refine ev_iload (pc := 158) dX10_widen_158 rfl ?_
            refine ldN_MO_early (pc := 160) dX10_widen_160 (ha2 cq49 _ _) rfl ?_
            refine asN_MO_early (pc := 161) dX10_widen_161 (ha2 cq49 _ _) ?_
            exact ev_ret (pc := 162) dX10_widen_162 rfl rv
          · simp only [if_neg cq146]
            refine ev_iload (pc := 149) dX10_widen_149 rfl ?_
            refine ev_goto (pc := 151) (tgt := 161) dX10_widen_151 (by decide) ?_
            refine asN_MO_early (pc := 161) dX10_widen_161 (ha2 cq49 _ _) ?_
            exact ev_ret (pc := 162) dX10_widen_162 rfl rv
        · simp only [if_neg cq81]
          refine ev_iload (pc := 84) dX10_widen_84 rfl ?_
          refine ev_ineg (pc := 86) dX10_widen_86 ?_
          refine ev_goto (pc := 87) (tgt := 92) dX10_widen_87 (by decide) ?_
          refine ev_iadd (pc := 92) dX10_widen_92 ?_
          refine ev_istore (pc := 93) (lv' := [(0, .ref 43), (1, .int _), (2, .int _), (3, .int _), (4, .int _), (5, .int _), (6, .int _), (7, .int _), (8, .int _), (9, .int _), (10, .int _)]) dX10_widen_93 (Nat.le_of_ble_eq_true rfl) rfl ?_
          refine ev_iload (pc := 95) dX10_widen_95 rfl ?_
          refine ev_iload (pc := 97) dX10_widen_97 rfl ?_
          refine ev_iload (pc := 99) dX10_widen_99 rfl ?_
          refine ev_iload_n (pc := 101) dX10_widen_101 rfl ?_
          refine ev_icmp_geN (pc := 102) (tgt := 109) (by omega) (by omega) dX10_widen_102 (by decide) (fun cq102 => ?_) (fun cq102 => absurd (Nat.le_refl _) cq102)
          refine ev_iconst (pc := 109) (v := nI 1) dX10_widen_109 (by decide) ?_
          refine ev_iload (pc := 110) dX10_widen_110 rfl ?_
          refine ev_aload_n (pc := 112) dX10_widen_112 rfl ?_
          refine ev_aload_n (pc := 113) dX10_widen_113 rfl ?_
          refine get_MO_place (pc := 114) dX10_widen_114 Fl_X10_111 ?_
          refine ev_iload (pc := 117) dX10_widen_117 rfl ?_
          refine ldN_MO_place (pc := 119) dX10_widen_119 (by omega) rfl ?_
          refine ev_iload (pc := 120) dX10_widen_120 rfl ?_
          refine callV2I (pc := 122) dX10_widen_122 Ml_X10_279 M_X10_metAt rfl rfl rfl rfl (c_X10_metAt hV) ?_
          refine ev_iadd (pc := 125) dX10_widen_125 ?_
          rw [nI_add]
          refine callS4I (pc := 126) dX10_widen_126 Ml_X10_274 M_X10_at rfl rfl c_X10_at ?_
          refine ev_istore (pc := 129) (lv' := [(0, .ref 43), (1, .int _), (2, .int _), (3, .int _), (4, .int _), (5, .int _), (6, .int _), (7, .int _), (8, .int _), (9, .int _), (10, .int _), (11, .int _)]) dX10_widen_129 (Nat.le_of_ble_eq_true rfl) rfl ?_
          refine ev_aload_n (pc := 131) dX10_widen_131 rfl ?_
          refine get_MO_early (pc := 132) dX10_widen_132 Fl_X10_114 ?_
          refine ev_iload (pc := 135) dX10_widen_135 rfl ?_
          refine ev_iload (pc := 137) dX10_widen_137 rfl ?_
          refine ev_aload_n (pc := 139) dX10_widen_139 rfl ?_
          refine get_MO_early (pc := 140) dX10_widen_140 Fl_X10_114 ?_
          refine ev_iload (pc := 143) dX10_widen_143 rfl ?_
          refine ldN_MO_early (pc := 145) dX10_widen_145 (ha2 cq49 _ _) rfl ?_
          refine ev_icmp_ge (pc := 146) (tgt := 154) dX10_widen_146 (by decide) (fun cq146 => ?_) (fun cq146 => ?_)
          · simp only [if_pos cq146]
            refine ev_aload_n (pc := 154) dX10_widen_154 rfl ?_
            refine get_MO_early (pc := 155) dX10_widen_155 Fl_X10_114 ?_
            refine ev_iload (pc := 158) dX10_widen_158 rfl ?_
            refine ldN_MO_early (pc := 160) dX10_widen_160 (ha2 cq49 _ _) rfl ?_
            refine asN_MO_early (pc := 161) dX10_widen_161 (ha2 cq49 _ _) ?_
            exact ev_ret (pc := 162) dX10_widen_162 rfl rv
          · simp only [if_neg cq146]
            refine ev_iload (pc := 149) dX10_widen_149 rfl ?_
            refine ev_goto (pc := 151) (tgt := 161) dX10_widen_151 (by decide) ?_
            refine asN_MO_early (pc := 161) dX10_widen_161 (ha2 cq49 _ _) ?_
            exact ev_ret (pc := 162) dX10_widen_162 rfl rv
    · rw [if_pos cq49]
      exact ev_ret (pc := 52) dX10_widen_52 rfl rv
/-- the same but for the table and the scratch -/
def eqE (X S : St) : Prop := X.1 = S.1 ∧ X.2.2 = S.2.2 ∧ ∀ n, n ≠ 47 → X.2.1 n = S.2.1 n
theorem eqE.rf : eqE S S := ⟨rfl, rfl, fun _ _ => rfl⟩
theorem eqE.tr {X Y : St} (h : eqE Y X) (h2 : eqE X S) : eqE Y S := ⟨h.1.trans h2.1, h.2.1.trans h2.2.1, fun n a => (h.2.2 n a).trans (h2.2.2 n a)⟩
theorem eqE.e (f : Nat → Int32) : eqE (setA S 47 f) S := ⟨rfl, rfl, fun n a => by show va_up S.2.1 _ f n = _; simp [va_up, a]⟩
theorem eqE.it {f : Nat → St → St} (h : ∀ k X, eqE (f k X) X) : ∀ k S, eqE (it f k S) S
  | 0, _ => eqE.rf
  | k + 1, S => (h k _).tr (eqE.it h k S)
theorem wdL_eq (nv lo hi s n : Nat) (X : St) : eqE (wdL nv lo hi s n X) X := by
  unfold wdL
  split
  · exact eqE.rf
  · split
    · exact eqE.rf
    · exact eqE.e _
theorem wdR_eq (m nv lo hi s n : Nat) (X : St) : eqE (wdR m nv lo hi s n X) X := by
  unfold wdR
  split
  · exact eqE.rf
  · split
    · exact eqE.rf
    · exact eqE.e _
def Wm (S : St) (m nv : Nat) : Prop := S.1 38 = nI m ∧ m ≤ 17 ∧ Vm S nv
theorem Wm.eq {X : St} {m nv : Nat} (h : Wm S m nv) (e : eqE X S) : Wm X m nv := by
  obtain ⟨h1, h2, h3, h4, h5⟩ := h
  refine ⟨by rw [e.1]; exact h1, h2, by rw [e.1]; exact h3, h4, fun k hk => ?_⟩
  rw [e.2.2 _ (by decide)]
  exact h5 k hk
def wkN (m nv lo hi s : Nat) (n : Nat) (X : St) : St := wdR m nv lo hi s n (wdL nv lo hi s n X)
def wkS (m nv lo hi : Nat) (s : Nat) (X : St) : St := it (wkN m nv lo hi s) (nv + 1) X
def wkL (m nv w : Nat) (lo : Nat) (X : St) : St := it (wkS m nv lo (lo + w)) 2 X
def wkW (m nv : Nat) (w : Nat) (X : St) : St := it (wkL m nv w) (m - w) X
theorem wkN_eq (m nv lo hi s n : Nat) (X : St) : eqE (wkN m nv lo hi s n X) X := (wdR_eq _ _ _ _ _ _ _).tr (wdL_eq _ _ _ _ _ _)
theorem wkS_eq (m nv lo hi s : Nat) (X : St) : eqE (wkS m nv lo hi s X) X := eqE.it (wkN_eq m nv lo hi s) _ _
theorem wkL_eq (m nv w lo : Nat) (X : St) : eqE (wkL m nv w lo X) X := eqE.it (wkS_eq m nv lo (lo + w)) _ _
theorem wkW_eq (m nv w : Nat) (X : St) : eqE (wkW m nv w X) X := eqE.it (wkL_eq m nv w) _ _
theorem mk_n {bg : Int32} {b m nv w lo s : Nat} (hW : Wm S m nv) (h2 : lo + w < m) (h3 : s < 2) (Post : Option Value → List va_E → Prop) (hx : Ev g mX10_walk 136 [(0, .ref 43), (1, .int bg), (2, .int (nI b)), (3, .int (nI (w + 1))), (4, .int (nI lo)), (5, .int (nI (lo + w))), (6, .int (nI (s + 1)))] [] (hC (wkS m nv lo (lo + w) s S)) Post) : Ev g mX10_walk 136 [(0, .ref 43), (1, .int bg), (2, .int (nI b)), (3, .int (nI (w + 1))), (4, .int (nI lo)), (5, .int (nI (lo + w))), (6, .int (nI s))] [] (hC S) Post := by
  have L : ∀ n, n ≤ nv + 1 → Ev g mX10_walk 145 [(0, .ref 43), (1, .int bg), (2, .int (nI b)), (3, .int (nI (w + 1))), (4, .int (nI lo)), (5, .int (nI (lo + w))), (6, .int (nI s)), (7, .int (nI n))] [] (hC (it (wkN m nv lo (lo + w) s) n S)) Post := by
    refine loop_up _ ?_ ?_
    · obtain ⟨hm, hm2, hv, hv2, -⟩ := hW.eq (eqE.it (wkN_eq m nv lo (lo + w) s) (nv + 1) S)
      refine ev_iload (pc := 145) dX10_walk_145 rfl ?_
      refine ev_aload_n (pc := 147) dX10_walk_147 rfl ?_
      refine get_MO_visits (pc := 148) dX10_walk_148 Fl_X10_268 hv ?_
      refine ev_icmp_gtN (pc := 151) (tgt := 196) (by omega) (by omega) dX10_walk_151 (by decide) (fun cq151 => ?_) (fun cq151 => absurd (show nv < nv + 1 by omega) cq151)
      refine ev_iincN (pc := 196) (lv' := [(0, .ref 43), (1, .int _), (2, .int _), (3, .int _), (4, .int _), (5, .int _), (6, .int _), (7, .int _)]) dX10_walk_196 rfl (Nat.le_of_ble_eq_true rfl) rfl ?_
      refine ev_goto (pc := 199) (tgt := 136) dX10_walk_199 (by decide) ?_
      exact ev_keep [0, 1, 2, 3, 4, 5, 6] hx
    · intro n hn ih
      have hX := hW.eq (eqE.it (wkN_eq m nv lo (lo + w) s) n S)
      rw [it_s] at ih
      generalize it (wkN m nv lo (lo + w) s) n S = X at *
      obtain ⟨hm, hm2, hV⟩ := id hX
      obtain ⟨hv, hv2, -⟩ := id hV
      obtain ⟨hm', -, hV'⟩ := hX.eq (wdL_eq nv lo (lo + w) s n X)
      refine ev_iload (pc := 145) dX10_walk_145 rfl ?_
      refine ev_aload_n (pc := 147) dX10_walk_147 rfl ?_
      refine get_MO_visits (pc := 148) dX10_walk_148 Fl_X10_268 hv ?_
      refine ev_icmp_gtN (pc := 151) (tgt := 196) (by omega) (by omega) dX10_walk_151 (by decide) (fun cq151 => absurd cq151 (by omega)) (fun cq151 => ?_)
      refine ev_aload_n (pc := 154) dX10_walk_154 rfl ?_
      refine ev_iload (pc := 155) dX10_walk_155 rfl ?_
      refine ev_iload (pc := 157) dX10_walk_157 rfl ?_
      refine ev_iload (pc := 159) dX10_walk_159 rfl ?_
      refine ev_iload (pc := 161) dX10_walk_161 rfl ?_
      refine ev_iload (pc := 163) dX10_walk_163 rfl ?_
      refine ev_iconst (pc := 165) (v := 1) dX10_walk_165 (by decide) ?_
      refine ev_isub (pc := 166) dX10_walk_166 ?_
      refine ev_iload (pc := 167) dX10_walk_167 rfl ?_
      refine callV6V (pc := 169) dX10_walk_169 Ml_X10_286 M_X10_widen rfl rfl rfl rfl (c_widenL hV hm hm2 (by omega) h2 h3 (by omega)) ?_
      refine ev_aload_n (pc := 172) dX10_walk_172 rfl ?_
      refine ev_iload (pc := 173) dX10_walk_173 rfl ?_
      refine ev_iload (pc := 175) dX10_walk_175 rfl ?_
      refine ev_iload (pc := 177) dX10_walk_177 rfl ?_
      refine ev_iload (pc := 179) dX10_walk_179 rfl ?_
      refine ev_iload (pc := 181) dX10_walk_181 rfl ?_
      refine ev_iload (pc := 183) dX10_walk_183 rfl ?_
      refine ev_iconst (pc := 185) (v := nI 1) dX10_walk_185 (by decide) ?_
      refine ev_iadd (pc := 186) dX10_walk_186 ?_
      rw [nI_add]
      refine callV6V (pc := 187) dX10_walk_187 Ml_X10_286 M_X10_widen rfl rfl rfl rfl (c_widenR hV' hm' hm2 (by omega) h2 h3 (by omega)) ?_
      refine ev_iincN (pc := 190) (lv' := [(0, .ref 43), (1, .int _), (2, .int _), (3, .int _), (4, .int _), (5, .int _), (6, .int _), (7, .int _)]) dX10_walk_190 rfl (Nat.le_of_ble_eq_true rfl) rfl ?_
      refine ev_goto (pc := 193) (tgt := 145) dX10_walk_193 (by decide) ?_
      exact ih
  have L0 := L 0 (Nat.zero_le _)
  rw [it_0] at L0
  refine ev_iload (pc := 136) dX10_walk_136 rfl ?_
  refine ev_iconst (pc := 138) (v := nI 2) dX10_walk_138 (by decide) ?_
  refine ev_icmp_geN (pc := 139) (tgt := 202) (by omega) (by omega) dX10_walk_139 (by decide) (fun cq139 => absurd cq139 (by omega)) (fun cq139 => ?_)
  refine ev_iconst (pc := 142) (v := nI 0) dX10_walk_142 (by decide) ?_
  refine ev_istore (pc := 143) (lv' := [(0, .ref 43), (1, .int _), (2, .int _), (3, .int _), (4, .int _), (5, .int _), (6, .int _), (7, .int _)]) dX10_walk_143 (Nat.le_of_ble_eq_true rfl) rfl ?_
  exact L0
theorem mk_s {bg : Int32} {b m nv w lo : Nat} (hW : Wm S m nv) (h2 : lo + w < m) (Post : Option Value → List va_E → Prop) (hx : Ev g mX10_walk 114 [(0, .ref 43), (1, .int bg), (2, .int (nI b)), (3, .int (nI (w + 1))), (4, .int (nI (lo + 1)))] [] (hC (wkL m nv w lo S)) Post) : Ev g mX10_walk 114 [(0, .ref 43), (1, .int bg), (2, .int (nI b)), (3, .int (nI (w + 1))), (4, .int (nI lo))] [] (hC S) Post := by
  have L : ∀ s, s ≤ 2 → Ev g mX10_walk 136 [(0, .ref 43), (1, .int bg), (2, .int (nI b)), (3, .int (nI (w + 1))), (4, .int (nI lo)), (5, .int (nI (lo + w))), (6, .int (nI s))] [] (hC (it (wkS m nv lo (lo + w)) s S)) Post := by
    refine loop_up _ ?_ ?_
    · skip
      refine ev_iload (pc := 136) dX10_walk_136 rfl ?_
      refine ev_iconst (pc := 138) (v := nI 2) dX10_walk_138 (by decide) ?_
      refine ev_icmp_geN (pc := 139) (tgt := 202) (by omega) (by omega) dX10_walk_139 (by decide) (fun cq139 => ?_) (fun cq139 => absurd (Nat.le_refl 2) cq139)
      refine ev_iincN (pc := 202) (lv' := [(0, .ref 43), (1, .int _), (2, .int _), (3, .int _), (4, .int _), (5, .int _), (6, .int _)]) dX10_walk_202 rfl (Nat.le_of_ble_eq_true rfl) rfl ?_
      refine ev_goto (pc := 205) (tgt := 114) dX10_walk_205 (by decide) ?_
      exact ev_keep [0, 1, 2, 3, 4] hx
    · intro s hs ih
      exact mk_n (hW.eq (eqE.it (wkS_eq m nv lo (lo + w)) s S)) h2 hs Post ih
  have L0 := L 0 (Nat.zero_le _)
  rw [it_0] at L0
  obtain ⟨hm, hm2, -⟩ := hW
  refine ev_iload (pc := 114) dX10_walk_114 rfl ?_
  refine ev_iload_n (pc := 116) dX10_walk_116 rfl ?_
  refine ev_iadd (pc := 117) dX10_walk_117 ?_
  refine ev_aload_n (pc := 118) dX10_walk_118 rfl ?_
  refine get_MO_places (pc := 119) dX10_walk_119 Fl_X10_271 hm ?_
  rw [nI_add]
  refine ev_icmp_gtN (pc := 122) (tgt := 208) (by omega) (by omega) dX10_walk_122 (by decide) (fun cq122 => absurd cq122 (by omega)) (fun cq122 => ?_)
  refine ev_iload (pc := 125) dX10_walk_125 rfl ?_
  refine ev_iload_n (pc := 127) dX10_walk_127 rfl ?_
  refine ev_iadd (pc := 128) dX10_walk_128 ?_
  refine ev_iconst (pc := 129) (v := 1) dX10_walk_129 (by decide) ?_
  refine ev_isub (pc := 130) dX10_walk_130 ?_
  rw [nI_add, show lo + (w + 1) = lo + w + 1 from rfl, nI_pred]
  refine ev_istore (pc := 131) (lv' := [(0, .ref 43), (1, .int _), (2, .int _), (3, .int _), (4, .int _), (5, .int _)]) dX10_walk_131 (Nat.le_of_ble_eq_true rfl) rfl ?_
  refine ev_iconst (pc := 133) (v := nI 0) dX10_walk_133 (by decide) ?_
  refine ev_istore (pc := 134) (lv' := [(0, .ref 43), (1, .int _), (2, .int _), (3, .int _), (4, .int _), (5, .int _), (6, .int _)]) dX10_walk_134 (Nat.le_of_ble_eq_true rfl) rfl ?_
  exact L0
theorem mk_l {bg : Int32} {b m nv w : Nat} (hW : Wm S m nv) (h2 : w + 1 < m) (Post : Option Value → List va_E → Prop) (hx : Ev g mX10_walk 103 [(0, .ref 43), (1, .int bg), (2, .int (nI b)), (3, .int (nI (w + 2)))] [] (hC (wkW m nv w S)) Post) : Ev g mX10_walk 103 [(0, .ref 43), (1, .int bg), (2, .int (nI b)), (3, .int (nI (w + 1)))] [] (hC S) Post := by
  have L : ∀ lo, lo ≤ m - w → Ev g mX10_walk 114 [(0, .ref 43), (1, .int bg), (2, .int (nI b)), (3, .int (nI (w + 1))), (4, .int (nI lo))] [] (hC (it (wkL m nv w) lo S)) Post := by
    refine loop_up _ ?_ ?_
    · obtain ⟨hm, hm2, -⟩ := hW.eq (eqE.it (wkL_eq m nv w) (m - w) S)
      refine ev_iload (pc := 114) dX10_walk_114 rfl ?_
      refine ev_iload_n (pc := 116) dX10_walk_116 rfl ?_
      refine ev_iadd (pc := 117) dX10_walk_117 ?_
      refine ev_aload_n (pc := 118) dX10_walk_118 rfl ?_
      refine get_MO_places (pc := 119) dX10_walk_119 Fl_X10_271 hm ?_
      rw [nI_add]
      refine ev_icmp_gtN (pc := 122) (tgt := 208) (by omega) (by omega) dX10_walk_122 (by decide) (fun cq122 => ?_) (fun cq122 => absurd (show m < m - w + (w + 1) by omega) cq122)
      refine ev_iincN (pc := 208) (lv' := [(0, .ref 43), (1, .int _), (2, .int _), (3, .int _), (4, .int _)]) dX10_walk_208 rfl (Nat.le_of_ble_eq_true rfl) rfl ?_
      refine ev_goto (pc := 211) (tgt := 103) dX10_walk_211 (by decide) ?_
      exact ev_keep [0, 1, 2, 3] hx
    · intro lo hl ih
      exact mk_s (hW.eq (eqE.it (wkL_eq m nv w) lo S)) (by omega) Post ih
  have L0 := L 0 (Nat.zero_le _)
  rw [it_0] at L0
  obtain ⟨hm, hm2, -⟩ := hW
  refine ev_iload_n (pc := 103) dX10_walk_103 rfl ?_
  refine ev_aload_n (pc := 104) dX10_walk_104 rfl ?_
  refine get_MO_places (pc := 105) dX10_walk_105 Fl_X10_271 hm ?_
  refine ev_icmp_geN (pc := 108) (tgt := 214) (by omega) (by omega) dX10_walk_108 (by decide) (fun cq108 => absurd cq108 (by omega)) (fun cq108 => ?_)
  refine ev_iconst (pc := 111) (v := nI 0) dX10_walk_111 (by decide) ?_
  refine ev_istore (pc := 112) (lv' := [(0, .ref 43), (1, .int _), (2, .int _), (3, .int _), (4, .int _)]) dX10_walk_112 (Nat.le_of_ble_eq_true rfl) rfl ?_
  exact L0
theorem mk_w {bg : Int32} {b m nv : Nat} (hW : Wm S m nv) (h1 : 1 ≤ m) : Ev g mX10_walk 103 [(0, .ref 43), (1, .int bg), (2, .int (nI b)), (3, .int (nI 1))] [] (hC S) (RV (it (wkW m nv) (m - 1) S)) := by
  have L : ∀ w, w ≤ m - 1 → Ev g mX10_walk 103 [(0, .ref 43), (1, .int bg), (2, .int (nI b)), (3, .int (nI (w + 1)))] [] (hC (it (wkW m nv) w S)) (RV (it (wkW m nv) (m - 1) S)) := by
    refine loop_up _ ?_ ?_
    · obtain ⟨hm, hm2, -⟩ := hW.eq (eqE.it (wkW_eq m nv) (m - 1) S)
      refine ev_iload_n (pc := 103) dX10_walk_103 rfl ?_
      refine ev_aload_n (pc := 104) dX10_walk_104 rfl ?_
      refine get_MO_places (pc := 105) dX10_walk_105 Fl_X10_271 hm ?_
      refine ev_icmp_geN (pc := 108) (tgt := 214) (by omega) (by omega) dX10_walk_108 (by decide) (fun cq108 => ?_) (fun cq108 => absurd (show m ≤ m - 1 + 1 by omega) cq108)
      exact ev_ret (pc := 214) dX10_walk_214 rfl rv
    · intro w hw ih
      exact mk_l (hW.eq (eqE.it (wkW_eq m nv) w S)) (by omega) _ ih
  have L0 := L 0 (Nat.zero_le _)
  rw [it_0] at L0
  exact L0
end MO10
