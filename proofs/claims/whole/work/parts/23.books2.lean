section BK2
variable {g : GG} {S : St}
theorem it_0 {σ : Type} (f : Nat → σ → σ) (s : σ) : it f 0 s = s := rfl
def drB (b : Nat) (k : Nat) (X : St) : St :=
  let Y := setB X 2 (vp_updL (X.2.2.2.1 2) k (X.2.2.2.1 2 k + shareF X b 0 (X.2.2.2.1 3 k)))
  setB Y 4 (vp_updL (Y.2.2.2.1 4) k (if Y.2.2.2.1 1 k < shareF Y b 1 (Y.2.2.2.1 2 k) then Y.2.2.2.1 1 k else shareF Y b 1 (Y.2.2.2.1 2 k)))
theorem drB_eq (b k : Nat) (X : St) : eqB (drB b k X) X := eqB.rf
def clearS (S : St) : St :=
  let X1 := setB S 0 (fillF 40 0 (S.2.2.2.1 0))
  let X2 := setB X1 1 (fillF 40 0 (X1.2.2.2.1 1))
  let X3 := setB X2 2 (fillF 40 0 (X2.2.2.2.1 2))
  setB X3 3 (fillF 40 0 (X3.2.2.2.1 3))
theorem clearS_eq (S : St) : eqB (clearS S) S := eqB.rf
def drawS (b : Nat) (day : Int32) (nf nc nb : Nat) (S : St) : St := it (drB b) nf (it (baB b day) nb (it (crB day) nc (clearS S)))
theorem drawS_eq (b : Nat) (day : Int32) (nf nc nb : Nat) (S : St) : eqB (drawS b day nf nc nb S) S := (eqB.it (drB_eq b) nf _).tr ((eqB.it (baB_eq b day) nb _).tr ((eqB.it (crB_eq day) nc _).tr (clearS_eq S)))
theorem draw_step_0 {day : Int32} {nf nc nb : Nat} (X : St) (k : Nat) (Post : Option Value → List va_E → Prop) (hk : k < nf) (hB : Bs X nf nc nb) (ih : Ev g mX1_draw 52 [(0, .ref 17), (1, .ref 1), (2, .ref 5), (3, .ref 9), (4, .ref 35), (5, .int day), (6, .int (nI (k + 1)))] [] (hC (drB 0 k X)) Post) : Ev g mX1_draw 52 [(0, .ref 17), (1, .ref 1), (2, .ref 5), (3, .ref 9), (4, .ref 35), (5, .int day), (6, .int (nI k))] [] (hC X) Post := by
  obtain ⟨hs, hc, -⟩ := hB
  refine ev_iload (pc := 52) dX1_draw_52 rfl ?_
  refine ev_aload_n (pc := 54) dX1_draw_54 rfl ?_
  refine get_F_size (pc := 55) dX1_draw_55 Fl_X1_50 hs ?_
  refine ev_icmp_geN (pc := 58) (tgt := 120) (by omega) (by omega) dX1_draw_58 (by decide) (fun cq58 => absurd cq58 (by omega)) (fun cq58 => ?_)
  refine ev_aload_n (pc := 61) dX1_draw_61 rfl ?_
  refine get_BK_check (pc := 62) dX1_draw_62 Fl_X1_18 ?_
  refine ev_iload (pc := 65) dX1_draw_65 rfl ?_
  refine ev_dup2 (pc := 67) dX1_draw_67 rfl rfl ?_
  refine ldN_BK_check (pc := 68) dX1_draw_68 (by omega) rfl ?_
  refine ev_aload (pc := 69) dX1_draw_69 rfl ?_
  refine ev_iconst (pc := 71) (v := nI 0) dX1_draw_71 (by decide) ?_
  refine ev_aload_n (pc := 72) dX1_draw_72 rfl ?_
  refine get_BK_beyond (pc := 73) dX1_draw_73 Fl_X1_21 ?_
  refine ev_iload (pc := 76) dX1_draw_76 rfl ?_
  refine ldN_BK_beyond (pc := 78) dX1_draw_78 (by omega) rfl ?_
  refine callV2L (pc := 79) dX1_draw_79 Ml_X1_58 M_X8_shareOf rfl rfl rfl rfl (c_X8_shareOf_0 (by decide)) ?_
  refine ev_ladd (pc := 82) dX1_draw_82 ?_
  refine asN_BK_check (pc := 83) dX1_draw_83 (by omega) ?_
  refine ev_aload_n (pc := 84) dX1_draw_84 rfl ?_
  refine get_BK_off (pc := 85) dX1_draw_85 Fl_X1_24 ?_
  refine ev_iload (pc := 88) dX1_draw_88 rfl ?_
  refine ev_aload (pc := 90) dX1_draw_90 rfl ?_
  refine ev_iconst (pc := 92) (v := nI 1) dX1_draw_92 (by decide) ?_
  refine ev_aload_n (pc := 93) dX1_draw_93 rfl ?_
  refine get_BK_check (pc := 94) dX1_draw_94 Fl_X1_18 ?_
  refine ev_iload (pc := 97) dX1_draw_97 rfl ?_
  refine ldN_BK_check (pc := 99) dX1_draw_99 (by omega) rfl ?_
  refine callV2L (pc := 100) dX1_draw_100 Ml_X1_58 M_X8_shareOf rfl rfl rfl rfl (c_X8_shareOf_0 (by decide)) ?_
  refine ev_aload_n (pc := 103) dX1_draw_103 rfl ?_
  refine get_BK_lent (pc := 104) dX1_draw_104 Fl_X1_15 ?_
  refine ev_iload (pc := 107) dX1_draw_107 rfl ?_
  refine ldN_BK_lent (pc := 109) dX1_draw_109 (by omega) rfl ?_
  refine ev_mmin_long (pc := 110) dX1_draw_110 Mx_X1_62 Mxs_minJ In_Math Mxc_minJ rfl rfl ?_
  refine asN_BK_off (pc := 113) dX1_draw_113 (by omega) ?_
  refine ev_iincN (pc := 114) (lv' := [(0, .ref 17), (1, .ref 1), (2, .ref 5), (3, .ref 9), (4, .ref 35), (5, .int _), (6, .int _)]) dX1_draw_114 rfl (Nat.le_of_ble_eq_true rfl) rfl ?_
  refine ev_goto (pc := 117) (tgt := 52) dX1_draw_117 (by decide) ?_
  exact ih
theorem draw_loop_0 {day : Int32} {nf nc nb : Nat} (hB : Bs S nf nc nb) (k : Nat) (hk : k ≤ nf) : Ev g mX1_draw 52 [(0, .ref 17), (1, .ref 1), (2, .ref 5), (3, .ref 9), (4, .ref 35), (5, .int day), (6, .int (nI k))] [] (hC (it (drB 0) k S)) (RV (it (drB 0) nf S)) := by
  revert k
  refine loop_up nf ?_ ?_
  · have hB := hB.eq (eqB.it (drB_eq 0) nf S)
    obtain ⟨hs, hc, -⟩ := hB
    refine ev_iload (pc := 52) dX1_draw_52 rfl ?_
    refine ev_aload_n (pc := 54) dX1_draw_54 rfl ?_
    refine get_F_size (pc := 55) dX1_draw_55 Fl_X1_50 hs ?_
    refine ev_icmp_geN (pc := 58) (tgt := 120) (by omega) (by omega) dX1_draw_58 (by decide) (fun cq58 => ?_) (fun cq58 => absurd (Nat.le_refl nf) cq58)
    exact ev_ret (pc := 120) dX1_draw_120 rfl rv
  · intro k hk ih
    exact draw_step_0 _ k _ hk (hB.eq (eqB.it (drB_eq 0) k S)) ih
theorem draw_a_0 {day : Int32} {nf nc nb : Nat} (hB : Bs S nf nc nb) {Post : Option Value → List va_E → Prop} (k : Ev g mX1_draw 32 [(0, .ref 17), (1, .ref 1), (2, .ref 5), (3, .ref 9), (4, .ref 35), (5, .int day)] [] (hC (clearS S)) Post) : Ev g mX1_draw 0 [(0, .ref 17), (1, .ref 1), (2, .ref 5), (3, .ref 9), (4, .ref 35), (5, .int day)] [] (hC S) Post := by
  refine ev_aload_n (pc := 0) dX1_draw_0 rfl ?_
  refine get_BK_weight (pc := 1) dX1_draw_1 Fl_X1_9 ?_
  refine ev_lconst (pc := 4) (v := 0) dX1_draw_4 (by decide) ?_
  refine callS2V (pc := 5) dX1_draw_5 Ml_X1_36 M_J7_fill_d0a16 rfl rfl c_fill_BK_weight ?_
  refine ev_aload_n (pc := 8) dX1_draw_8 rfl ?_
  refine get_BK_lent (pc := 9) dX1_draw_9 Fl_X1_15 ?_
  refine ev_lconst (pc := 12) (v := 0) dX1_draw_12 (by decide) ?_
  refine callS2V (pc := 13) dX1_draw_13 Ml_X1_36 M_J7_fill_d0a16 rfl rfl c_fill_BK_lent ?_
  refine ev_aload_n (pc := 16) dX1_draw_16 rfl ?_
  refine get_BK_check (pc := 17) dX1_draw_17 Fl_X1_18 ?_
  refine ev_lconst (pc := 20) (v := 0) dX1_draw_20 (by decide) ?_
  refine callS2V (pc := 21) dX1_draw_21 Ml_X1_36 M_J7_fill_d0a16 rfl rfl c_fill_BK_check ?_
  refine ev_aload_n (pc := 24) dX1_draw_24 rfl ?_
  refine get_BK_beyond (pc := 25) dX1_draw_25 Fl_X1_21 ?_
  refine ev_lconst (pc := 28) (v := 0) dX1_draw_28 (by decide) ?_
  refine callS2V (pc := 29) dX1_draw_29 Ml_X1_36 M_J7_fill_d0a16 rfl rfl c_fill_BK_beyond ?_
  exact k
theorem c_X1_draw_0 {day : Int32} {nf nc nb : Nat} (hB : Bs S nf nc nb) : Ct g mX1_draw [.ref 17, .ref 1, .ref 5, .ref 9, .ref 35, .int day] (hC S) (RV (drawS 0 day nf nc nb S)) := by
  refine ct_of rfl rfl ?_
  refine draw_a_0 hB ?_
  have hB := hB.eq (clearS_eq S)
  unfold drawS
  generalize clearS S = S1 at *
  refine ev_aload_n (pc := 32) dX1_draw_32 rfl ?_
  refine ev_aload_n (pc := 33) dX1_draw_33 rfl ?_
  refine ev_iload (pc := 34) dX1_draw_34 rfl ?_
  refine callV2V (pc := 36) dX1_draw_36 Ml_X1_42 M_X1_addCredits rfl rfl rfl rfl (c_X1_addCredits hB) ?_
  refine ev_aload_n (pc := 39) dX1_draw_39 rfl ?_
  refine ev_aload_n (pc := 40) dX1_draw_40 rfl ?_
  refine ev_aload_n (pc := 41) dX1_draw_41 rfl ?_
  refine ev_aload (pc := 42) dX1_draw_42 rfl ?_
  refine ev_iload (pc := 44) dX1_draw_44 rfl ?_
  refine callV4V (pc := 46) dX1_draw_46 Ml_X1_46 M_X1_addBaskets rfl rfl rfl rfl (c_X1_addBaskets_0 (hB.eq (eqB.it (crB_eq day) nc _))) ?_
  refine ev_iconst (pc := 49) (v := nI 0) dX1_draw_49 (by decide) ?_
  refine ev_istore (pc := 50) (lv' := [(0, .ref 17), (1, .ref 1), (2, .ref 5), (3, .ref 9), (4, .ref 35), (5, .int _), (6, .int _)]) dX1_draw_50 (Nat.le_of_ble_eq_true rfl) rfl ?_
  have h := draw_loop_0 (g := g) (day := day) (hB.eq ((eqB.it (baB_eq 0 day) nb _).tr (eqB.it (crB_eq day) nc _))) 0 (Nat.zero_le _)
  rw [it_0] at h
  exact h
theorem draw_step_1 {day : Int32} {nf nc nb : Nat} (X : St) (k : Nat) (Post : Option Value → List va_E → Prop) (hk : k < nf) (hB : Bs X nf nc nb) (ih : Ev g mX1_draw 52 [(0, .ref 17), (1, .ref 1), (2, .ref 5), (3, .ref 9), (4, .ref 39), (5, .int day), (6, .int (nI (k + 1)))] [] (hC (drB 1 k X)) Post) : Ev g mX1_draw 52 [(0, .ref 17), (1, .ref 1), (2, .ref 5), (3, .ref 9), (4, .ref 39), (5, .int day), (6, .int (nI k))] [] (hC X) Post := by
  obtain ⟨hs, hc, -⟩ := hB
  refine ev_iload (pc := 52) dX1_draw_52 rfl ?_
  refine ev_aload_n (pc := 54) dX1_draw_54 rfl ?_
  refine get_F_size (pc := 55) dX1_draw_55 Fl_X1_50 hs ?_
  refine ev_icmp_geN (pc := 58) (tgt := 120) (by omega) (by omega) dX1_draw_58 (by decide) (fun cq58 => absurd cq58 (by omega)) (fun cq58 => ?_)
  refine ev_aload_n (pc := 61) dX1_draw_61 rfl ?_
  refine get_BK_check (pc := 62) dX1_draw_62 Fl_X1_18 ?_
  refine ev_iload (pc := 65) dX1_draw_65 rfl ?_
  refine ev_dup2 (pc := 67) dX1_draw_67 rfl rfl ?_
  refine ldN_BK_check (pc := 68) dX1_draw_68 (by omega) rfl ?_
  refine ev_aload (pc := 69) dX1_draw_69 rfl ?_
  refine ev_iconst (pc := 71) (v := nI 0) dX1_draw_71 (by decide) ?_
  refine ev_aload_n (pc := 72) dX1_draw_72 rfl ?_
  refine get_BK_beyond (pc := 73) dX1_draw_73 Fl_X1_21 ?_
  refine ev_iload (pc := 76) dX1_draw_76 rfl ?_
  refine ldN_BK_beyond (pc := 78) dX1_draw_78 (by omega) rfl ?_
  refine callV2L (pc := 79) dX1_draw_79 Ml_X1_58 M_X8_shareOf rfl rfl rfl rfl (c_X8_shareOf_1 (by decide)) ?_
  refine ev_ladd (pc := 82) dX1_draw_82 ?_
  refine asN_BK_check (pc := 83) dX1_draw_83 (by omega) ?_
  refine ev_aload_n (pc := 84) dX1_draw_84 rfl ?_
  refine get_BK_off (pc := 85) dX1_draw_85 Fl_X1_24 ?_
  refine ev_iload (pc := 88) dX1_draw_88 rfl ?_
  refine ev_aload (pc := 90) dX1_draw_90 rfl ?_
  refine ev_iconst (pc := 92) (v := nI 1) dX1_draw_92 (by decide) ?_
  refine ev_aload_n (pc := 93) dX1_draw_93 rfl ?_
  refine get_BK_check (pc := 94) dX1_draw_94 Fl_X1_18 ?_
  refine ev_iload (pc := 97) dX1_draw_97 rfl ?_
  refine ldN_BK_check (pc := 99) dX1_draw_99 (by omega) rfl ?_
  refine callV2L (pc := 100) dX1_draw_100 Ml_X1_58 M_X8_shareOf rfl rfl rfl rfl (c_X8_shareOf_1 (by decide)) ?_
  refine ev_aload_n (pc := 103) dX1_draw_103 rfl ?_
  refine get_BK_lent (pc := 104) dX1_draw_104 Fl_X1_15 ?_
  refine ev_iload (pc := 107) dX1_draw_107 rfl ?_
  refine ldN_BK_lent (pc := 109) dX1_draw_109 (by omega) rfl ?_
  refine ev_mmin_long (pc := 110) dX1_draw_110 Mx_X1_62 Mxs_minJ In_Math Mxc_minJ rfl rfl ?_
  refine asN_BK_off (pc := 113) dX1_draw_113 (by omega) ?_
  refine ev_iincN (pc := 114) (lv' := [(0, .ref 17), (1, .ref 1), (2, .ref 5), (3, .ref 9), (4, .ref 39), (5, .int _), (6, .int _)]) dX1_draw_114 rfl (Nat.le_of_ble_eq_true rfl) rfl ?_
  refine ev_goto (pc := 117) (tgt := 52) dX1_draw_117 (by decide) ?_
  exact ih
theorem draw_loop_1 {day : Int32} {nf nc nb : Nat} (hB : Bs S nf nc nb) (k : Nat) (hk : k ≤ nf) : Ev g mX1_draw 52 [(0, .ref 17), (1, .ref 1), (2, .ref 5), (3, .ref 9), (4, .ref 39), (5, .int day), (6, .int (nI k))] [] (hC (it (drB 1) k S)) (RV (it (drB 1) nf S)) := by
  revert k
  refine loop_up nf ?_ ?_
  · have hB := hB.eq (eqB.it (drB_eq 1) nf S)
    obtain ⟨hs, hc, -⟩ := hB
    refine ev_iload (pc := 52) dX1_draw_52 rfl ?_
    refine ev_aload_n (pc := 54) dX1_draw_54 rfl ?_
    refine get_F_size (pc := 55) dX1_draw_55 Fl_X1_50 hs ?_
    refine ev_icmp_geN (pc := 58) (tgt := 120) (by omega) (by omega) dX1_draw_58 (by decide) (fun cq58 => ?_) (fun cq58 => absurd (Nat.le_refl nf) cq58)
    exact ev_ret (pc := 120) dX1_draw_120 rfl rv
  · intro k hk ih
    exact draw_step_1 _ k _ hk (hB.eq (eqB.it (drB_eq 1) k S)) ih
theorem draw_a_1 {day : Int32} {nf nc nb : Nat} (hB : Bs S nf nc nb) {Post : Option Value → List va_E → Prop} (k : Ev g mX1_draw 32 [(0, .ref 17), (1, .ref 1), (2, .ref 5), (3, .ref 9), (4, .ref 39), (5, .int day)] [] (hC (clearS S)) Post) : Ev g mX1_draw 0 [(0, .ref 17), (1, .ref 1), (2, .ref 5), (3, .ref 9), (4, .ref 39), (5, .int day)] [] (hC S) Post := by
  refine ev_aload_n (pc := 0) dX1_draw_0 rfl ?_
  refine get_BK_weight (pc := 1) dX1_draw_1 Fl_X1_9 ?_
  refine ev_lconst (pc := 4) (v := 0) dX1_draw_4 (by decide) ?_
  refine callS2V (pc := 5) dX1_draw_5 Ml_X1_36 M_J7_fill_d0a16 rfl rfl c_fill_BK_weight ?_
  refine ev_aload_n (pc := 8) dX1_draw_8 rfl ?_
  refine get_BK_lent (pc := 9) dX1_draw_9 Fl_X1_15 ?_
  refine ev_lconst (pc := 12) (v := 0) dX1_draw_12 (by decide) ?_
  refine callS2V (pc := 13) dX1_draw_13 Ml_X1_36 M_J7_fill_d0a16 rfl rfl c_fill_BK_lent ?_
  refine ev_aload_n (pc := 16) dX1_draw_16 rfl ?_
  refine get_BK_check (pc := 17) dX1_draw_17 Fl_X1_18 ?_
  refine ev_lconst (pc := 20) (v := 0) dX1_draw_20 (by decide) ?_
  refine callS2V (pc := 21) dX1_draw_21 Ml_X1_36 M_J7_fill_d0a16 rfl rfl c_fill_BK_check ?_
  refine ev_aload_n (pc := 24) dX1_draw_24 rfl ?_
  refine get_BK_beyond (pc := 25) dX1_draw_25 Fl_X1_21 ?_
  refine ev_lconst (pc := 28) (v := 0) dX1_draw_28 (by decide) ?_
  refine callS2V (pc := 29) dX1_draw_29 Ml_X1_36 M_J7_fill_d0a16 rfl rfl c_fill_BK_beyond ?_
  exact k
theorem c_X1_draw_1 {day : Int32} {nf nc nb : Nat} (hB : Bs S nf nc nb) : Ct g mX1_draw [.ref 17, .ref 1, .ref 5, .ref 9, .ref 39, .int day] (hC S) (RV (drawS 1 day nf nc nb S)) := by
  refine ct_of rfl rfl ?_
  refine draw_a_1 hB ?_
  have hB := hB.eq (clearS_eq S)
  unfold drawS
  generalize clearS S = S1 at *
  refine ev_aload_n (pc := 32) dX1_draw_32 rfl ?_
  refine ev_aload_n (pc := 33) dX1_draw_33 rfl ?_
  refine ev_iload (pc := 34) dX1_draw_34 rfl ?_
  refine callV2V (pc := 36) dX1_draw_36 Ml_X1_42 M_X1_addCredits rfl rfl rfl rfl (c_X1_addCredits hB) ?_
  refine ev_aload_n (pc := 39) dX1_draw_39 rfl ?_
  refine ev_aload_n (pc := 40) dX1_draw_40 rfl ?_
  refine ev_aload_n (pc := 41) dX1_draw_41 rfl ?_
  refine ev_aload (pc := 42) dX1_draw_42 rfl ?_
  refine ev_iload (pc := 44) dX1_draw_44 rfl ?_
  refine callV4V (pc := 46) dX1_draw_46 Ml_X1_46 M_X1_addBaskets rfl rfl rfl rfl (c_X1_addBaskets_1 (hB.eq (eqB.it (crB_eq day) nc _))) ?_
  refine ev_iconst (pc := 49) (v := nI 0) dX1_draw_49 (by decide) ?_
  refine ev_istore (pc := 50) (lv' := [(0, .ref 17), (1, .ref 1), (2, .ref 5), (3, .ref 9), (4, .ref 39), (5, .int _), (6, .int _)]) dX1_draw_50 (Nat.le_of_ble_eq_true rfl) rfl ?_
  have h := draw_loop_1 (g := g) (day := day) (hB.eq ((eqB.it (baB_eq 1 day) nb _).tr (eqB.it (crB_eq day) nc _))) 0 (Nat.zero_le _)
  rw [it_0] at h
  exact h
/-- the sum of what each gives at a level -/
def sumAt (ab : Nat → Int64) (lv : Int64) : Nat → Int64
  | 0 => 0
  | k + 1 => sumAt ab lv k + (if ab k < lv then ab k else lv)
theorem c_X1_sumAtLevel {lv : Int64} {n : Nat} (hn : n ≤ 40) : Ct g mX1_sumAtLevel [.ref 17, .long lv, .int (nI n)] (hC S) (RJl (sumAt (S.2.2.2.1 5) lv n) S) := by
  refine ct_of rfl rfl ?_
  refine ev_lconst (pc := 0) (v := 0) dX1_sumAtLevel_0 (by decide) ?_
  refine ev_lstore (pc := 1) (lv' := [(0, .ref 17), (1, .long _), (3, .int _), (4, .long _)]) dX1_sumAtLevel_1 (Nat.le_of_ble_eq_true rfl) rfl ?_
  refine ev_iconst (pc := 3) (v := nI 0) dX1_sumAtLevel_3 (by decide) ?_
  refine ev_istore (pc := 4) (lv' := [(0, .ref 17), (1, .long _), (3, .int _), (4, .long _), (6, .int _)]) dX1_sumAtLevel_4 (Nat.le_of_ble_eq_true rfl) rfl ?_
  refine loop_up (P := fun k => Ev g mX1_sumAtLevel 6 [(0, .ref 17), (1, .long lv), (3, .int (nI n)), (4, .long (sumAt (S.2.2.2.1 5) lv k)), (6, .int (nI k))] [] (hC S) (RJl (sumAt (S.2.2.2.1 5) lv n) S)) n ?_ ?_ 0 (Nat.zero_le _)
  · skip
    refine ev_iload (pc := 6) dX1_sumAtLevel_6 rfl ?_
    refine ev_iload_n (pc := 8) dX1_sumAtLevel_8 rfl ?_
    refine ev_icmp_geN (pc := 9) (tgt := 34) (by omega) (by omega) dX1_sumAtLevel_9 (by decide) (fun cq9 => ?_) (fun cq9 => absurd (Nat.le_refl n) cq9)
    refine ev_lload (pc := 34) dX1_sumAtLevel_34 rfl ?_
    exact ev_lret (pc := 36) dX1_sumAtLevel_36 rfl rl
  · intro k hk ih
    refine ev_iload (pc := 6) dX1_sumAtLevel_6 rfl ?_
    refine ev_iload_n (pc := 8) dX1_sumAtLevel_8 rfl ?_
    refine ev_icmp_geN (pc := 9) (tgt := 34) (by omega) (by omega) dX1_sumAtLevel_9 (by decide) (fun cq9 => absurd cq9 (by omega)) (fun cq9 => ?_)
    refine ev_lload (pc := 12) dX1_sumAtLevel_12 rfl ?_
    refine ev_lload_n (pc := 14) dX1_sumAtLevel_14 rfl ?_
    refine ev_aload_n (pc := 15) dX1_sumAtLevel_15 rfl ?_
    refine get_BK_able (pc := 16) dX1_sumAtLevel_16 Fl_X1_27 ?_
    refine ev_iload (pc := 19) dX1_sumAtLevel_19 rfl ?_
    refine ldN_BK_able (pc := 21) dX1_sumAtLevel_21 (by omega) rfl ?_
    refine ev_mmin_long (pc := 22) dX1_sumAtLevel_22 Mx_X1_62 Mxs_minJ In_Math Mxc_minJ rfl rfl ?_
    refine ev_ladd (pc := 25) dX1_sumAtLevel_25 ?_
    refine ev_lstore (pc := 26) (lv' := [(0, .ref 17), (1, .long _), (3, .int _), (4, .long _), (6, .int _)]) dX1_sumAtLevel_26 (Nat.le_of_ble_eq_true rfl) rfl ?_
    refine ev_iincN (pc := 28) (lv' := [(0, .ref 17), (1, .long _), (3, .int _), (4, .long _), (6, .int _)]) dX1_sumAtLevel_28 rfl (Nat.le_of_ble_eq_true rfl) rfl ?_
    refine ev_goto (pc := 31) (tgt := 6) dX1_sumAtLevel_31 (by decide) ?_
    exact ih
def stp : Nat → Int64
  | 0 => 0
  | r + 1 => lN (2 ^ r)
theorem stp_h : ∀ r, r < 31 → (stp (r + 1) >>> ((1 : Int32).toInt64 &&& 63) = stp r ∧ ¬ stp (r + 1) ≤ 0) := by decide +kernel
def glF (f : Int64 → Int64) (owed : Int64) : Nat → Int64 → Int64
  | 0, lv => lv
  | r + 1, lv => glF f owed r (if owed < f (lv + stp (r + 1)) then lv else lv + stp (r + 1))
theorem c_X1_greatestLevel {n : Nat} (hn : n ≤ 40) : Ct g mX1_greatestLevel [.ref 17, .int (nI n)] (hC S) (RJl (glF (fun z => sumAt (S.2.2.2.1 5) z n) (S.2.2.1 0) 31 0) S) := by
  have L : ∀ (r : Nat) (lv : Int64), r ≤ 31 → Ev g mX1_greatestLevel 7 [(0, .ref 17), (1, .int (nI n)), (2, .long lv), (4, .long (stp r))] [] (hC S) (RJl (glF (fun z => sumAt (S.2.2.2.1 5) z n) (S.2.2.1 0) r lv) S) := by
    intro r
    induction r with
    | zero =>
      intro lv hr
      refine ev_lload (pc := 7) dX1_greatestLevel_7 rfl ?_
      refine ev_lconst (pc := 9) (v := 0) dX1_greatestLevel_9 (by decide) ?_
      refine ev_lcmp_le (pc := 10) (tgt := 45) dX1_greatestLevel_10 dX1_greatestLevel_11 (by decide) (fun cq10 => ?_) (fun cq10 => absurd (by decide) cq10)
      refine ev_lload_n (pc := 45) dX1_greatestLevel_45 rfl ?_
      exact ev_lret (pc := 46) dX1_greatestLevel_46 rfl rl
    | succ r ih =>
      intro lv hr
      obtain ⟨h1, h2⟩ := stp_h r (by omega)
      rw [glF]
      refine ev_lload (pc := 7) dX1_greatestLevel_7 rfl ?_
      refine ev_lconst (pc := 9) (v := 0) dX1_greatestLevel_9 (by decide) ?_
      refine ev_lcmp_le (pc := 10) (tgt := 45) dX1_greatestLevel_10 dX1_greatestLevel_11 (by decide) (fun cq10 => absurd cq10 h2) (fun cq10 => ?_)
      refine ev_aload_n (pc := 14) dX1_greatestLevel_14 rfl ?_
      refine ev_lload_n (pc := 15) dX1_greatestLevel_15 rfl ?_
      refine ev_lload (pc := 16) dX1_greatestLevel_16 rfl ?_
      refine ev_ladd (pc := 18) dX1_greatestLevel_18 ?_
      refine ev_iload_n (pc := 19) dX1_greatestLevel_19 rfl ?_
      refine callV2L (pc := 20) dX1_greatestLevel_20 Ml_X1_140 M_X1_sumAtLevel rfl rfl rfl rfl (c_X1_sumAtLevel hn) ?_
      refine ev_aload_n (pc := 23) dX1_greatestLevel_23 rfl ?_
      refine get_BK_owedTogether (pc := 24) dX1_greatestLevel_24 Fl_X1_103 rfl ?_
      refine ev_lcmp_gt (pc := 27) (tgt := 36) dX1_greatestLevel_27 dX1_greatestLevel_28 (by decide) (fun cq27 => ?_) (fun cq27 => ?_)
      · rw [if_pos cq27]
        refine ev_lload (pc := 36) dX1_greatestLevel_36 rfl ?_
        refine ev_iconst (pc := 38) (v := 1) dX1_greatestLevel_38 (by decide) ?_
        refine ev_lshr (pc := 39) dX1_greatestLevel_39 ?_
        refine ev_lstore (pc := 40) (lv' := [(0, .ref 17), (1, .int _), (2, .long _), (4, .long _)]) dX1_greatestLevel_40 (Nat.le_of_ble_eq_true rfl) rfl ?_
        refine ev_goto (pc := 42) (tgt := 7) dX1_greatestLevel_42 (by decide) ?_
        rw [h1]
        exact ih _ (by omega)
      · rw [if_neg cq27]
        refine ev_lload_n (pc := 31) dX1_greatestLevel_31 rfl ?_
        refine ev_lload (pc := 32) dX1_greatestLevel_32 rfl ?_
        refine ev_ladd (pc := 34) dX1_greatestLevel_34 ?_
        refine ev_lstore_n (pc := 35) (lv' := [(0, .ref 17), (1, .int _), (2, .long _), (4, .long _)]) dX1_greatestLevel_35 (Nat.le_of_ble_eq_true rfl) rfl ?_
        refine ev_lload (pc := 36) dX1_greatestLevel_36 rfl ?_
        refine ev_iconst (pc := 38) (v := 1) dX1_greatestLevel_38 (by decide) ?_
        refine ev_lshr (pc := 39) dX1_greatestLevel_39 ?_
        refine ev_lstore (pc := 40) (lv' := [(0, .ref 17), (1, .int _), (2, .long _), (4, .long _)]) dX1_greatestLevel_40 (Nat.le_of_ble_eq_true rfl) rfl ?_
        refine ev_goto (pc := 42) (tgt := 7) dX1_greatestLevel_42 (by decide) ?_
        rw [h1]
        exact ih _ (by omega)
  refine ct_of rfl rfl ?_
  refine ev_lconst (pc := 0) (v := 0) dX1_greatestLevel_0 (by decide) ?_
  refine ev_lstore_n (pc := 1) (lv' := [(0, .ref 17), (1, .int _), (2, .long _)]) dX1_greatestLevel_1 (Nat.le_of_ble_eq_true rfl) rfl ?_
  refine ev_ldc2 (pc := 2) dX1_greatestLevel_2 Cn_X1_144 ?_
  refine ev_lstore (pc := 5) (lv' := [(0, .ref 17), (1, .int _), (2, .long _), (4, .long _)]) dX1_greatestLevel_5 (Nat.le_of_ble_eq_true rfl) rfl ?_
  exact L 31 0 (by omega)
def geB (lv : Int64) (k : Nat) (p : St × Int64) : St × Int64 :=
  let X1 := setB p.1 6 (vp_updL (p.1.2.2.2.1 6) k (if p.1.2.2.2.1 5 k < lv then p.1.2.2.2.1 5 k else lv))
  if p.2 ≤ 0 then (X1, p.2) else if X1.2.2.2.1 5 k ≤ lv then (X1, p.2) else (setB X1 6 (vp_updL (X1.2.2.2.1 6) k (X1.2.2.2.1 6 k + 1)), p.2 - 1)
def giveS (n : Nat) (S : St) : St :=
  if S.2.2.1 0 < S.2.2.1 1 then
    let lv := glF (fun z => sumAt (S.2.2.2.1 5) z n) (S.2.2.1 0) 31 0
    let X := (it (geB lv) n (S, S.2.2.1 0 - sumAt (S.2.2.2.1 5) lv n)).1
    setL X 2 (X.2.2.1 0)
  else setL (setB S 6 (va_cpy (S.2.2.2.1 5) (S.2.2.2.1 6) 0 0 n)) 2 (S.2.2.1 1)
theorem geB_eq (lv : Int64) (k : Nat) (p : St × Int64) : eqB (geB lv k p).1 p.1 := by
  unfold geB
  dsimp only
  generalize (if p.1.2.2.2.1 5 k < lv then p.1.2.2.2.1 5 k else lv) = w
  split
  · exact eqB.rf
  · split <;> exact eqB.rf
theorem geB_eqs (lv : Int64) : ∀ (k : Nat) (p : St × Int64), eqB (it (geB lv) k p).1 p.1
  | 0, _ => eqB.rf
  | k + 1, p => (geB_eq lv k _).tr (geB_eqs lv k p)
theorem giveS_eq (n : Nat) (S : St) : eqB (giveS n S) S := by
  unfold giveS
  split
  · exact geB_eqs _ n (S, _)
  · exact eqB.rf
theorem copy_BK {M : MD} {pc idx n : Nat} {lv : List (Nat × Value)} {Post : Option Value → List va_E → Prop} (hn : n ≤ 40) (hf : Nat.ble 1 M.2.2.2.2.frames = true) (hw : Nat.ble (0 + (nativeFrameWords "java/lang/System" "arraycopy" 5 + 11)) M.2.2.2.2.locals = true) (d : decode M.2.1 pc = .ok (.invokestatic idx, 3)) (h1 : Cond.methodLink M.1.cls idx arraycopyName ∈ Ts) (k : Ev g M (pc + 3) lv [] (hC (setB S 6 (va_cpy (S.2.2.2.1 5) (S.2.2.2.1 6) 0 0 n))) Post) : Ev g M pc lv [.int (nI n), .int (nI 0), .ref 24, .int (nI 0), .ref 23] (hC S) Post := by
  have e1 : (nI n).toNatClampNeg = n := nI_clamp (by omega)
  have e0 : (nI 0).toNatClampNeg = 0 := nI_clamp (by omega)
  refine ev_copyl (n0 := 40) (n1 := 40) (f := S.2.2.2.1 5) (f1 := S.2.2.2.1 6) d h1 Mxn_copy Mxs_copy In_System rfl rfl (nI_pos (by omega)) (nI_pos (by omega)) (nI_pos (by omega)) (by rw [e0, e1]; omega) (by rw [e0, e1]; omega) hf hw (hp' := hC (setB S 6 (va_cpy (S.2.2.2.1 5) (S.2.2.2.1 6) 0 0 n))) ?_ k
  rw [e0, e1]
  rfl
theorem c_X1_giveEvenly {n : Nat} (hn : n ≤ 40) : Ct g mX1_giveEvenly [.ref 17, .int (nI n)] (hC S) (RV (giveS n S)) := by
  have step : ∀ (lv : Int64) (p : St × Int64) (k : Nat) (Post : Option Value → List va_E → Prop), k < n → Ev g mX1_giveEvenly 57 [(0, .ref 17), (1, .int (nI n)), (2, .long lv), (4, .long (geB lv k p).2), (6, .int (nI (k + 1)))] [] (hC (geB lv k p).1) Post → Ev g mX1_giveEvenly 57 [(0, .ref 17), (1, .int (nI n)), (2, .long lv), (4, .long p.2), (6, .int (nI k))] [] (hC p.1) Post := by
    intro lv p k Post hk ih
    unfold geB at ih
    dsimp only at ih
    refine ev_iload (pc := 57) dX1_giveEvenly_57 rfl ?_
    refine ev_iload_n (pc := 59) dX1_giveEvenly_59 rfl ?_
    refine ev_icmp_geN (pc := 60) (tgt := 123) (by omega) (by omega) dX1_giveEvenly_60 (by decide) (fun cq60 => absurd cq60 (by omega)) (fun cq60 => ?_)
    refine ev_aload_n (pc := 63) dX1_giveEvenly_63 rfl ?_
    refine get_BK_given (pc := 64) dX1_giveEvenly_64 Fl_X1_30 ?_
    refine ev_iload (pc := 67) dX1_giveEvenly_67 rfl ?_
    refine ev_lload_n (pc := 69) dX1_giveEvenly_69 rfl ?_
    refine ev_aload_n (pc := 70) dX1_giveEvenly_70 rfl ?_
    refine get_BK_able (pc := 71) dX1_giveEvenly_71 Fl_X1_27 ?_
    refine ev_iload (pc := 74) dX1_giveEvenly_74 rfl ?_
    refine ldN_BK_able (pc := 76) dX1_giveEvenly_76 (by omega) rfl ?_
    refine ev_mmin_long (pc := 77) dX1_giveEvenly_77 Mx_X1_62 Mxs_minJ In_Math Mxc_minJ rfl rfl ?_
    refine asN_BK_given (pc := 80) dX1_giveEvenly_80 (by omega) ?_
    refine ev_lload (pc := 81) dX1_giveEvenly_81 rfl ?_
    refine ev_lconst (pc := 83) (v := 0) dX1_giveEvenly_83 (by decide) ?_
    refine ev_lcmp_le (pc := 84) (tgt := 117) dX1_giveEvenly_84 dX1_giveEvenly_85 (by decide) (fun cq84 => ?_) (fun cq84 => ?_)
    · rw [if_pos cq84] at ih
      refine ev_iincN (pc := 117) (lv' := [(0, .ref 17), (1, .int _), (2, .long _), (4, .long _), (6, .int _)]) dX1_giveEvenly_117 rfl (Nat.le_of_ble_eq_true rfl) rfl ?_
      refine ev_goto (pc := 120) (tgt := 57) dX1_giveEvenly_120 (by decide) ?_
      exact ih
    · rw [if_neg cq84] at ih
      refine ev_aload_n (pc := 88) dX1_giveEvenly_88 rfl ?_
      refine get_BK_able (pc := 89) dX1_giveEvenly_89 Fl_X1_27 ?_
      refine ev_iload (pc := 92) dX1_giveEvenly_92 rfl ?_
      refine ldN_BK_able (pc := 94) dX1_giveEvenly_94 (by omega) rfl ?_
      refine ev_lload_n (pc := 95) dX1_giveEvenly_95 rfl ?_
      refine ev_lcmp_le (pc := 96) (tgt := 117) dX1_giveEvenly_96 dX1_giveEvenly_97 (by decide) (fun cq96 => ?_) (fun cq96 => ?_)
      · rw [if_pos cq96] at ih
        refine ev_iincN (pc := 117) (lv' := [(0, .ref 17), (1, .int _), (2, .long _), (4, .long _), (6, .int _)]) dX1_giveEvenly_117 rfl (Nat.le_of_ble_eq_true rfl) rfl ?_
        refine ev_goto (pc := 120) (tgt := 57) dX1_giveEvenly_120 (by decide) ?_
        exact ih
      · rw [if_neg cq96] at ih
        refine ev_aload_n (pc := 100) dX1_giveEvenly_100 rfl ?_
        refine get_BK_given (pc := 101) dX1_giveEvenly_101 Fl_X1_30 ?_
        refine ev_iload (pc := 104) dX1_giveEvenly_104 rfl ?_
        refine ev_dup2 (pc := 106) dX1_giveEvenly_106 rfl rfl ?_
        refine ldN_BK_given (pc := 107) dX1_giveEvenly_107 (by omega) rfl ?_
        refine ev_lconst (pc := 108) (v := 1) dX1_giveEvenly_108 (by decide) ?_
        refine ev_ladd (pc := 109) dX1_giveEvenly_109 ?_
        refine asN_BK_given (pc := 110) dX1_giveEvenly_110 (by omega) ?_
        refine ev_lload (pc := 111) dX1_giveEvenly_111 rfl ?_
        refine ev_lconst (pc := 113) (v := 1) dX1_giveEvenly_113 (by decide) ?_
        refine ev_lsub (pc := 114) dX1_giveEvenly_114 ?_
        refine ev_lstore (pc := 115) (lv' := [(0, .ref 17), (1, .int _), (2, .long _), (4, .long _), (6, .int _)]) dX1_giveEvenly_115 (Nat.le_of_ble_eq_true rfl) rfl ?_
        refine ev_iincN (pc := 117) (lv' := [(0, .ref 17), (1, .int _), (2, .long _), (4, .long _), (6, .int _)]) dX1_giveEvenly_117 rfl (Nat.le_of_ble_eq_true rfl) rfl ?_
        refine ev_goto (pc := 120) (tgt := 57) dX1_giveEvenly_120 (by decide) ?_
        exact ih
  have L : ∀ (lv m0 : Int64) (k : Nat), k ≤ n → Ev g mX1_giveEvenly 57 [(0, .ref 17), (1, .int (nI n)), (2, .long lv), (4, .long (it (geB lv) k (S, m0)).2), (6, .int (nI k))] [] (hC (it (geB lv) k (S, m0)).1) (RV (setL (it (geB lv) n (S, m0)).1 2 ((it (geB lv) n (S, m0)).1.2.2.1 0))) := by
    intro lv m0
    refine loop_up n ?_ ?_
    · skip
      refine ev_iload (pc := 57) dX1_giveEvenly_57 rfl ?_
      refine ev_iload_n (pc := 59) dX1_giveEvenly_59 rfl ?_
      refine ev_icmp_geN (pc := 60) (tgt := 123) (by omega) (by omega) dX1_giveEvenly_60 (by decide) (fun cq60 => ?_) (fun cq60 => absurd (Nat.le_refl n) cq60)
      refine ev_aload_n (pc := 123) dX1_giveEvenly_123 rfl ?_
      refine ev_aload_n (pc := 124) dX1_giveEvenly_124 rfl ?_
      refine get_BK_owedTogether (pc := 125) dX1_giveEvenly_125 Fl_X1_103 rfl ?_
      refine put_BK_givenTogether (pc := 128) dX1_giveEvenly_128 Fp_X1_134 ?_
      exact ev_ret (pc := 131) dX1_giveEvenly_131 rfl rv
    · intro k hk ih
      exact step _ _ k _ hk ih
  refine ct_of rfl rfl ?_
  unfold giveS
  refine ev_aload_n (pc := 0) dX1_giveEvenly_0 rfl ?_
  refine get_BK_ableTogether (pc := 1) dX1_giveEvenly_1 Fl_X1_107 rfl ?_
  refine ev_aload_n (pc := 4) dX1_giveEvenly_4 rfl ?_
  refine get_BK_owedTogether (pc := 5) dX1_giveEvenly_5 Fl_X1_103 rfl ?_
  refine ev_lcmp_gt (pc := 8) (tgt := 35) dX1_giveEvenly_8 dX1_giveEvenly_9 (by decide) (fun cq8 => ?_) (fun cq8 => ?_)
  · rw [if_pos cq8]
    refine ev_aload_n (pc := 35) dX1_giveEvenly_35 rfl ?_
    refine ev_iload_n (pc := 36) dX1_giveEvenly_36 rfl ?_
    refine callV1L (pc := 37) dX1_giveEvenly_37 Ml_X1_137 M_X1_greatestLevel rfl rfl rfl rfl (c_X1_greatestLevel hn) ?_
    refine ev_lstore_n (pc := 40) (lv' := [(0, .ref 17), (1, .int _), (2, .long _)]) dX1_giveEvenly_40 (Nat.le_of_ble_eq_true rfl) rfl ?_
    refine ev_aload_n (pc := 41) dX1_giveEvenly_41 rfl ?_
    refine get_BK_owedTogether (pc := 42) dX1_giveEvenly_42 Fl_X1_103 rfl ?_
    refine ev_aload_n (pc := 45) dX1_giveEvenly_45 rfl ?_
    refine ev_lload_n (pc := 46) dX1_giveEvenly_46 rfl ?_
    refine ev_iload_n (pc := 47) dX1_giveEvenly_47 rfl ?_
    refine callV2L (pc := 48) dX1_giveEvenly_48 Ml_X1_140 M_X1_sumAtLevel rfl rfl rfl rfl (c_X1_sumAtLevel hn) ?_
    refine ev_lsub (pc := 51) dX1_giveEvenly_51 ?_
    refine ev_lstore (pc := 52) (lv' := [(0, .ref 17), (1, .int _), (2, .long _), (4, .long _)]) dX1_giveEvenly_52 (Nat.le_of_ble_eq_true rfl) rfl ?_
    refine ev_iconst (pc := 54) (v := nI 0) dX1_giveEvenly_54 (by decide) ?_
    refine ev_istore (pc := 55) (lv' := [(0, .ref 17), (1, .int _), (2, .long _), (4, .long _), (6, .int _)]) dX1_giveEvenly_55 (Nat.le_of_ble_eq_true rfl) rfl ?_
    exact L _ _ 0 (Nat.zero_le _)
  · rw [if_neg cq8]
    refine ev_aload_n (pc := 12) dX1_giveEvenly_12 rfl ?_
    refine get_BK_able (pc := 13) dX1_giveEvenly_13 Fl_X1_27 ?_
    refine ev_iconst (pc := 16) (v := nI 0) dX1_giveEvenly_16 (by decide) ?_
    refine ev_aload_n (pc := 17) dX1_giveEvenly_17 rfl ?_
    refine get_BK_given (pc := 18) dX1_giveEvenly_18 Fl_X1_30 ?_
    refine ev_iconst (pc := 21) (v := nI 0) dX1_giveEvenly_21 (by decide) ?_
    refine ev_iload_n (pc := 22) dX1_giveEvenly_22 rfl ?_
    refine copy_BK (pc := 23) hn rfl rfl dX1_giveEvenly_23 Mx_X1_128 ?_
    refine ev_aload_n (pc := 26) dX1_giveEvenly_26 rfl ?_
    refine ev_aload_n (pc := 27) dX1_giveEvenly_27 rfl ?_
    refine get_BK_ableTogether (pc := 28) dX1_giveEvenly_28 Fl_X1_107 rfl ?_
    refine put_BK_givenTogether (pc := 31) dX1_giveEvenly_31 Fp_X1_134 ?_
    exact ev_ret (pc := 34) dX1_giveEvenly_34 rfl rv
end BK2
