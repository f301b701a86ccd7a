section RR2
variable {g : GG} {S : St}
def lenT (S : St) : Nat := (S.1 6).toNatClampNeg
def begR (S : St) : Nat := (S.1 8).toNatClampNeg
def endR (S : St) : Nat := (S.1 9).toNatClampNeg
/-- the tape's length, and where the reading stands -/
def Tb (S : St) : Prop := ∃ len p : Nat, S.1 6 = nI len ∧ len ≤ 200 ∧ S.1 9 = nI p ∧ p ≤ len
def Tk (S : St) : Prop := ∃ len s p : Nat, S.1 6 = nI len ∧ len ≤ 200 ∧ S.1 8 = nI s ∧ S.1 9 = nI p ∧ s ≤ p ∧ p ≤ len ∧ (¬ S.1 7 = 0 → s < len)
theorem Tk.b (h : Tk S) : Tb S := by
  obtain ⟨len, s, p, h1, h2, h3, h4, h5, h6, h7⟩ := h
  exact ⟨len, p, h1, h2, h4, h6⟩
def nextS (S : St) : St := nextP (lenT S) (endR S) S
theorem nextP_kind (len p : Nat) : (nextP len p S).1 7 = kindF (S.2.1 10) len (skF (S.2.1 10) (len - p) p) := rfl
theorem kindF_lt {by' : Nat → Int32} {len p : Nat} (h : ¬ kindF by' len p = 0) : p < len := by
  unfold kindF at h
  split at h
  · assumption
  · exact absurd rfl h
theorem nextS_Tk (h : Tb S) : Tk (nextS S) := by
  obtain ⟨len, p, h1, h2, h3, h4⟩ := h
  have e1 : lenT S = len := by unfold lenT; rw [h1]; exact nI_clamp (by omega)
  have e2 : endR S = p := by unfold endR; rw [h3]; exact nI_clamp (by omega)
  unfold nextS
  rw [e1, e2]
  have hsk := skF_le (S.2.1 10) (len - p) p
  refine ⟨len, _, _, h1, h2, rfl, rfl, ?_, ?_, ?_⟩
  · unfold bhF
    have := ruF_le (S.2.1 10) (kindF (S.2.1 10) len (skF (S.2.1 10) (len - p) p)) (len - skF (S.2.1 10) (len - p) p) (skF (S.2.1 10) (len - p) p)
    split
    · omega
    · split
      · omega
      · split <;> omega
  · unfold bhF
    have := ruF_le (S.2.1 10) (kindF (S.2.1 10) len (skF (S.2.1 10) (len - p) p)) (len - skF (S.2.1 10) (len - p) p) (skF (S.2.1 10) (len - p) p)
    split
    · rename_i hk
      have := kindF_lt (by rw [hk]; decide)
      omega
    · split
      · omega
      · split <;> omega
  · intro hk
    exact kindF_lt hk
theorem c_nextS (h : Tb S) : Ct g mX2_next [.ref 16] (hC S) (RV (nextS S)) := by
  obtain ⟨len, p, h1, h2, h3, h4⟩ := h
  have e1 : lenT S = len := by unfold lenT; rw [h1]; exact nI_clamp (by omega)
  have e2 : endR S = p := by unfold endR; rw [h3]; exact nI_clamp (by omega)
  unfold nextS
  rw [e1, e2]
  exact c_X2_next h1 h2 h3 h4
def semiB (S : St) : Bool := decide (S.1 7 = 3) && decide (S.2.1 10 (begR S) = 59)
theorem c_X2_isSemicolon (h : Tk S) : Ct g mX2_isSemicolon [.ref 16] (hC S) (RI (b2i (semiB S)) S) := by
  obtain ⟨len, s, p, h1, h2, h3, h4, h5, h6, h7⟩ := h
  have e1 : begR S = s := by unfold begR; rw [h3]; exact nI_clamp (by omega)
  unfold semiB
  rw [e1]
  refine ct_of rfl rfl ?_
  refine ev_aload_n (pc := 0) dX2_isSemicolon_0 rfl ?_
  refine get_R_kind (pc := 1) dX2_isSemicolon_1 Fl_X2_31 rfl ?_
  refine ev_iconst (pc := 4) (v := 3) dX2_isSemicolon_4 (by decide) ?_
  refine ev_icmp_ne (pc := 5) (tgt := 29) dX2_isSemicolon_5 (by decide) (fun cq5 => ?_) (fun cq5 => ?_)
  · refine ev_iconst (pc := 29) (v := 0) dX2_isSemicolon_29 (by decide) ?_
    exact ev_iret (pc := 30) dX2_isSemicolon_30 rfl rfl (ri' (by simp [b2i, *]) rfl)
  · refine ev_aload_n (pc := 8) dX2_isSemicolon_8 rfl ?_
    refine get_R_text (pc := 9) dX2_isSemicolon_9 Fl_X2_9 ?_
    refine get_TP_bytes (pc := 12) dX2_isSemicolon_12 Fl_X2_103 ?_
    refine ev_aload_n (pc := 15) dX2_isSemicolon_15 rfl ?_
    refine get_R_start (pc := 16) dX2_isSemicolon_16 Fl_X2_38 h3 ?_
    refine ldN_TP_bytes (pc := 19) dX2_isSemicolon_19 (by have := h7 (by rw [cq5]; decide); omega) rfl ?_
    refine ev_bipush (pc := 20) (v := 59) dX2_isSemicolon_20 (by decide) ?_
    refine ev_icmp_ne (pc := 22) (tgt := 29) dX2_isSemicolon_22 (by decide) (fun cq22 => ?_) (fun cq22 => ?_)
    · refine ev_iconst (pc := 29) (v := 0) dX2_isSemicolon_29 (by decide) ?_
      exact ev_iret (pc := 30) dX2_isSemicolon_30 rfl rfl (ri' (by simp [b2i, *]) rfl)
    · refine ev_iconst (pc := 25) (v := 1) dX2_isSemicolon_25 (by decide) ?_
      refine ev_goto (pc := 26) (tgt := 30) dX2_isSemicolon_26 (by decide) ?_
      exact ev_iret (pc := 30) dX2_isSemicolon_30 rfl rfl (ri' (by simp [b2i, *]) rfl)
/-- the token is the word i -/
def wdF (by' : Nat → Int32) (s i : Nat) : Nat → Nat → Bool
  | 0, _ => true
  | r + 1, k => if by' (s + k) = chJ i k then wdF by' s i r (k + 1) else false
def isWd (S : St) (i : Nat) : Bool := decide (S.1 7 = 1) && (decide (endR S - begR S = lenJS.getD i 0) && wdF (S.2.1 10) (begR S) i (lenJS.getD i 0) 0)
theorem c_X2_isWord {i : Nat} (hi : i < 7) (h : Tk S) : Ct g mX2_isWord [.ref 16, .ref (100 + i)] (hC S) (RI (b2i (isWd S i)) S) := by
  obtain ⟨len, s, p, h1, h2, h3, h4, h5, h6, h7⟩ := h
  have e1 : begR S = s := by unfold begR; rw [h3]; exact nI_clamp (by omega)
  have e2 : endR S = p := by unfold endR; rw [h4]; exact nI_clamp (by omega)
  have hl5 := (len7 i hi).2
  unfold isWd
  rw [e1, e2]
  have L : ∀ (r k : Nat), k + r = lenJS.getD i 0 → p - s = lenJS.getD i 0 → Ev g mX2_isWord 28 [(0, .ref 16), (1, .ref (100 + i)), (2, .int (nI k))] [] (hC S) (RI (b2i (wdF (S.2.1 10) s i r k)) S) := by
    intro r
    induction r with
    | zero =>
      intro k hk hps
      refine ev_iload_n (pc := 28) dX2_isWord_28 rfl ?_
      refine ev_aload_n (pc := 29) dX2_isWord_29 rfl ?_
      refine callT0I (pc := 30) dX2_isWord_30 Ml_X2_110 M_J0_length_8abf5 rfl rfl hi rfl (c_J0_length hi) ?_
      refine ev_icmp_geN (pc := 33) (tgt := 66) (by omega) (by omega) dX2_isWord_33 (by decide) (fun c => ?_) (fun c => absurd (show lenJS.getD i 0 ≤ k by omega) c)
      refine ev_iconst (pc := 66) (v := 1) dX2_isWord_66 (by decide) ?_
      exact ev_iret (pc := 67) dX2_isWord_67 rfl rfl ri
    | succ r ih =>
      intro k hk hps
      rw [wdF]
      refine ev_iload_n (pc := 28) dX2_isWord_28 rfl ?_
      refine ev_aload_n (pc := 29) dX2_isWord_29 rfl ?_
      refine callT0I (pc := 30) dX2_isWord_30 Ml_X2_110 M_J0_length_8abf5 rfl rfl hi rfl (c_J0_length hi) ?_
      refine ev_icmp_geN (pc := 33) (tgt := 66) (by omega) (by omega) dX2_isWord_33 (by decide) (fun c => absurd c (by omega)) (fun c => ?_)
      refine ev_aload_n (pc := 36) dX2_isWord_36 rfl ?_
      refine get_R_text (pc := 37) dX2_isWord_37 Fl_X2_9 ?_
      refine get_TP_bytes (pc := 40) dX2_isWord_40 Fl_X2_103 ?_
      refine ev_aload_n (pc := 43) dX2_isWord_43 rfl ?_
      refine get_R_start (pc := 44) dX2_isWord_44 Fl_X2_38 h3 ?_
      refine ev_iload_n (pc := 47) dX2_isWord_47 rfl ?_
      refine ev_iadd (pc := 48) dX2_isWord_48 ?_
      rw [nI_add]
      refine ldN_TP_bytes (pc := 49) dX2_isWord_49 (by omega) rfl ?_
      refine ev_aload_n (pc := 50) dX2_isWord_50 rfl ?_
      refine ev_iload_n (pc := 51) dX2_isWord_51 rfl ?_
      refine callT1I (pc := 52) dX2_isWord_52 Ml_X2_114 M_J0_charAt_5068e rfl rfl hi rfl (c_J0_charAt hi (by omega)) ?_
      refine ev_icmp_eq (pc := 55) (tgt := 60) dX2_isWord_55 (by decide) (fun c => ?_) (fun c => ?_)
      · rw [if_pos c]
        refine ev_iincN (pc := 60) (lv' := [(0, .ref 16), (1, .ref (100 + i)), (2, .int (nI (k + 1)))]) dX2_isWord_60 rfl (Nat.le_of_ble_eq_true rfl) rfl ?_
        refine ev_goto (pc := 63) (tgt := 28) dX2_isWord_63 (by decide) ?_
        exact ih _ (by omega) hps
      · rw [if_neg c]
        refine ev_iconst (pc := 58) (v := 0) dX2_isWord_58 (by decide) ?_
        exact ev_iret (pc := 59) dX2_isWord_59 rfl rfl ri
  refine ct_of rfl rfl ?_
  refine ev_aload_n (pc := 0) dX2_isWord_0 rfl ?_
  refine get_R_kind (pc := 1) dX2_isWord_1 Fl_X2_31 rfl ?_
  refine ev_iconst (pc := 4) (v := 1) dX2_isWord_4 (by decide) ?_
  have no : ∀ lv, isWd S i = false → Ev g mX2_isWord 24 lv [] (hC S) (RI (b2i false) S) := by
    intro lv _
    refine ev_iconst (pc := 24) (v := 0) dX2_isWord_24 (by decide) ?_
    exact ev_iret (pc := 25) dX2_isWord_25 rfl rfl ri
  have uf : isWd S i = (decide (S.1 7 = 1) && (decide (p - s = lenJS.getD i 0) && wdF (S.2.1 10) s i (lenJS.getD i 0) 0)) := by unfold isWd; rw [e1, e2]
  refine ev_icmp_ne (pc := 5) (tgt := 24) dX2_isWord_5 (by decide) (fun c => ?_) (fun c => ?_)
  · rw [show decide (S.1 7 = 1) = false from decide_eq_false c, Bool.false_and] at uf ⊢
    exact no _ uf
  · refine ev_aload_n (pc := 8) dX2_isWord_8 rfl ?_
    refine get_R_behind (pc := 9) dX2_isWord_9 Fl_X2_24 h4 ?_
    refine ev_aload_n (pc := 12) dX2_isWord_12 rfl ?_
    refine get_R_start (pc := 13) dX2_isWord_13 Fl_X2_38 h3 ?_
    refine ev_isub (pc := 16) dX2_isWord_16 ?_
    rw [pk_sub h5]
    refine ev_aload_n (pc := 17) dX2_isWord_17 rfl ?_
    refine callT0I (pc := 18) dX2_isWord_18 Ml_X2_110 M_J0_length_8abf5 rfl rfl hi rfl (c_J0_length hi) ?_
    rw [show decide (S.1 7 = 1) = true from decide_eq_true c, Bool.true_and] at uf ⊢
    refine ev_icmp_eqN (pc := 21) (tgt := 26) (by omega) (by omega) dX2_isWord_21 (by decide) (fun cq2 => ?_) (fun cq2 => ?_)
    · rw [show decide (p - s = lenJS.getD i 0) = true from decide_eq_true cq2, Bool.true_and]
      refine ev_iconst (pc := 26) (v := nI 0) dX2_isWord_26 (by decide) ?_
      refine ev_istore_n (pc := 27) (lv' := [(0, .ref 16), (1, .ref (100 + i)), (2, .int (nI 0))]) dX2_isWord_27 (Nat.le_of_ble_eq_true rfl) rfl ?_
      exact L _ 0 (by omega) cq2
    · rw [show decide (p - s = lenJS.getD i 0) = false from decide_eq_false cq2, Bool.false_and] at uf ⊢
      exact no _ uf
def nuF (by' : Nat → Int32) : Nat → Nat → Int32 → Int32
  | 0, _, v => v
  | r + 1, k, v => nuF by' r (k + 1) (if 10001 < v * 10 + by' k - 48 then 10001 else v * 10 + by' k - 48)
def numR (S : St) : Int32 := if S.1 7 = 2 then nuF (S.2.1 10) (endR S - begR S) (begR S) 0 else -1
theorem c_X2_number (h : Tk S) : Ct g mX2_number [.ref 16] (hC S) (RI (numR S) S) := by
  obtain ⟨len, s, p, h1, h2, h3, h4, h5, h6, h7⟩ := h
  have e1 : begR S = s := by unfold begR; rw [h3]; exact nI_clamp (by omega)
  have e2 : endR S = p := by unfold endR; rw [h4]; exact nI_clamp (by omega)
  unfold numR
  rw [e1, e2]
  have L : ∀ (r k : Nat) (v : Int32), k + r = p → Ev g mX2_number 17 [(0, .ref 16), (1, .int v), (2, .int (nI k))] [] (hC S) (RI (nuF (S.2.1 10) r k v) S) := by
    intro r
    induction r with
    | zero =>
      intro k v hk
      refine ev_iload_n (pc := 17) dX2_number_17 rfl ?_
      refine ev_aload_n (pc := 18) dX2_number_18 rfl ?_
      refine get_R_behind (pc := 19) dX2_number_19 Fl_X2_24 h4 ?_
      refine ev_icmp_geN (pc := 22) (tgt := 55) (by omega) (by omega) dX2_number_22 (by decide) (fun cq22 => ?_) (fun cq22 => absurd (show p ≤ k by omega) cq22)
      refine ev_iload_n (pc := 55) dX2_number_55 rfl ?_
      exact ev_iret (pc := 56) dX2_number_56 rfl rfl ri
    | succ r ih =>
      intro k v hk
      rw [nuF]
      refine ev_iload_n (pc := 17) dX2_number_17 rfl ?_
      refine ev_aload_n (pc := 18) dX2_number_18 rfl ?_
      refine get_R_behind (pc := 19) dX2_number_19 Fl_X2_24 h4 ?_
      refine ev_icmp_geN (pc := 22) (tgt := 55) (by omega) (by omega) dX2_number_22 (by decide) (fun cq22 => absurd cq22 (by omega)) (fun cq22 => ?_)
      refine ev_iload_n (pc := 25) dX2_number_25 rfl ?_
      refine ev_bipush (pc := 26) (v := 10) dX2_number_26 (by decide) ?_
      refine ev_imul (pc := 28) dX2_number_28 ?_
      refine ev_aload_n (pc := 29) dX2_number_29 rfl ?_
      refine get_R_text (pc := 30) dX2_number_30 Fl_X2_9 ?_
      refine get_TP_bytes (pc := 33) dX2_number_33 Fl_X2_103 ?_
      refine ev_iload_n (pc := 36) dX2_number_36 rfl ?_
      refine ldN_TP_bytes (pc := 37) dX2_number_37 (by omega) rfl ?_
      refine ev_iadd (pc := 38) dX2_number_38 ?_
      refine ev_bipush (pc := 39) (v := 48) dX2_number_39 (by decide) ?_
      refine ev_isub (pc := 41) dX2_number_41 ?_
      refine ev_sipush (pc := 42) (v := 10001) dX2_number_42 (by decide) ?_
      refine ev_mmin (pc := 45) dX2_number_45 Mx_X2_118 Mxs_minI In_Math Mxc_minI rfl rfl ?_
      refine ev_istore_n (pc := 48) (lv' := [(0, .ref 16), (1, .int _), (2, .int _)]) dX2_number_48 (Nat.le_of_ble_eq_true rfl) rfl ?_
      refine ev_iincN (pc := 49) (lv' := [(0, .ref 16), (1, .int _), (2, .int _)]) dX2_number_49 rfl (Nat.le_of_ble_eq_true rfl) rfl ?_
      refine ev_goto (pc := 52) (tgt := 17) dX2_number_52 (by decide) ?_
      exact ih _ _ (by omega)
  refine ct_of rfl rfl ?_
  refine ev_aload_n (pc := 0) dX2_number_0 rfl ?_
  refine get_R_kind (pc := 1) dX2_number_1 Fl_X2_31 rfl ?_
  refine ev_iconst (pc := 4) (v := 2) dX2_number_4 (by decide) ?_
  refine ev_icmp_eq (pc := 5) (tgt := 10) dX2_number_5 (by decide) (fun cq5 => ?_) (fun cq5 => ?_)
  · rw [if_pos cq5]
    refine ev_iconst (pc := 10) (v := 0) dX2_number_10 (by decide) ?_
    refine ev_istore_n (pc := 11) (lv' := [(0, .ref 16), (1, .int _)]) dX2_number_11 (Nat.le_of_ble_eq_true rfl) rfl ?_
    refine ev_aload_n (pc := 12) dX2_number_12 rfl ?_
    refine get_R_start (pc := 13) dX2_number_13 Fl_X2_38 h3 ?_
    refine ev_istore_n (pc := 16) (lv' := [(0, .ref 16), (1, .int _), (2, .int _)]) dX2_number_16 (Nat.le_of_ble_eq_true rfl) rfl ?_
    exact L _ _ _ (by omega)
  · rw [if_neg cq5]
    refine ev_iconst (pc := 8) (v := -1) dX2_number_8 (by decide) ?_
    exact ev_iret (pc := 9) dX2_number_9 rfl rfl ri
end RR2
