section RR
variable {g : GG} {S : St}
theorem len7 : ∀ i, i < 7 → (Int32.ofNat (lenJS.getD i 0) >>> ((0 : Int32) &&& 31) = nI (lenJS.getD i 0) ∧ lenJS.getD i 0 ≤ 5) := by decide +kernel
theorem c_J0_coder {i : Nat} (hi : i < 7) : Ct g mJ0_coder_7d493 [.ref (100 + i)] (hC S) (RI 0 S) := by
  refine ct_of rfl rfl ?_
  refine ev_compact (pc := 0) dJ0_coder_7d493_0 Fs_COMPACT_STRINGS ?_
  refine ev_if_eq (pc := 3) (tgt := 13) dJ0_coder_7d493_3 (by decide) (fun c => absurd c (by decide)) (fun c => ?_)
  refine ev_aload_n (pc := 6) dJ0_coder_7d493_6 rfl ?_
  refine ev_strCoder (pc := 7) dJ0_coder_7d493_7 Fs_coder hi ?_
  refine ev_goto (pc := 10) (tgt := 14) dJ0_coder_7d493_10 (by decide) ?_
  exact ev_iret (pc := 14) dJ0_coder_7d493_14 rfl rfl ri
theorem c_J0_length {i : Nat} (hi : i < 7) : Ct g mJ0_length_8abf5 [.ref (100 + i)] (hC S) (RI (nI (lenJS.getD i 0)) S) := by
  refine ct_of rfl rfl ?_
  refine ev_aload_n (pc := 0) dJ0_length_8abf5_0 rfl ?_
  refine ev_strVal (pc := 1) dJ0_length_8abf5_1 Fs_value hi ?_
  refine ev_blen (pc := 4) dJ0_length_8abf5_4 hi rfl ?_
  refine ev_aload_n (pc := 5) dJ0_length_8abf5_5 rfl ?_
  refine callT0I (pc := 6) dJ0_length_8abf5_6 Ml_J0_335 M_J0_coder_7d493 rfl rfl hi rfl (c_J0_coder hi) ?_
  refine ev_ishr (pc := 9) dJ0_length_8abf5_9 ?_
  exact ev_iret (pc := 10) dJ0_length_8abf5_10 rfl rfl (ri' (len7 i hi).1 rfl)
theorem c_J0_isLatin1 {i : Nat} (hi : i < 7) : Ct g mJ0_isLatin1_aae02 [.ref (100 + i)] (hC S) (RI 1 S) := by
  refine ct_of rfl rfl ?_
  refine ev_compact (pc := 0) dJ0_isLatin1_aae02_0 Fs_COMPACT_STRINGS ?_
  refine ev_if_eq (pc := 3) (tgt := 17) dJ0_isLatin1_aae02_3 (by decide) (fun c => absurd c (by decide)) (fun c => ?_)
  refine ev_aload_n (pc := 6) dJ0_isLatin1_aae02_6 rfl ?_
  refine ev_strCoder (pc := 7) dJ0_isLatin1_aae02_7 Fs_coder hi ?_
  refine ev_if_ne (pc := 10) (tgt := 17) dJ0_isLatin1_aae02_10 (by decide) (fun c => absurd rfl c) (fun c => ?_)
  refine ev_iconst (pc := 13) (v := 1) dJ0_isLatin1_aae02_13 (by decide) ?_
  refine ev_goto (pc := 14) (tgt := 18) dJ0_isLatin1_aae02_14 (by decide) ?_
  exact ev_iret (pc := 18) dJ0_isLatin1_aae02_18 rfl rfl ri
def chJ (i k : Nat) : Int32 := (bytJS.getD i []).getD k 0
theorem ch7 : ∀ i, i < 7 → ∀ k, k < lenJS.getD i 0 → ((chJ i k &&& 255).toUInt32 % 65536).toInt32 = chJ i k ∧ narrow .char (.int (chJ i k)) = .int (chJ i k) := by decide +kernel
theorem c_J3_checkIndex {i n : Nat} {v : Value} (hv : v.category = 1) (h : i < n) (hn : n < 2 ^ 31) : Ct g mJ3_checkIndex_8e157 [.int (nI i), .int (nI n), v] (hC S) (RI (nI i) S) := by
  refine ct_of rfl (by cases v <;> first | rfl | (exact absurd hv (by simp [Value.category]))) ?_
  refine ev_iload_n (pc := 0) dJ3_checkIndex_8e157_0 rfl ?_
  refine ev_if_lt (pc := 1) (tgt := 9) dJ3_checkIndex_8e157_1 (by decide) (fun c => absurd c (nI_pos (by omega))) (fun c => ?_)
  refine ev_iload_n (pc := 4) dJ3_checkIndex_8e157_4 rfl ?_
  refine ev_iload_n (pc := 5) dJ3_checkIndex_8e157_5 rfl ?_
  refine ev_icmp_ltN (pc := 6) (tgt := 16) (by omega) (by omega) dJ3_checkIndex_8e157_6 (by decide) (fun c => ?_) (fun c => absurd h c)
  refine ev_iload_n (pc := 16) dJ3_checkIndex_8e157_16 rfl ?_
  exact ev_iret (pc := 17) dJ3_checkIndex_8e157_17 rfl rfl ri
theorem c_J0_checkIndex {i n : Nat} (h : i < n) (hn : n < 2 ^ 31) : Ct g mJ0_checkIndex_df160 [.int (nI i), .int (nI n)] (hC S) (RV S) := by
  refine ct_of rfl rfl ?_
  refine ev_iload_n (pc := 0) dJ0_checkIndex_df160_0 rfl ?_
  refine ev_iload_n (pc := 1) dJ0_checkIndex_df160_1 rfl ?_
  refine ev_siob (pc := 2) dJ0_checkIndex_df160_2 Fs_SIOOBE (fun v hv => ?_)
  refine callS3I (pc := 5) dJ0_checkIndex_df160_5 Ml_J0_1059 M_J3_checkIndex_8e157 rfl rfl (c_J3_checkIndex hv h hn) ?_
  refine ev_pop (pc := 8) dJ0_checkIndex_df160_8 rfl ?_
  exact ev_ret (pc := 9) dJ0_checkIndex_df160_9 rfl rv
theorem c_J1_charAt {i k : Nat} (hi : i < 7) (hk : k < lenJS.getD i 0) : Ct g mJ1_charAt_3b067 [.ref (200 + i), .int (nI k)] (hC S) (RI (chJ i k) S) := by
  have h5 := (len7 i hi).2
  have ek : (nI k).toNatClampNeg = k := nI_clamp (by omega)
  refine ct_of rfl rfl ?_
  refine ev_iload_n (pc := 0) dJ1_charAt_3b067_0 rfl ?_
  refine ev_aload_n (pc := 1) dJ1_charAt_3b067_1 rfl ?_
  refine ev_blen (pc := 2) (v := nI (lenJS.getD i 0)) dJ1_charAt_3b067_2 hi rfl ?_
  refine callS2V (pc := 3) dJ1_charAt_3b067_3 Ml_J1_9 M_J0_checkIndex_df160 rfl rfl (c_J0_checkIndex hk (by omega)) ?_
  refine ev_aload_n (pc := 6) dJ1_charAt_3b067_6 rfl ?_
  refine ev_iload_n (pc := 7) dJ1_charAt_3b067_7 rfl ?_
  refine ev_bald (pc := 8) dJ1_charAt_3b067_8 hi (vp_in_nI hk (by omega)) ?_
  refine ev_sipush (pc := 9) (v := 255) dJ1_charAt_3b067_9 (by decide) ?_
  refine ev_iand (pc := 12) dJ1_charAt_3b067_12 ?_
  refine ev_i2c (pc := 13) dJ1_charAt_3b067_13 ?_
  rw [ek]
  have hc := ch7 i hi k hk
  refine ev_iret (pc := 14) dJ1_charAt_3b067_14 rfl ?_ (ri' hc.1 rfl)
  rw [show ((((bytJS.getD i []).getD k 0) &&& 255).toUInt32 % 65536).toInt32 = chJ i k from hc.1]
  exact hc.2
theorem c_J0_charAt {i k : Nat} (hi : i < 7) (hk : k < lenJS.getD i 0) : Ct g mJ0_charAt_5068e [.ref (100 + i), .int (nI k)] (hC S) (RI (chJ i k) S) := by
  refine ct_of rfl rfl ?_
  refine ev_aload_n (pc := 0) dJ0_charAt_5068e_0 rfl ?_
  refine callT0I (pc := 1) dJ0_charAt_5068e_1 Ml_J0_492 M_J0_isLatin1_aae02 rfl rfl hi rfl (c_J0_isLatin1 hi) ?_
  refine ev_if_eq (pc := 4) (tgt := 16) dJ0_charAt_5068e_4 (by decide) (fun c => absurd c (by decide)) (fun c => ?_)
  refine ev_aload_n (pc := 7) dJ0_charAt_5068e_7 rfl ?_
  refine ev_strVal (pc := 8) dJ0_charAt_5068e_8 Fs_value hi ?_
  refine ev_iload_n (pc := 11) dJ0_charAt_5068e_11 rfl ?_
  refine callS2I (pc := 12) dJ0_charAt_5068e_12 Ml_J0_495 M_J1_charAt_3b067 rfl rfl (c_J1_charAt hi hk) ?_
  exact ev_iret (pc := 15) dJ0_charAt_5068e_15 rfl (ch7 i hi k hk).2 ri
def dgK (c : Int32) : Int32 := if c < 48 then 3 else if 57 < c then 3 else 2
def kdB (c : Int32) : Int32 := if c < 97 then dgK c else if 122 < c then dgK c else 1
def kindF (by' : Nat → Int32) (len p : Nat) : Int32 := if p < len then kdB (by' p) else 0
theorem c_X2_kindAt {p len : Nat} (hL : S.1 6 = nI len) (hl : len ≤ 200) (hp : p ≤ len) : Ct g mX2_kindAt [.ref 16, .int (nI p)] (hC S) (RI (kindF (S.2.1 10) len p) S) := by
  refine ct_of rfl rfl ?_
  unfold kindF kdB
  refine ev_iload_n (pc := 0) dX2_kindAt_0 rfl ?_
  refine ev_aload_n (pc := 1) dX2_kindAt_1 rfl ?_
  refine get_R_text (pc := 2) dX2_kindAt_2 Fl_X2_9 ?_
  refine get_TP_length (pc := 5) dX2_kindAt_5 Fl_X2_98 hL ?_
  refine ev_icmp_ltN (pc := 8) (tgt := 13) (by omega) (by omega) dX2_kindAt_8 (by decide) (fun cq8 => ?_) (fun cq8 => ?_)
  · rw [if_pos cq8]
    refine ev_aload_n (pc := 13) dX2_kindAt_13 rfl ?_
    refine get_R_text (pc := 14) dX2_kindAt_14 Fl_X2_9 ?_
    refine get_TP_bytes (pc := 17) dX2_kindAt_17 Fl_X2_103 ?_
    refine ev_iload_n (pc := 20) dX2_kindAt_20 rfl ?_
    refine ldN_TP_bytes (pc := 21) dX2_kindAt_21 (by omega) rfl ?_
    refine ev_istore_n (pc := 22) (lv' := [(0, .ref 16), (1, .int _), (2, .int _)]) dX2_kindAt_22 (Nat.le_of_ble_eq_true rfl) rfl ?_
    refine ev_iload_n (pc := 23) dX2_kindAt_23 rfl ?_
    refine ev_bipush (pc := 24) (v := 97) dX2_kindAt_24 (by decide) ?_
    refine ev_icmp_lt (pc := 26) (tgt := 37) dX2_kindAt_26 (by decide) (fun cq26 => ?_) (fun cq26 => ?_)
    · rw [if_pos cq26]
      unfold dgK
      refine ev_iload_n (pc := 37) dX2_kindAt_37 rfl ?_
      refine ev_bipush (pc := 38) (v := 48) dX2_kindAt_38 (by decide) ?_
      refine ev_icmp_lt (pc := 40) (tgt := 53) dX2_kindAt_40 (by decide) (fun cq40 => ?_) (fun cq40 => ?_)
      · rw [if_pos cq40]
        refine ev_iconst (pc := 53) (v := 3) dX2_kindAt_53 (by decide) ?_
        exact ev_iret (pc := 54) dX2_kindAt_54 rfl rfl ri
      · rw [if_neg cq40]
        refine ev_iload_n (pc := 43) dX2_kindAt_43 rfl ?_
        refine ev_bipush (pc := 44) (v := 57) dX2_kindAt_44 (by decide) ?_
        refine ev_icmp_gt (pc := 46) (tgt := 53) dX2_kindAt_46 (by decide) (fun cq46 => ?_) (fun cq46 => ?_)
        · rw [if_pos cq46]
          refine ev_iconst (pc := 53) (v := 3) dX2_kindAt_53 (by decide) ?_
          exact ev_iret (pc := 54) dX2_kindAt_54 rfl rfl ri
        · rw [if_neg cq46]
          refine ev_iconst (pc := 49) (v := 2) dX2_kindAt_49 (by decide) ?_
          refine ev_goto (pc := 50) (tgt := 54) dX2_kindAt_50 (by decide) ?_
          exact ev_iret (pc := 54) dX2_kindAt_54 rfl rfl ri
    · rw [if_neg cq26]
      refine ev_iload_n (pc := 29) dX2_kindAt_29 rfl ?_
      refine ev_bipush (pc := 30) (v := 122) dX2_kindAt_30 (by decide) ?_
      refine ev_icmp_gt (pc := 32) (tgt := 37) dX2_kindAt_32 (by decide) (fun cq32 => ?_) (fun cq32 => ?_)
      · rw [if_pos cq32]
        unfold dgK
        refine ev_iload_n (pc := 37) dX2_kindAt_37 rfl ?_
        refine ev_bipush (pc := 38) (v := 48) dX2_kindAt_38 (by decide) ?_
        refine ev_icmp_lt (pc := 40) (tgt := 53) dX2_kindAt_40 (by decide) (fun cq40 => ?_) (fun cq40 => ?_)
        · rw [if_pos cq40]
          refine ev_iconst (pc := 53) (v := 3) dX2_kindAt_53 (by decide) ?_
          exact ev_iret (pc := 54) dX2_kindAt_54 rfl rfl ri
        · rw [if_neg cq40]
          refine ev_iload_n (pc := 43) dX2_kindAt_43 rfl ?_
          refine ev_bipush (pc := 44) (v := 57) dX2_kindAt_44 (by decide) ?_
          refine ev_icmp_gt (pc := 46) (tgt := 53) dX2_kindAt_46 (by decide) (fun cq46 => ?_) (fun cq46 => ?_)
          · rw [if_pos cq46]
            refine ev_iconst (pc := 53) (v := 3) dX2_kindAt_53 (by decide) ?_
            exact ev_iret (pc := 54) dX2_kindAt_54 rfl rfl ri
          · rw [if_neg cq46]
            refine ev_iconst (pc := 49) (v := 2) dX2_kindAt_49 (by decide) ?_
            refine ev_goto (pc := 50) (tgt := 54) dX2_kindAt_50 (by decide) ?_
            exact ev_iret (pc := 54) dX2_kindAt_54 rfl rfl ri
      · rw [if_neg cq32]
        refine ev_iconst (pc := 35) (v := 1) dX2_kindAt_35 (by decide) ?_
        exact ev_iret (pc := 36) dX2_kindAt_36 rfl rfl ri
  · rw [if_neg cq8]
    refine ev_iconst (pc := 11) (v := 0) dX2_kindAt_11 (by decide) ?_
    exact ev_iret (pc := 12) dX2_kindAt_12 rfl rfl ri
def skF (by' : Nat → Int32) : Nat → Nat → Nat
  | 0, p => p
  | r + 1, p => if by' p = 32 then skF by' r (p + 1) else p
theorem skF_le (by' : Nat → Int32) : ∀ r p, p ≤ skF by' r p ∧ skF by' r p ≤ p + r
  | 0, p => ⟨Nat.le_refl _, Nat.le_refl _⟩
  | r + 1, p => by
    unfold skF
    split
    · have := skF_le by' r (p + 1); omega
    · omega
def ruF (by' : Nat → Int32) (kd : Int32) : Nat → Nat → Nat
  | 0, p => p
  | r + 1, p => if kdB (by' p) = kd then ruF by' kd r (p + 1) else p
theorem ruF_le (by' : Nat → Int32) (kd : Int32) : ∀ r p, p ≤ ruF by' kd r p ∧ ruF by' kd r p ≤ p + r
  | 0, p => ⟨Nat.le_refl _, Nat.le_refl _⟩
  | r + 1, p => by
    unfold ruF
    split
    · have := ruF_le by' kd r (p + 1); omega
    · omega
def bhF (by' : Nat → Int32) (len st : Nat) (kd : Int32) : Nat := if kd = 3 then st + 1 else if kd = 1 then ruF by' kd (len - st) st else if kd = 2 then ruF by' kd (len - st) st else st
def nx3 (S : St) (st : Nat) (kd : Int32) (bh : Nat) : St := setI (setI (setI S 8 (nI st)) 7 kd) 9 (nI bh)
def nextP (len p : Nat) (S : St) : St :=
  let st := skF (S.2.1 10) (len - p) p
  let kd := kindF (S.2.1 10) len st
  nx3 S st kd (bhF (S.2.1 10) len st kd)
theorem nx_skip {len p : Nat} (hL : S.1 6 = nI len) (hl : len ≤ 200) (Post : Option Value → List va_E → Prop) : ∀ (r j : Nat), j + r = len → Ev g mX2_next 52 [(0, .ref 16)] [] (hC (setI S 8 (nI (skF (S.2.1 10) r j)))) Post → Ev g mX2_next 8 [(0, .ref 16)] [] (hC (setI S 8 (nI j))) Post := by
  intro r
  induction r with
  | zero =>
    intro j hj k
    refine ev_aload_n (pc := 8) dX2_next_8 rfl ?_
    refine get_R_start (pc := 9) dX2_next_9 Fl_X2_38 (show _ = nI j from rfl) ?_
    refine ev_aload_n (pc := 12) dX2_next_12 rfl ?_
    refine get_R_text (pc := 13) dX2_next_13 Fl_X2_9 ?_
    refine get_TP_length (pc := 16) dX2_next_16 Fl_X2_98 hL ?_
    refine ev_icmp_geN (pc := 19) (tgt := 52) (by omega) (by omega) dX2_next_19 (by decide) (fun cq19 => ?_) (fun cq19 => absurd (show len ≤ j by omega) cq19)
    exact k
  | succ r ih =>
    intro j hj k
    rw [skF] at k
    refine ev_aload_n (pc := 8) dX2_next_8 rfl ?_
    refine get_R_start (pc := 9) dX2_next_9 Fl_X2_38 (show _ = nI j from rfl) ?_
    refine ev_aload_n (pc := 12) dX2_next_12 rfl ?_
    refine get_R_text (pc := 13) dX2_next_13 Fl_X2_9 ?_
    refine get_TP_length (pc := 16) dX2_next_16 Fl_X2_98 hL ?_
    refine ev_icmp_geN (pc := 19) (tgt := 52) (by omega) (by omega) dX2_next_19 (by decide) (fun cq19 => absurd cq19 (by omega)) (fun cq19 => ?_)
    refine ev_aload_n (pc := 22) dX2_next_22 rfl ?_
    refine get_R_text (pc := 23) dX2_next_23 Fl_X2_9 ?_
    refine get_TP_bytes (pc := 26) dX2_next_26 Fl_X2_103 ?_
    refine ev_aload_n (pc := 29) dX2_next_29 rfl ?_
    refine get_R_start (pc := 30) dX2_next_30 Fl_X2_38 (show _ = nI j from rfl) ?_
    refine ldN_TP_bytes (pc := 33) dX2_next_33 (by omega) rfl ?_
    refine ev_bipush (pc := 34) (v := 32) dX2_next_34 (by decide) ?_
    refine ev_icmp_ne (pc := 36) (tgt := 52) dX2_next_36 (by decide) (fun cq36 => ?_) (fun cq36 => ?_)
    · have cq36 : ¬ S.2.1 10 j = 32 := cq36
      rw [if_neg cq36] at k
      exact k
    · have cq36 : S.2.1 10 j = 32 := cq36
      rw [if_pos cq36] at k
      refine ev_aload_n (pc := 39) dX2_next_39 rfl ?_
      refine ev_dup (pc := 40) dX2_next_40 rfl ?_
      refine get_R_start (pc := 41) dX2_next_41 Fl_X2_38 (show _ = nI j from rfl) ?_
      refine ev_iconst (pc := 44) (v := 1) dX2_next_44 (by decide) ?_
      refine ev_iadd (pc := 45) dX2_next_45 ?_
      rw [nI_1]
      refine put_R_start (pc := 46) dX2_next_46 Fp_X2_38 ?_
      refine ev_goto (pc := 49) (tgt := 8) dX2_next_49 (by decide) ?_
      rw [setI_set]
      exact ih (j + 1) (by omega) k
theorem nx_run {len : Nat} {kd : Int32} (hL : S.1 6 = nI len) (hl : len ≤ 200) (hk : S.1 7 = kd) (Post : Option Value → List va_E → Prop) : ∀ (r j : Nat), j + r = len → Ev g mX2_next 148 [(0, .ref 16)] [] (hC (setI S 9 (nI (ruF (S.2.1 10) kd r j)))) Post → Ev g mX2_next 106 [(0, .ref 16)] [] (hC (setI S 9 (nI j))) Post := by
  intro r
  induction r with
  | zero =>
    intro j hj k
    refine ev_aload_n (pc := 106) dX2_next_106 rfl ?_
    refine get_R_behind (pc := 107) dX2_next_107 Fl_X2_24 (show _ = nI j from rfl) ?_
    refine ev_aload_n (pc := 110) dX2_next_110 rfl ?_
    refine get_R_text (pc := 111) dX2_next_111 Fl_X2_9 ?_
    refine get_TP_length (pc := 114) dX2_next_114 Fl_X2_98 hL ?_
    refine ev_icmp_geN (pc := 117) (tgt := 148) (by omega) (by omega) dX2_next_117 (by decide) (fun cq117 => ?_) (fun cq117 => absurd (show len ≤ j by omega) cq117)
    exact k
  | succ r ih =>
    intro j hj k
    rw [ruF] at k
    have hkf : kindF (S.2.1 10) len j = kdB (S.2.1 10 j) := if_pos (by omega)
    rw [← hkf] at k
    refine ev_aload_n (pc := 106) dX2_next_106 rfl ?_
    refine get_R_behind (pc := 107) dX2_next_107 Fl_X2_24 (show _ = nI j from rfl) ?_
    refine ev_aload_n (pc := 110) dX2_next_110 rfl ?_
    refine get_R_text (pc := 111) dX2_next_111 Fl_X2_9 ?_
    refine get_TP_length (pc := 114) dX2_next_114 Fl_X2_98 hL ?_
    refine ev_icmp_geN (pc := 117) (tgt := 148) (by omega) (by omega) dX2_next_117 (by decide) (fun cq117 => absurd cq117 (by omega)) (fun cq117 => ?_)
    refine ev_aload_n (pc := 120) dX2_next_120 rfl ?_
    refine ev_aload_n (pc := 121) dX2_next_121 rfl ?_
    refine get_R_behind (pc := 122) dX2_next_122 Fl_X2_24 (show _ = nI j from rfl) ?_
    refine callV1I (pc := 125) dX2_next_125 Ml_X2_106 M_X2_kindAt rfl rfl rfl rfl (c_X2_kindAt (S := setI S 9 (nI j)) hL hl (by omega)) ?_
    refine ev_aload_n (pc := 128) dX2_next_128 rfl ?_
    refine get_R_kind (pc := 129) dX2_next_129 Fl_X2_31 hk ?_
    refine ev_icmp_ne (pc := 132) (tgt := 148) dX2_next_132 (by decide) (fun cq132 => ?_) (fun cq132 => ?_)
    · have cq132 : ¬ kindF (S.2.1 10) len j = kd := cq132
      rw [if_neg cq132] at k
      exact k
    · have cq132 : kindF (S.2.1 10) len j = kd := cq132
      rw [if_pos cq132] at k
      refine ev_aload_n (pc := 135) dX2_next_135 rfl ?_
      refine ev_dup (pc := 136) dX2_next_136 rfl ?_
      refine get_R_behind (pc := 137) dX2_next_137 Fl_X2_24 (show _ = nI j from rfl) ?_
      refine ev_iconst (pc := 140) (v := 1) dX2_next_140 (by decide) ?_
      refine ev_iadd (pc := 141) dX2_next_141 ?_
      rw [nI_1]
      refine put_R_behind (pc := 142) dX2_next_142 Fp_X2_24 ?_
      refine ev_goto (pc := 145) (tgt := 106) dX2_next_145 (by decide) ?_
      rw [setI_set]
      exact ih (j + 1) (by omega) k
theorem c_X2_next {len p : Nat} (hL : S.1 6 = nI len) (hl : len ≤ 200) (hb : S.1 9 = nI p) (hp : p ≤ len) : Ct g mX2_next [.ref 16] (hC S) (RV (nextP len p S)) := by
  have hsk := skF_le (S.2.1 10) (len - p) p
  refine ct_of rfl rfl ?_
  refine ev_aload_n (pc := 0) dX2_next_0 rfl ?_
  refine ev_aload_n (pc := 1) dX2_next_1 rfl ?_
  refine get_R_behind (pc := 2) dX2_next_2 Fl_X2_24 hb ?_
  refine put_R_start (pc := 5) dX2_next_5 Fp_X2_38 ?_
  refine nx_skip (p := p) hL hl _ (len - p) p (by omega) ?_
  unfold nextP
  generalize hst : skF (S.2.1 10) (len - p) p = st at *
  have fin : ∀ (X : St), Ev g mX2_next 148 [(0, .ref 16)] [] (hC X) (RV X) := by
    intro X
    exact ev_ret (pc := 148) dX2_next_148 rfl rv
  have mid : ∀ (X : St) (kd : Int32), X.2.1 = S.2.1 → X.1 6 = nI len → X.1 7 = kd → (kd = 3 → st < len) → Ev g mX2_next 72 [(0, .ref 16)] [] (hC (setI X 9 (nI st))) (RV (setI X 9 (nI (bhF (S.2.1 10) len st kd)))) := by
    intro X kd hX hL hk hk3
    rw [← hX]
    unfold bhF
    refine ev_aload_n (pc := 72) dX2_next_72 rfl ?_
    refine get_R_kind (pc := 73) dX2_next_73 Fl_X2_31 (show _ = kd from hk) ?_
    refine ev_iconst (pc := 76) (v := 3) dX2_next_76 (by decide) ?_
    refine ev_icmp_ne (pc := 77) (tgt := 90) dX2_next_77 (by decide) (fun cq77 => ?_) (fun cq77 => ?_)
    · rw [if_neg cq77]
      try rw [setI_set]
      refine ev_aload_n (pc := 90) dX2_next_90 rfl ?_
      refine get_R_kind (pc := 91) dX2_next_91 Fl_X2_31 (show _ = kd from hk) ?_
      refine ev_iconst (pc := 94) (v := 1) dX2_next_94 (by decide) ?_
      refine ev_icmp_eq (pc := 95) (tgt := 106) dX2_next_95 (by decide) (fun cq95 => ?_) (fun cq95 => ?_)
      · first | rw [if_pos cq95] | exact absurd (cq95.symm.trans cq77) (by decide)
        all_goals first | exact nx_run (S := X) hL hl hk _ (len - st) st (by omega) (fin _) | exact absurd (cq95.symm.trans cq77) (by decide) | exact absurd (cq103.symm.trans cq77) (by decide)
      · try rw [if_neg cq95]
        refine ev_aload_n (pc := 98) dX2_next_98 rfl ?_
        refine get_R_kind (pc := 99) dX2_next_99 Fl_X2_31 (show _ = kd from hk) ?_
        refine ev_iconst (pc := 102) (v := 2) dX2_next_102 (by decide) ?_
        refine ev_icmp_ne (pc := 103) (tgt := 148) dX2_next_103 (by decide) (fun cq103 => ?_) (fun cq103 => ?_)
        · try rw [if_neg cq103]
          exact fin _
        · first | rw [if_pos cq103] | exact absurd (cq103.symm.trans cq77) (by decide)
          all_goals first | exact nx_run (S := X) hL hl hk _ (len - st) st (by omega) (fin _) | exact absurd (cq95.symm.trans cq77) (by decide) | exact absurd (cq103.symm.trans cq77) (by decide)
    · rw [if_pos cq77]
      refine ev_aload_n (pc := 80) dX2_next_80 rfl ?_
      refine ev_dup (pc := 81) dX2_next_81 rfl ?_
      refine get_R_behind (pc := 82) dX2_next_82 Fl_X2_24 (show _ = nI st from rfl) ?_
      refine ev_iconst (pc := 85) (v := 1) dX2_next_85 (by decide) ?_
      refine ev_iadd (pc := 86) dX2_next_86 ?_
      rw [nI_1]
      refine put_R_behind (pc := 87) dX2_next_87 Fp_X2_24 ?_
      try rw [setI_set]
      refine ev_aload_n (pc := 90) dX2_next_90 rfl ?_
      refine get_R_kind (pc := 91) dX2_next_91 Fl_X2_31 (show _ = kd from hk) ?_
      refine ev_iconst (pc := 94) (v := 1) dX2_next_94 (by decide) ?_
      refine ev_icmp_eq (pc := 95) (tgt := 106) dX2_next_95 (by decide) (fun cq95 => ?_) (fun cq95 => ?_)
      · first | rw [if_pos cq95] | exact absurd (cq95.symm.trans cq77) (by decide)
        all_goals first | exact nx_run (S := X) hL hl hk _ (len - st) st (by omega) (fin _) | exact absurd (cq95.symm.trans cq77) (by decide) | exact absurd (cq103.symm.trans cq77) (by decide)
      · try rw [if_neg cq95]
        refine ev_aload_n (pc := 98) dX2_next_98 rfl ?_
        refine get_R_kind (pc := 99) dX2_next_99 Fl_X2_31 (show _ = kd from hk) ?_
        refine ev_iconst (pc := 102) (v := 2) dX2_next_102 (by decide) ?_
        refine ev_icmp_ne (pc := 103) (tgt := 148) dX2_next_103 (by decide) (fun cq103 => ?_) (fun cq103 => ?_)
        · try rw [if_neg cq103]
          exact fin _
        · first | rw [if_pos cq103] | exact absurd (cq103.symm.trans cq77) (by decide)
          all_goals first | exact nx_run (S := X) hL hl hk _ (len - st) st (by omega) (fin _) | exact absurd (cq95.symm.trans cq77) (by decide) | exact absurd (cq103.symm.trans cq77) (by decide)
  refine ev_aload_n (pc := 52) dX2_next_52 rfl ?_
  refine ev_aload_n (pc := 53) dX2_next_53 rfl ?_
  refine ev_aload_n (pc := 54) dX2_next_54 rfl ?_
  refine get_R_start (pc := 55) dX2_next_55 Fl_X2_38 (show _ = nI st from rfl) ?_
  refine callV1I (pc := 58) dX2_next_58 Ml_X2_106 M_X2_kindAt rfl rfl rfl rfl (c_X2_kindAt (S := setI S 8 (nI st)) hL hl (by omega)) ?_
  refine put_R_kind (pc := 61) dX2_next_61 Fp_X2_31 ?_
  refine ev_aload_n (pc := 64) dX2_next_64 rfl ?_
  refine ev_aload_n (pc := 65) dX2_next_65 rfl ?_
  refine get_R_start (pc := 66) dX2_next_66 Fl_X2_38 (show _ = nI st from rfl) ?_
  refine put_R_behind (pc := 69) dX2_next_69 Fp_X2_24 ?_
  exact mid _ _ rfl hL rfl (fun h => by unfold kindF at h; split at h; assumption; exact absurd h (by decide))
end RR
