section SM
variable {g : GG} {S : St}
theorem loop_up {P : Nat → Prop} (n : Nat) (hx : P n) (hs : ∀ k, k < n → P (k + 1) → P k) : ∀ k, k ≤ n → P k := by
  intro k hk
  have h : ∀ r, r ≤ n → P (n - r) := by
    intro r
    induction r with
    | zero => intro _; exact hx
    | succ r ih =>
      intro hr
      have h1 := ih (by omega)
      have h2 : n - r = n - (r + 1) + 1 := by omega
      rw [h2] at h1
      exact hs _ (by omega) h1
  have h2 : k = n - (n - k) := by omega
  rw [h2]
  exact h _ (by omega)
def it {σ : Type} (f : Nat → σ → σ) : Nat → σ → σ
  | 0, s => s
  | k + 1, s => f k (it f k s)
theorem it_s {σ : Type} (f : Nat → σ → σ) (k : Nat) (s : σ) : it f (k + 1) s = f k (it f k s) := rfl
theorem it_inv {σ τ : Type} (f : Nat → σ → σ) (p : σ → τ) (h : ∀ k s, p (f k s) = p s) : ∀ k s, p (it f k s) = p s
  | 0, _ => rfl
  | k + 1, s => (h k _).trans (it_inv f p h k s)
def outB (a lo hi : Int32) : Bool := decide (a < lo) || !decide (a ≤ hi)
theorem c_X9_outside {a lo hi : Int32} : Ct g mX9_outside [.int a, .int lo, .int hi] (hC S) (RI (b2i (outB a lo hi)) S) := by
  refine ct_of rfl rfl ?_
  refine ev_iload_n (pc := 0) dX9_outside_0 rfl ?_
  refine ev_iload_n (pc := 1) dX9_outside_1 rfl ?_
  refine ev_icmp_lt (pc := 2) (tgt := 10) dX9_outside_2 (by decide) (fun cq2 => ?_) (fun cq2 => ?_)
  · refine ev_iconst (pc := 10) (v := 1) dX9_outside_10 (by decide) ?_
    refine ev_goto (pc := 11) (tgt := 15) dX9_outside_11 (by decide) ?_
    exact ev_iret (pc := 15) dX9_outside_15 rfl rfl (ri' (by simp [outB, b2i, *]) rfl)
  · refine ev_iload_n (pc := 5) dX9_outside_5 rfl ?_
    refine ev_iload_n (pc := 6) dX9_outside_6 rfl ?_
    refine ev_icmp_le (pc := 7) (tgt := 14) dX9_outside_7 (by decide) (fun cq7 => ?_) (fun cq7 => ?_)
    · refine ev_iconst (pc := 14) (v := 0) dX9_outside_14 (by decide) ?_
      exact ev_iret (pc := 15) dX9_outside_15 rfl rfl (ri' (by simp [outB, b2i, *]) rfl)
    · refine ev_iconst (pc := 10) (v := 1) dX9_outside_10 (by decide) ?_
      refine ev_goto (pc := 11) (tgt := 15) dX9_outside_11 (by decide) ?_
      exact ev_iret (pc := 15) dX9_outside_15 rfl rfl (ri' (by simp [outB, b2i, *]) rfl)
theorem c_X9_refuse {x : Int32} : Ct g mX9_refuse [.ref 0, .int x] (hC S) (RI x (setI S 1 x)) := by
  refine ct_of rfl rfl ?_
  refine ev_aload_n (pc := 0) dX9_refuse_0 rfl ?_
  refine ev_iload_n (pc := 1) dX9_refuse_1 rfl ?_
  refine put_MF_refusal (pc := 2) dX9_refuse_2 Fp_X9_81 ?_
  refine ev_iload_n (pc := 5) dX9_refuse_5 rfl ?_
  exact ev_iret (pc := 6) dX9_refuse_6 rfl rfl ri
theorem c_X9_accept {x : Int32} : Ct g mX9_accept [.ref 0, .int x] (hC S) (RI x (setI S 1 0)) := by
  refine ct_of rfl rfl ?_
  refine ev_aload_n (pc := 0) dX9_accept_0 rfl ?_
  refine ev_iconst (pc := 1) (v := 0) dX9_accept_1 (by decide) ?_
  refine put_MF_refusal (pc := 2) dX9_accept_2 Fp_X9_81 ?_
  refine ev_iload_n (pc := 5) dX9_accept_5 rfl ?_
  exact ev_iret (pc := 6) dX9_accept_6 rfl rfl ri
theorem c_X9_isNoFarmer {f : Int32} : Ct g mX9_isNoFarmer [.ref 0, .int f] (hC S) (RI (b2i (outB f 0 (S.1 2 - 1))) S) := by
  refine ct_of rfl rfl ?_
  refine ev_iload_n (pc := 0) dX9_isNoFarmer_0 rfl ?_
  refine ev_iconst (pc := 1) (v := 0) dX9_isNoFarmer_1 (by decide) ?_
  refine ev_aload_n (pc := 2) dX9_isNoFarmer_2 rfl ?_
  refine get_MF_farmers (pc := 3) dX9_isNoFarmer_3 Fl_X9_10 ?_
  refine get_F_size (pc := 6) dX9_isNoFarmer_6 Fl_X9_92 rfl ?_
  refine ev_iconst (pc := 9) (v := 1) dX9_isNoFarmer_9 (by decide) ?_
  refine ev_isub (pc := 10) dX9_isNoFarmer_10 ?_
  refine callS3I (pc := 11) dX9_isNoFarmer_11 Ml_X9_84 M_X9_outside rfl rfl c_X9_outside ?_
  exact ev_iret (pc := 14) dX9_isNoFarmer_14 rfl nb ri
def addF (n : Nat) (a b c : Int32) (S : St) : St := setI (setA (setA (setA S 0 (upd (S.2.1 0) n a)) 1 (upd (S.2.1 1) n b)) 2 (upd (S.2.1 2) n c)) 2 (nI n + 1)
theorem c_X4_add {a b c : Int32} {n : Nat} (hs : S.1 2 = nI n) (hn : n < 40) : Ct g mX4_add [.ref 1, .int a, .int b, .int c] (hC S) (RV (addF n a b c S)) := by
  refine ct_of rfl rfl ?_
  refine ev_aload_n (pc := 0) dX4_add_0 rfl ?_
  refine get_F_size (pc := 1) dX4_add_1 Fl_X4_21 hs ?_
  refine ev_bipush (pc := 4) (v := nI 40) dX4_add_4 (by decide) ?_
  refine ev_icmp_ltN (pc := 6) (tgt := 10) (by omega) (by omega) dX4_add_6 (by decide) (fun cq6 => ?_) (fun cq6 => absurd hn cq6)
  refine ev_aload_n (pc := 10) dX4_add_10 rfl ?_
  refine get_F_group (pc := 11) dX4_add_11 Fl_X4_9 ?_
  refine ev_aload_n (pc := 14) dX4_add_14 rfl ?_
  refine get_F_size (pc := 15) dX4_add_15 Fl_X4_21 hs ?_
  refine ev_iload_n (pc := 18) dX4_add_18 rfl ?_
  refine asN_F_group (pc := 19) dX4_add_19 (by omega) ?_
  refine ev_aload_n (pc := 20) dX4_add_20 rfl ?_
  refine get_F_place (pc := 21) dX4_add_21 Fl_X4_15 ?_
  refine ev_aload_n (pc := 24) dX4_add_24 rfl ?_
  refine get_F_size (pc := 25) dX4_add_25 Fl_X4_21 hs ?_
  refine ev_iload_n (pc := 28) dX4_add_28 rfl ?_
  refine asN_F_place (pc := 29) dX4_add_29 (by omega) ?_
  refine ev_aload_n (pc := 30) dX4_add_30 rfl ?_
  refine get_F_fields (pc := 31) dX4_add_31 Fl_X4_18 ?_
  refine ev_aload_n (pc := 34) dX4_add_34 rfl ?_
  refine get_F_size (pc := 35) dX4_add_35 Fl_X4_21 hs ?_
  refine ev_iload_n (pc := 38) dX4_add_38 rfl ?_
  refine asN_F_fields (pc := 39) dX4_add_39 (by omega) ?_
  refine ev_aload_n (pc := 40) dX4_add_40 rfl ?_
  refine ev_dup (pc := 41) dX4_add_41 rfl ?_
  refine get_F_size (pc := 42) dX4_add_42 Fl_X4_21 hs ?_
  refine ev_iconst (pc := 45) (v := 1) dX4_add_45 (by decide) ?_
  refine ev_iadd (pc := 46) dX4_add_46 ?_
  refine put_F_size (pc := 47) dX4_add_47 Fp_X4_21 ?_
  exact ev_ret (pc := 50) dX4_add_50 rfl rv
def addC (n : Nat) (a b c : Int32) (S : St) : St := setI (setA (setA (setA S 3 (upd (S.2.1 3) n a)) 4 (upd (S.2.1 4) n b)) 5 (upd (S.2.1 5) n c)) 3 (nI n + 1)
theorem c_X3_add {a b c : Int32} {n : Nat} (hs : S.1 3 = nI n) (hn : n < 200) : Ct g mX3_add [.ref 5, .int a, .int b, .int c] (hC S) (RV (addC n a b c S)) := by
  refine ct_of rfl rfl ?_
  refine ev_aload_n (pc := 0) dX3_add_0 rfl ?_
  refine get_C_size (pc := 1) dX3_add_1 Fl_X3_21 hs ?_
  refine ev_sipush (pc := 4) (v := nI 200) dX3_add_4 (by decide) ?_
  refine ev_icmp_ltN (pc := 7) (tgt := 11) (by omega) (by omega) dX3_add_7 (by decide) (fun cq7 => ?_) (fun cq7 => absurd hn cq7)
  refine ev_aload_n (pc := 11) dX3_add_11 rfl ?_
  refine get_C_farmer (pc := 12) dX3_add_12 Fl_X3_9 ?_
  refine ev_aload_n (pc := 15) dX3_add_15 rfl ?_
  refine get_C_size (pc := 16) dX3_add_16 Fl_X3_21 hs ?_
  refine ev_iload_n (pc := 19) dX3_add_19 rfl ?_
  refine asN_C_farmer (pc := 20) dX3_add_20 (by omega) ?_
  refine ev_aload_n (pc := 21) dX3_add_21 rfl ?_
  refine get_C_amount (pc := 22) dX3_add_22 Fl_X3_15 ?_
  refine ev_aload_n (pc := 25) dX3_add_25 rfl ?_
  refine get_C_size (pc := 26) dX3_add_26 Fl_X3_21 hs ?_
  refine ev_iload_n (pc := 29) dX3_add_29 rfl ?_
  refine asN_C_amount (pc := 30) dX3_add_30 (by omega) ?_
  refine ev_aload_n (pc := 31) dX3_add_31 rfl ?_
  refine get_C_known (pc := 32) dX3_add_32 Fl_X3_18 ?_
  refine ev_aload_n (pc := 35) dX3_add_35 rfl ?_
  refine get_C_size (pc := 36) dX3_add_36 Fl_X3_21 hs ?_
  refine ev_iload_n (pc := 39) dX3_add_39 rfl ?_
  refine asN_C_known (pc := 40) dX3_add_40 (by omega) ?_
  refine ev_aload_n (pc := 41) dX3_add_41 rfl ?_
  refine ev_dup (pc := 42) dX3_add_42 rfl ?_
  refine get_C_size (pc := 43) dX3_add_43 Fl_X3_21 hs ?_
  refine ev_iconst (pc := 46) (v := 1) dX3_add_46 (by decide) ?_
  refine ev_iadd (pc := 47) dX3_add_47 ?_
  refine put_C_size (pc := 48) dX3_add_48 Fp_X3_21 ?_
  exact ev_ret (pc := 51) dX3_add_51 rfl rv
def addK (n : Nat) (a b c d : Int32) (S : St) : St := setI (setI (setA (setA (setA (setA S 6 (upd (S.2.1 6) n a)) 7 (upd (S.2.1 7) n b)) 8 (upd (S.2.1 8) n c)) 9 (upd (S.2.1 9) n d)) 4 (nI n + 1)) 5 (S.1 5 + b)
theorem c_X0_add {a b c d : Int32} {n : Nat} (hs : S.1 4 = nI n) (hn : n < 300) : Ct g mX0_add [.ref 9, .int a, .int b, .int c, .int d] (hC S) (RV (addK n a b c d S)) := by
  refine ct_of rfl rfl ?_
  refine ev_aload_n (pc := 0) dX0_add_0 rfl ?_
  refine get_K_size (pc := 1) dX0_add_1 Fl_X0_24 hs ?_
  refine ev_sipush (pc := 4) (v := nI 300) dX0_add_4 (by decide) ?_
  refine ev_icmp_ltN (pc := 7) (tgt := 11) (by omega) (by omega) dX0_add_7 (by decide) (fun cq7 => ?_) (fun cq7 => absurd hn cq7)
  refine ev_aload_n (pc := 11) dX0_add_11 rfl ?_
  refine get_K_farmer (pc := 12) dX0_add_12 Fl_X0_9 ?_
  refine ev_aload_n (pc := 15) dX0_add_15 rfl ?_
  refine get_K_size (pc := 16) dX0_add_16 Fl_X0_24 hs ?_
  refine ev_iload_n (pc := 19) dX0_add_19 rfl ?_
  refine asN_K_farmer (pc := 20) dX0_add_20 (by omega) ?_
  refine ev_aload_n (pc := 21) dX0_add_21 rfl ?_
  refine get_K_weight (pc := 22) dX0_add_22 Fl_X0_15 ?_
  refine ev_aload_n (pc := 25) dX0_add_25 rfl ?_
  refine get_K_size (pc := 26) dX0_add_26 Fl_X0_24 hs ?_
  refine ev_iload_n (pc := 29) dX0_add_29 rfl ?_
  refine asN_K_weight (pc := 30) dX0_add_30 (by omega) ?_
  refine ev_aload_n (pc := 31) dX0_add_31 rfl ?_
  refine get_K_grade (pc := 32) dX0_add_32 Fl_X0_18 ?_
  refine ev_aload_n (pc := 35) dX0_add_35 rfl ?_
  refine get_K_size (pc := 36) dX0_add_36 Fl_X0_24 hs ?_
  refine ev_iload_n (pc := 39) dX0_add_39 rfl ?_
  refine asN_K_grade (pc := 40) dX0_add_40 (by omega) ?_
  refine ev_aload_n (pc := 41) dX0_add_41 rfl ?_
  refine get_K_known (pc := 42) dX0_add_42 Fl_X0_21 ?_
  refine ev_aload_n (pc := 45) dX0_add_45 rfl ?_
  refine get_K_size (pc := 46) dX0_add_46 Fl_X0_24 hs ?_
  refine ev_iload (pc := 49) dX0_add_49 rfl ?_
  refine asN_K_known (pc := 51) dX0_add_51 (by omega) ?_
  refine ev_aload_n (pc := 52) dX0_add_52 rfl ?_
  refine ev_dup (pc := 53) dX0_add_53 rfl ?_
  refine get_K_size (pc := 54) dX0_add_54 Fl_X0_24 hs ?_
  refine ev_iconst (pc := 57) (v := 1) dX0_add_57 (by decide) ?_
  refine ev_iadd (pc := 58) dX0_add_58 ?_
  refine put_K_size (pc := 59) dX0_add_59 Fp_X0_24 ?_
  refine ev_aload_n (pc := 62) dX0_add_62 rfl ?_
  refine ev_dup (pc := 63) dX0_add_63 rfl ?_
  refine get_K_weightTogether (pc := 64) dX0_add_64 Fl_X0_28 rfl ?_
  refine ev_iload_n (pc := 67) dX0_add_67 rfl ?_
  refine ev_iadd (pc := 68) dX0_add_68 ?_
  refine put_K_weightTogether (pc := 69) dX0_add_69 Fp_X0_28 ?_
  exact ev_ret (pc := 72) dX0_add_72 rfl rv
def addD (n : Nat) (a b c : Int32) (S : St) : St := setI (setA (setA (setA S 11 (upd (S.2.1 11) n a)) 12 (upd (S.2.1 12) n b)) 13 (upd (S.2.1 13) n c)) 10 (nI n + 1)
theorem c_X5_add {a b c : Int32} {n : Nat} (hs : S.1 10 = nI n) (hn : n < 60) : Ct g mX5_add [.ref 26, .int a, .int b, .int c] (hC S) (RV (addD n a b c S)) := by
  refine ct_of rfl rfl ?_
  refine ev_aload_n (pc := 0) dX5_add_0 rfl ?_
  refine get_LA_size (pc := 1) dX5_add_1 Fl_X5_21 hs ?_
  refine ev_bipush (pc := 4) (v := nI 60) dX5_add_4 (by decide) ?_
  refine ev_icmp_ltN (pc := 6) (tgt := 10) (by omega) (by omega) dX5_add_6 (by decide) (fun cq6 => ?_) (fun cq6 => absurd hn cq6)
  refine ev_aload_n (pc := 10) dX5_add_10 rfl ?_
  refine get_LA_from (pc := 11) dX5_add_11 Fl_X5_9 ?_
  refine ev_aload_n (pc := 14) dX5_add_14 rfl ?_
  refine get_LA_size (pc := 15) dX5_add_15 Fl_X5_21 hs ?_
  refine ev_iload_n (pc := 18) dX5_add_18 rfl ?_
  refine asN_LA_from (pc := 19) dX5_add_19 (by omega) ?_
  refine ev_aload_n (pc := 20) dX5_add_20 rfl ?_
  refine get_LA_to (pc := 21) dX5_add_21 Fl_X5_15 ?_
  refine ev_aload_n (pc := 24) dX5_add_24 rfl ?_
  refine get_LA_size (pc := 25) dX5_add_25 Fl_X5_21 hs ?_
  refine ev_iload_n (pc := 28) dX5_add_28 rfl ?_
  refine asN_LA_to (pc := 29) dX5_add_29 (by omega) ?_
  refine ev_aload_n (pc := 30) dX5_add_30 rfl ?_
  refine get_LA_part (pc := 31) dX5_add_31 Fl_X5_18 ?_
  refine ev_aload_n (pc := 34) dX5_add_34 rfl ?_
  refine get_LA_size (pc := 35) dX5_add_35 Fl_X5_21 hs ?_
  refine ev_iload_n (pc := 38) dX5_add_38 rfl ?_
  refine asN_LA_part (pc := 39) dX5_add_39 (by omega) ?_
  refine ev_aload_n (pc := 40) dX5_add_40 rfl ?_
  refine ev_dup (pc := 41) dX5_add_41 rfl ?_
  refine get_LA_size (pc := 42) dX5_add_42 Fl_X5_21 hs ?_
  refine ev_iconst (pc := 45) (v := 1) dX5_add_45 (by decide) ?_
  refine ev_iadd (pc := 46) dX5_add_46 ?_
  refine put_LA_size (pc := 47) dX5_add_47 Fp_X5_21 ?_
  exact ev_ret (pc := 50) dX5_add_50 rfl rv
/-- how many of the first k are w -/
def cntW (f : Nat → Int32) (w : Int32) : Nat → Nat
  | 0 => 0
  | k + 1 => if f k = w then cntW f w k + 1 else cntW f w k
theorem c_X4_howManyIn {w : Int32} {n : Nat} (hs : S.1 2 = nI n) (hn : n ≤ 40) : Ct g mX4_howManyIn [.ref 1, .int w] (hC S) (RI (nI (cntW (S.2.1 0) w n)) S) := by
  refine ct_of rfl rfl ?_
  refine ev_iconst (pc := 0) (v := nI 0) dX4_howManyIn_0 (by decide) ?_
  refine ev_istore_n (pc := 1) (lv' := [(0, .ref 1), (1, .int _), (2, .int _)]) dX4_howManyIn_1 (Nat.le_of_ble_eq_true rfl) rfl ?_
  refine ev_iconst (pc := 2) (v := nI 0) dX4_howManyIn_2 (by decide) ?_
  refine ev_istore_n (pc := 3) (lv' := [(0, .ref 1), (1, .int _), (2, .int _), (3, .int _)]) dX4_howManyIn_3 (Nat.le_of_ble_eq_true rfl) rfl ?_
  refine loop_up (P := fun k => Ev g mX4_howManyIn 4 [(0, .ref 1), (1, .int w), (2, .int (nI (cntW (S.2.1 0) w k))), (3, .int (nI k))] [] (hC S) (RI (nI (cntW (S.2.1 0) w n)) S)) n ?_ ?_ 0 (Nat.zero_le _)
  · skip
    refine ev_iload_n (pc := 4) dX4_howManyIn_4 rfl ?_
    refine ev_aload_n (pc := 5) dX4_howManyIn_5 rfl ?_
    refine get_F_size (pc := 6) dX4_howManyIn_6 Fl_X4_21 hs ?_
    refine ev_icmp_geN (pc := 9) (tgt := 31) (by omega) (by omega) dX4_howManyIn_9 (by decide) (fun cq9 => ?_) (fun cq9 => absurd (Nat.le_refl n) cq9)
    refine ev_iload_n (pc := 31) dX4_howManyIn_31 rfl ?_
    exact ev_iret (pc := 32) dX4_howManyIn_32 rfl rfl ri
  · intro k hk ih
    refine ev_iload_n (pc := 4) dX4_howManyIn_4 rfl ?_
    refine ev_aload_n (pc := 5) dX4_howManyIn_5 rfl ?_
    refine get_F_size (pc := 6) dX4_howManyIn_6 Fl_X4_21 hs ?_
    refine ev_icmp_geN (pc := 9) (tgt := 31) (by omega) (by omega) dX4_howManyIn_9 (by decide) (fun cq9 => absurd hk (Nat.not_lt.mpr cq9)) (fun cq9 => ?_)
    refine ev_aload_n (pc := 12) dX4_howManyIn_12 rfl ?_
    refine get_F_group (pc := 13) dX4_howManyIn_13 Fl_X4_9 ?_
    refine ev_iload_n (pc := 16) dX4_howManyIn_16 rfl ?_
    refine ldN_F_group (pc := 17) dX4_howManyIn_17 (by omega) rfl ?_
    refine ev_iload_n (pc := 18) dX4_howManyIn_18 rfl ?_
    refine ev_icmp_ne (pc := 19) (tgt := 25) dX4_howManyIn_19 (by decide) (fun cq19 => ?_) (fun cq19 => ?_)
    · refine ev_iincN (pc := 25) (lv' := [(0, .ref 1), (1, .int _), (2, .int _), (3, .int _)]) dX4_howManyIn_25 rfl (Nat.le_of_ble_eq_true rfl) rfl ?_
      refine ev_goto (pc := 28) (tgt := 4) dX4_howManyIn_28 (by decide) ?_
      first | (rw [cntW, if_neg cq19] at ih; exact ih) | (rw [cntW, if_pos cq19] at ih; exact ih)
    · refine ev_iincN (pc := 22) (lv' := [(0, .ref 1), (1, .int _), (2, .int _), (3, .int _)]) dX4_howManyIn_22 rfl (Nat.le_of_ble_eq_true rfl) rfl ?_
      refine ev_iincN (pc := 25) (lv' := [(0, .ref 1), (1, .int _), (2, .int _), (3, .int _)]) dX4_howManyIn_25 rfl (Nat.le_of_ble_eq_true rfl) rfl ?_
      refine ev_goto (pc := 28) (tgt := 4) dX4_howManyIn_28 (by decide) ?_
      first | (rw [cntW, if_neg cq19] at ih; exact ih) | (rw [cntW, if_pos cq19] at ih; exact ih)
/-- whose the n-th is, of r baskets from k on -/
def ledF (kn we fa : Nat → Int32) (day : Int32) : Nat → Nat → Int32 → Int32
  | 0, _, _ => -1
  | r + 1, k, a => if kn k ≤ day then (if we k ≤ a then ledF kn we fa day r (k + 1) (a - we k) else fa k) else ledF kn we fa day r (k + 1) a
theorem c_X0_ownerOf {a day : Int32} {n : Nat} (hs : S.1 4 = nI n) (hn : n ≤ 300) : Ct g mX0_ownerOf [.ref 9, .int a, .int day] (hC S) (RI (ledF (S.2.1 9) (S.2.1 7) (S.2.1 6) day n 0 a) S) := by
  have L : ∀ (r k : Nat) (b : Int32), k + r = n → Ev g mX0_ownerOf 5 [(0, .ref 9), (1, .int a), (2, .int day), (3, .int b), (4, .int (nI k))] [] (hC S) (RI (ledF (S.2.1 9) (S.2.1 7) (S.2.1 6) day r k b) S) := by
    intro r
    induction r with
    | zero =>
      intro k b hk
      refine ev_iload (pc := 5) dX0_ownerOf_5 rfl ?_
      refine ev_aload_n (pc := 7) dX0_ownerOf_7 rfl ?_
      refine get_K_size (pc := 8) dX0_ownerOf_8 Fl_X0_24 hs ?_
      refine ev_icmp_geN (pc := 11) (tgt := 63) (by omega) (by omega) dX0_ownerOf_11 (by decide) (fun cq11 => ?_) (fun cq11 => absurd (show n ≤ k by omega) cq11)
      refine ev_iconst (pc := 63) (v := -1) dX0_ownerOf_63 (by decide) ?_
      exact ev_iret (pc := 64) dX0_ownerOf_64 rfl rfl ri
    | succ r ih =>
      intro k b hk
      rw [ledF]
      refine ev_iload (pc := 5) dX0_ownerOf_5 rfl ?_
      refine ev_aload_n (pc := 7) dX0_ownerOf_7 rfl ?_
      refine get_K_size (pc := 8) dX0_ownerOf_8 Fl_X0_24 hs ?_
      refine ev_icmp_geN (pc := 11) (tgt := 63) (by omega) (by omega) dX0_ownerOf_11 (by decide) (fun cq11 => absurd cq11 (by omega)) (fun cq11 => ?_)
      refine ev_aload_n (pc := 14) dX0_ownerOf_14 rfl ?_
      refine get_K_known (pc := 15) dX0_ownerOf_15 Fl_X0_21 ?_
      refine ev_iload (pc := 18) dX0_ownerOf_18 rfl ?_
      refine ldN_K_known (pc := 20) dX0_ownerOf_20 (by omega) rfl ?_
      refine ev_iload_n (pc := 21) dX0_ownerOf_21 rfl ?_
      refine ev_icmp_le (pc := 22) (tgt := 28) dX0_ownerOf_22 (by decide) (fun cq22 => ?_) (fun cq22 => ?_)
      · rw [if_pos cq22]
        refine ev_iload_n (pc := 28) dX0_ownerOf_28 rfl ?_
        refine ev_aload_n (pc := 29) dX0_ownerOf_29 rfl ?_
        refine get_K_weight (pc := 30) dX0_ownerOf_30 Fl_X0_15 ?_
        refine ev_iload (pc := 33) dX0_ownerOf_33 rfl ?_
        refine ldN_K_weight (pc := 35) dX0_ownerOf_35 (by omega) rfl ?_
        refine ev_icmp_ge (pc := 36) (tgt := 47) dX0_ownerOf_36 (by decide) (fun cq36 => ?_) (fun cq36 => ?_)
        · rw [if_pos cq36]
          refine ev_iload_n (pc := 47) dX0_ownerOf_47 rfl ?_
          refine ev_aload_n (pc := 48) dX0_ownerOf_48 rfl ?_
          refine get_K_weight (pc := 49) dX0_ownerOf_49 Fl_X0_15 ?_
          refine ev_iload (pc := 52) dX0_ownerOf_52 rfl ?_
          refine ldN_K_weight (pc := 54) dX0_ownerOf_54 (by omega) rfl ?_
          refine ev_isub (pc := 55) dX0_ownerOf_55 ?_
          refine ev_istore_n (pc := 56) (lv' := [(0, .ref 9), (1, .int _), (2, .int _), (3, .int _), (4, .int _)]) dX0_ownerOf_56 (Nat.le_of_ble_eq_true rfl) rfl ?_
          refine ev_iincN (pc := 57) (lv' := [(0, .ref 9), (1, .int _), (2, .int _), (3, .int _), (4, .int _)]) dX0_ownerOf_57 rfl (Nat.le_of_ble_eq_true rfl) rfl ?_
          refine ev_goto (pc := 60) (tgt := 5) dX0_ownerOf_60 (by decide) ?_
          exact ih _ _ (by omega)
        · rw [if_neg cq36]
          refine ev_aload_n (pc := 39) dX0_ownerOf_39 rfl ?_
          refine get_K_farmer (pc := 40) dX0_ownerOf_40 Fl_X0_9 ?_
          refine ev_iload (pc := 43) dX0_ownerOf_43 rfl ?_
          refine ldN_K_farmer (pc := 45) dX0_ownerOf_45 (by omega) rfl ?_
          exact ev_iret (pc := 46) dX0_ownerOf_46 rfl rfl ri
      · rw [if_neg cq22]
        refine ev_goto (pc := 25) (tgt := 57) dX0_ownerOf_25 (by decide) ?_
        refine ev_iincN (pc := 57) (lv' := [(0, .ref 9), (1, .int _), (2, .int _), (3, .int _), (4, .int _)]) dX0_ownerOf_57 rfl (Nat.le_of_ble_eq_true rfl) rfl ?_
        refine ev_goto (pc := 60) (tgt := 5) dX0_ownerOf_60 (by decide) ?_
        exact ih _ _ (by omega)
  refine ct_of rfl rfl ?_
  refine ev_iload_n (pc := 0) dX0_ownerOf_0 rfl ?_
  refine ev_istore_n (pc := 1) (lv' := [(0, .ref 9), (1, .int _), (2, .int _), (3, .int _)]) dX0_ownerOf_1 (Nat.le_of_ble_eq_true rfl) rfl ?_
  refine ev_iconst (pc := 2) (v := nI 0) dX0_ownerOf_2 (by decide) ?_
  refine ev_istore (pc := 3) (lv' := [(0, .ref 9), (1, .int _), (2, .int _), (3, .int _), (4, .int _)]) dX0_ownerOf_3 (Nat.le_of_ble_eq_true rfl) rfl ?_
  exact L n 0 a (by omega)
/-- what is lost at a place, by the first k -/
def lostF (fr to pa : Nat → Int32) (p : Int32) : Nat → Int32
  | 0 => 0
  | k + 1 => if p < fr k then lostF fr to pa p k else if to k < p then lostF fr to pa p k else pa k
theorem dec1 (x : Int32) : x + Int32.ofInt (-1) = x - 1 := by rw [Int32.sub_eq_add_neg]; rfl
theorem nI_dec (k : Nat) : nI (k + 1) + Int32.ofInt (-1) = nI k := pk_m1 k
theorem c_X5_lostAt {p : Int32} {n : Nat} (hs : S.1 10 = nI n) (hn : n ≤ 60) : Ct g mX5_lostAt [.ref 26, .int p] (hC S) (RI (lostF (S.2.1 11) (S.2.1 12) (S.2.1 13) p n) S) := by
  have L : ∀ (k : Nat) (j : Int32), k ≤ n → j = nI k - 1 → Ev g mX5_lostAt 7 [(0, .ref 26), (1, .int p), (2, .int j)] [] (hC S) (RI (lostF (S.2.1 11) (S.2.1 12) (S.2.1 13) p k) S) := by
    intro k
    induction k with
    | zero =>
      intro j hk hj
      refine ev_iload_n (pc := 7) dX5_lostAt_7 rfl ?_
      refine ev_if_lt (pc := 8) (tgt := 44) dX5_lostAt_8 (by decide) (fun cq8 => ?_) (fun cq8 => absurd (by rw [hj]; decide) cq8)
      refine ev_iconst (pc := 44) (v := 0) dX5_lostAt_44 (by decide) ?_
      exact ev_iret (pc := 45) dX5_lostAt_45 rfl rfl ri
    | succ k ih =>
      intro j hk hj
      rw [nI_pred] at hj
      subst hj
      rw [lostF]
      refine ev_iload_n (pc := 7) dX5_lostAt_7 rfl ?_
      refine ev_if_lt (pc := 8) (tgt := 44) dX5_lostAt_8 (by decide) (fun cq8 => absurd cq8 (nI_pos (by omega))) (fun cq8 => ?_)
      refine ev_aload_n (pc := 11) dX5_lostAt_11 rfl ?_
      refine get_LA_from (pc := 12) dX5_lostAt_12 Fl_X5_9 ?_
      refine ev_iload_n (pc := 15) dX5_lostAt_15 rfl ?_
      refine ldN_LA_from (pc := 16) dX5_lostAt_16 (by omega) rfl ?_
      refine ev_iload_n (pc := 17) dX5_lostAt_17 rfl ?_
      refine ev_icmp_gt (pc := 18) (tgt := 38) dX5_lostAt_18 (by decide) (fun cq18 => ?_) (fun cq18 => ?_)
      · rw [if_pos cq18]
        refine ev_iinc (pc := 38) (lv' := [(0, .ref 26), (1, .int _), (2, .int _)]) dX5_lostAt_38 rfl (Nat.le_of_ble_eq_true rfl) rfl ?_
        refine ev_goto (pc := 41) (tgt := 7) dX5_lostAt_41 (by decide) ?_
        exact ih _ (by omega) (dec1 _)
      · rw [if_neg cq18]
        refine ev_iload_n (pc := 21) dX5_lostAt_21 rfl ?_
        refine ev_aload_n (pc := 22) dX5_lostAt_22 rfl ?_
        refine get_LA_to (pc := 23) dX5_lostAt_23 Fl_X5_15 ?_
        refine ev_iload_n (pc := 26) dX5_lostAt_26 rfl ?_
        refine ldN_LA_to (pc := 27) dX5_lostAt_27 (by omega) rfl ?_
        refine ev_icmp_gt (pc := 28) (tgt := 38) dX5_lostAt_28 (by decide) (fun cq28 => ?_) (fun cq28 => ?_)
        · rw [if_pos cq28]
          refine ev_iinc (pc := 38) (lv' := [(0, .ref 26), (1, .int _), (2, .int _)]) dX5_lostAt_38 rfl (Nat.le_of_ble_eq_true rfl) rfl ?_
          refine ev_goto (pc := 41) (tgt := 7) dX5_lostAt_41 (by decide) ?_
          exact ih _ (by omega) (dec1 _)
        · rw [if_neg cq28]
          refine ev_aload_n (pc := 31) dX5_lostAt_31 rfl ?_
          refine get_LA_part (pc := 32) dX5_lostAt_32 Fl_X5_18 ?_
          refine ev_iload_n (pc := 35) dX5_lostAt_35 rfl ?_
          refine ldN_LA_part (pc := 36) dX5_lostAt_36 (by omega) rfl ?_
          exact ev_iret (pc := 37) dX5_lostAt_37 rfl rfl ri
  refine ct_of rfl rfl ?_
  refine ev_aload_n (pc := 0) dX5_lostAt_0 rfl ?_
  refine get_LA_size (pc := 1) dX5_lostAt_1 Fl_X5_21 hs ?_
  refine ev_iconst (pc := 4) (v := 1) dX5_lostAt_4 (by decide) ?_
  refine ev_isub (pc := 5) dX5_lostAt_5 ?_
  refine ev_istore_n (pc := 6) (lv' := [(0, .ref 26), (1, .int _), (2, .int _)]) dX5_lostAt_6 (Nat.le_of_ble_eq_true rfl) rfl ?_
  exact L n _ (Nat.le_refl n) rfl
def foreL (fields yld : Int32) (lost : Int32) : Int64 := fields.toInt64 * yld.toInt64 * (100 - lost).toInt64 / 100
theorem c_X5_foretold {f p : Int32} {n : Nat} (hs : S.1 10 = nI n) (hn : n ≤ 60) : Ct g mX5_foretold [.ref 26, .int f, .int p] (hC S) (RJl (foreL f (S.1 11) (lostF (S.2.1 11) (S.2.1 12) (S.2.1 13) p n)) S) := by
  refine ct_of rfl rfl ?_
  refine ev_iload_n (pc := 0) dX5_foretold_0 rfl ?_
  refine ev_i2l (pc := 1) dX5_foretold_1 ?_
  refine ev_aload_n (pc := 2) dX5_foretold_2 rfl ?_
  refine get_LA_yieldOfField (pc := 3) dX5_foretold_3 Fl_X5_25 rfl ?_
  refine ev_i2l (pc := 6) dX5_foretold_6 ?_
  refine ev_lmul (pc := 7) dX5_foretold_7 ?_
  refine ev_bipush (pc := 8) (v := 100) dX5_foretold_8 (by decide) ?_
  refine ev_aload_n (pc := 10) dX5_foretold_10 rfl ?_
  refine ev_iload_n (pc := 11) dX5_foretold_11 rfl ?_
  refine callV1I (pc := 12) dX5_foretold_12 Ml_X5_28 M_X5_lostAt rfl rfl rfl rfl (c_X5_lostAt hs hn) ?_
  refine ev_isub (pc := 15) dX5_foretold_15 ?_
  refine ev_i2l (pc := 16) dX5_foretold_16 ?_
  refine ev_lmul (pc := 17) dX5_foretold_17 ?_
  refine ev_ldc2 (pc := 18) dX5_foretold_18 Cn_X5_32 ?_
  refine ev_ldiv (pc := 21) dX5_foretold_21 (by decide) ?_
  exact ev_lret (pc := 22) dX5_foretold_22 rfl rl
def byteS (n : Nat) (v : Int32) (S : St) : St := setI (setA S 10 (upd (S.2.1 10) n v)) 6 (nI (n + 1))
def byteAt (x s : Int32) : Int32 := (x.toUInt32 >>> (s.toUInt32 &&& Int32.toUInt32 31)).toInt32 &&& 255
def appendS (n : Nat) (x : Int32) (S : St) : St := byteS (n + 3) (byteAt x 0) (byteS (n + 2) (byteAt x 8) (byteS (n + 1) (byteAt x 16) (byteS n (byteAt x 24) S)))
theorem c_X7_append {x : Int32} {n : Nat} (hs : S.1 6 = nI n) (hn : n + 4 ≤ 200) : Ct g mX7_append [.ref 14, .int x] (hC S) (RV (appendS n x S)) := by
  have L : ∀ (S : St) (n : Nat) (s s' : Int32) (Post : Option Value → List va_E → Prop), S.1 6 = nI n → n < 200 → ¬ s < 0 → s + Int32.ofInt (-8) = s' → Ev g mX7_append 3 [(0, .ref 14), (1, .int x), (2, .int s')] [] (hC (byteS n (byteAt x s) S)) Post → Ev g mX7_append 3 [(0, .ref 14), (1, .int x), (2, .int s)] [] (hC S) Post := by
    intro S n s s' Post hs hn h0 hs' k
    subst hs'
    refine ev_iload_n (pc := 3) dX7_append_3 rfl ?_
    refine ev_if_lt (pc := 4) (tgt := 49) dX7_append_4 (by decide) (fun cq4 => absurd cq4 h0) (fun cq4 => ?_)
    refine ev_aload_n (pc := 7) dX7_append_7 rfl ?_
    refine get_TP_length (pc := 8) dX7_append_8 Fl_X7_15 hs ?_
    refine ev_sipush (pc := 11) (v := nI 200) dX7_append_11 (by decide) ?_
    refine ev_icmp_geN (pc := 14) (tgt := 49) (by omega) (by omega) dX7_append_14 (by decide) (fun cq14 => absurd cq14 (by omega)) (fun cq14 => ?_)
    refine ev_aload_n (pc := 17) dX7_append_17 rfl ?_
    refine get_TP_bytes (pc := 18) dX7_append_18 Fl_X7_9 ?_
    refine ev_aload_n (pc := 21) dX7_append_21 rfl ?_
    refine get_TP_length (pc := 22) dX7_append_22 Fl_X7_15 hs ?_
    refine ev_iload_n (pc := 25) dX7_append_25 rfl ?_
    refine ev_iload_n (pc := 26) dX7_append_26 rfl ?_
    refine ev_iushr (pc := 27) dX7_append_27 ?_
    refine ev_sipush (pc := 28) (v := 255) dX7_append_28 (by decide) ?_
    refine ev_iand (pc := 31) dX7_append_31 ?_
    refine asN_TP_bytes (pc := 32) dX7_append_32 (by omega) ?_
    refine ev_aload_n (pc := 33) dX7_append_33 rfl ?_
    refine ev_dup (pc := 34) dX7_append_34 rfl ?_
    refine get_TP_length (pc := 35) dX7_append_35 Fl_X7_15 hs ?_
    refine ev_iconst (pc := 38) (v := 1) dX7_append_38 (by decide) ?_
    refine ev_iadd (pc := 39) dX7_append_39 ?_
    rw [nI_1]
    refine put_TP_length (pc := 40) dX7_append_40 Fp_X7_15 ?_
    refine ev_iinc (pc := 43) (lv' := [(0, .ref 14), (1, .int _), (2, .int _)]) dX7_append_43 rfl (Nat.le_of_ble_eq_true rfl) rfl ?_
    refine ev_goto (pc := 46) (tgt := 3) dX7_append_46 (by decide) ?_
    exact k
  refine ct_of rfl rfl ?_
  refine ev_bipush (pc := 0) (v := 24) dX7_append_0 (by decide) ?_
  refine ev_istore_n (pc := 2) (lv' := [(0, .ref 14), (1, .int _), (2, .int _)]) dX7_append_2 (Nat.le_of_ble_eq_true rfl) rfl ?_
  refine L S n 24 16 _ hs (by omega) (by decide) (by decide) ?_
  refine L _ (n + 1) 16 8 _ rfl (by omega) (by decide) (by decide) ?_
  refine L _ (n + 2) 8 0 _ rfl (by omega) (by decide) (by decide) ?_
  refine L _ (n + 3) 0 (-8) _ rfl (by omega) (by decide) (by decide) ?_
  refine ev_iload_n (pc := 3) dX7_append_3 rfl ?_
  refine ev_if_lt (pc := 4) (tgt := 49) dX7_append_4 (by decide) (fun cq4 => ?_) (fun cq4 => absurd (by decide) cq4)
  exact ev_ret (pc := 49) dX7_append_49 rfl rv
end SM
