section MO9
variable {g : GG} {S : St}
def atN (lo hi s n : Nat) : Nat := ((17 * lo + hi) * 2 + s) * 17 + n
theorem c_X10_at {a b c d : Nat} : Ct g mX10_at [.int (nI a), .int (nI b), .int (nI c), .int (nI d)] (hC S) (RI (nI (atN a b c d)) S) := by
  refine ct_of rfl rfl ?_
  refine ev_bipush (pc := 0) (v := nI 17) dX10_at_0 (by decide) ?_
  refine ev_iload_n (pc := 2) dX10_at_2 rfl ?_
  refine ev_imul (pc := 3) dX10_at_3 ?_
  refine ev_iload_n (pc := 4) dX10_at_4 rfl ?_
  refine ev_iadd (pc := 5) dX10_at_5 ?_
  refine ev_iconst (pc := 6) (v := nI 2) dX10_at_6 (by decide) ?_
  refine ev_imul (pc := 7) dX10_at_7 ?_
  refine ev_iload_n (pc := 8) dX10_at_8 rfl ?_
  refine ev_iadd (pc := 9) dX10_at_9 ?_
  refine ev_bipush (pc := 10) (v := nI 17) dX10_at_10 (by decide) ?_
  refine ev_imul (pc := 12) dX10_at_12 ?_
  refine ev_iload_n (pc := 13) dX10_at_13 rfl ?_
  refine ev_iadd (pc := 14) dX10_at_14 ?_
  exact ev_iret (pc := 15) dX10_at_15 rfl rfl (ri' (by simp only [nI_add, pk_mul, atN]) rfl)
/-- how many of the first k visits at a place are met in an hour -/
def mtF (pl vf vh : Nat → Int32) (p h : Int32) : Nat → Nat
  | 0 => 0
  | k + 1 => mtF pl vf vh p h k + (if pl (vf k).toNatClampNeg = p then (if vh k < h then 0 else 1) else 0)
theorem mtF_le (pl vf vh : Nat → Int32) (p h : Int32) : ∀ k, mtF pl vf vh p h k ≤ k
  | 0 => Nat.le_refl _
  | k + 1 => by
    have := mtF_le pl vf vh p h k
    rw [mtF]
    split
    · split <;> omega
    · omega
def Vm (S : St) (nv : Nat) : Prop := S.1 37 = nI nv ∧ nv ≤ 16 ∧ ∀ k, k < nv → vp_in (S.2.1 44 k) 40
theorem c_X10_metAt {p h : Int32} {nv : Nat} (hV : Vm S nv) : Ct g mX10_metAt [.ref 43, .int p, .int h] (hC S) (RI (nI (mtF (S.2.1 25) (S.2.1 44) (S.2.1 45) p h nv)) S) := by
  obtain ⟨hs, hn, hf⟩ := hV
  have L : ∀ k, k ≤ nv → Ev g mX10_metAt 5 [(0, .ref 43), (1, .int p), (2, .int h), (3, .int (nI (mtF (S.2.1 25) (S.2.1 44) (S.2.1 45) p h k))), (4, .int (nI k))] [] (hC S) (RI (nI (mtF (S.2.1 25) (S.2.1 44) (S.2.1 45) p h nv)) S) := by
    refine loop_up nv ?_ ?_
    · skip
      refine ev_iload (pc := 5) dX10_metAt_5 rfl ?_
      refine ev_aload_n (pc := 7) dX10_metAt_7 rfl ?_
      refine get_MO_visits (pc := 8) dX10_metAt_8 Fl_X10_268 hs ?_
      refine ev_icmp_geN (pc := 11) (tgt := 55) (by omega) (by omega) dX10_metAt_11 (by decide) (fun cq11 => ?_) (fun cq11 => absurd (Nat.le_refl nv) cq11)
      refine ev_iload_n (pc := 55) dX10_metAt_55 rfl ?_
      exact ev_iret (pc := 56) dX10_metAt_56 rfl rfl ri
    · intro k hk ih
      rw [mtF] at ih
      refine ev_iload (pc := 5) dX10_metAt_5 rfl ?_
      refine ev_aload_n (pc := 7) dX10_metAt_7 rfl ?_
      refine get_MO_visits (pc := 8) dX10_metAt_8 Fl_X10_268 hs ?_
      refine ev_icmp_geN (pc := 11) (tgt := 55) (by omega) (by omega) dX10_metAt_11 (by decide) (fun cq11 => absurd cq11 (by omega)) (fun cq11 => ?_)
      refine ev_iload_n (pc := 14) dX10_metAt_14 rfl ?_
      refine ev_aload_n (pc := 15) dX10_metAt_15 rfl ?_
      refine get_MO_fPlace (pc := 16) dX10_metAt_16 Fl_X10_13 ?_
      refine ev_aload_n (pc := 19) dX10_metAt_19 rfl ?_
      refine get_MO_vFarmer (pc := 20) dX10_metAt_20 Fl_X10_105 ?_
      refine ev_iload (pc := 23) dX10_metAt_23 rfl ?_
      refine ldN_MO_vFarmer (pc := 25) dX10_metAt_25 (by omega) rfl ?_
      refine ld_MO_fPlace (pc := 26) dX10_metAt_26 (hf k hk) rfl ?_
      refine ev_iload_n (pc := 27) dX10_metAt_27 rfl ?_
      refine ev_icmp_ne (pc := 28) (tgt := 46) dX10_metAt_28 (by decide) (fun cq28 => ?_) (fun cq28 => ?_)
      · rw [if_neg cq28] at ih
        refine ev_iconst (pc := 46) (v := nI 0) dX10_metAt_46 (by decide) ?_
        refine ev_iadd (pc := 47) dX10_metAt_47 ?_
        rw [nI_add]
        refine ev_istore_n (pc := 48) (lv' := [(0, .ref 43), (1, .int _), (2, .int _), (3, .int _), (4, .int _)]) dX10_metAt_48 (Nat.le_of_ble_eq_true rfl) rfl ?_
        refine ev_iincN (pc := 49) (lv' := [(0, .ref 43), (1, .int _), (2, .int _), (3, .int _), (4, .int _)]) dX10_metAt_49 rfl (Nat.le_of_ble_eq_true rfl) rfl ?_
        refine ev_goto (pc := 52) (tgt := 5) dX10_metAt_52 (by decide) ?_
        exact ih
      · rw [if_pos cq28] at ih
        refine ev_iload_n (pc := 31) dX10_metAt_31 rfl ?_
        refine ev_aload_n (pc := 32) dX10_metAt_32 rfl ?_
        refine get_MO_vHour (pc := 33) dX10_metAt_33 Fl_X10_108 ?_
        refine ev_iload (pc := 36) dX10_metAt_36 rfl ?_
        refine ldN_MO_vHour (pc := 38) dX10_metAt_38 (by omega) rfl ?_
        refine ev_icmp_gt (pc := 39) (tgt := 46) dX10_metAt_39 (by decide) (fun cq39 => ?_) (fun cq39 => ?_)
        · rw [if_pos cq39] at ih
          refine ev_iconst (pc := 46) (v := nI 0) dX10_metAt_46 (by decide) ?_
          refine ev_iadd (pc := 47) dX10_metAt_47 ?_
          rw [nI_add]
          refine ev_istore_n (pc := 48) (lv' := [(0, .ref 43), (1, .int _), (2, .int _), (3, .int _), (4, .int _)]) dX10_metAt_48 (Nat.le_of_ble_eq_true rfl) rfl ?_
          refine ev_iincN (pc := 49) (lv' := [(0, .ref 43), (1, .int _), (2, .int _), (3, .int _), (4, .int _)]) dX10_metAt_49 rfl (Nat.le_of_ble_eq_true rfl) rfl ?_
          refine ev_goto (pc := 52) (tgt := 5) dX10_metAt_52 (by decide) ?_
          exact ih
        · rw [if_neg cq39] at ih
          refine ev_iconst (pc := 42) (v := nI 1) dX10_metAt_42 (by decide) ?_
          refine ev_goto (pc := 43) (tgt := 47) dX10_metAt_43 (by decide) ?_
          refine ev_iadd (pc := 47) dX10_metAt_47 ?_
          rw [nI_add]
          refine ev_istore_n (pc := 48) (lv' := [(0, .ref 43), (1, .int _), (2, .int _), (3, .int _), (4, .int _)]) dX10_metAt_48 (Nat.le_of_ble_eq_true rfl) rfl ?_
          refine ev_iincN (pc := 49) (lv' := [(0, .ref 43), (1, .int _), (2, .int _), (3, .int _), (4, .int _)]) dX10_metAt_49 rfl (Nat.le_of_ble_eq_true rfl) rfl ?_
          refine ev_goto (pc := 52) (tgt := 5) dX10_metAt_52 (by decide) ?_
          exact ih
  refine ct_of rfl rfl ?_
  refine ev_iconst (pc := 0) (v := nI 0) dX10_metAt_0 (by decide) ?_
  refine ev_istore_n (pc := 1) (lv' := [(0, .ref 43), (1, .int _), (2, .int _), (3, .int _)]) dX10_metAt_1 (Nat.le_of_ble_eq_true rfl) rfl ?_
  refine ev_iconst (pc := 2) (v := nI 0) dX10_metAt_2 (by decide) ?_
  refine ev_istore (pc := 3) (lv' := [(0, .ref 43), (1, .int _), (2, .int _), (3, .int _), (4, .int _)]) dX10_metAt_3 (Nat.le_of_ble_eq_true rfl) rfl ?_
  exact L 0 (Nat.zero_le _)
/-- where a place would stand -/
def apF (pl : Nat → Int32) (p : Int32) : Nat → Nat → Nat
  | 0, k => k
  | r + 1, k => if p ≤ pl k then k else apF pl p r (k + 1)
theorem apF_le (pl : Nat → Int32) (p : Int32) : ∀ r k, k ≤ apF pl p r k ∧ apF pl p r k ≤ k + r
  | 0, k => ⟨Nat.le_refl _, Nat.le_refl _⟩
  | r + 1, k => by
    unfold apF
    split
    · omega
    · have := apF_le pl p r (k + 1); omega
def shM (k : Nat) : Nat → St → St
  | 0, X => X
  | r + 1, X => shM k r (setA X 46 (upd (X.2.1 46) (k + r + 1) (X.2.1 46 (k + r))))
theorem shM_I (k : Nat) : ∀ r X, (shM k r X).1 = X.1
  | 0, _ => rfl
  | r + 1, X => by rw [shM]; exact shM_I k r _
def insM (n k : Nat) (p : Int32) (X : St) : St :=
  let Y := shM k (n - k) X
  setI (setA Y 46 (upd (Y.2.1 46) k p)) 38 (nI n + 1)
def addP (n : Nat) (p : Int32) (X : St) : St :=
  let k := apF (X.2.1 46) p n 0
  if n ≤ k then insM n k p X else if X.2.1 46 k = p then X else insM n k p X
theorem c_X10_addPlace {p : Int32} {n : Nat} (hs : S.1 38 = nI n) (hn : n ≤ 16) : Ct g mX10_addPlace [.ref 43, .int p] (hC S) (RV (addP n p S)) := by
  have hk := apF_le (S.2.1 46) p n 0
  have fin : ∀ (k : Nat) (X : St), k ≤ n → X.1 38 = nI n → ∀ i, Ev g mX10_addPlace 75 [(0, .ref 43), (1, .int p), (2, .int (nI k)), (3, .int i)] [] (hC X) (RV (setI (setA X 46 (upd (X.2.1 46) k p)) 38 (nI n + 1))) := by
    intro k X hk hs i
    refine ev_aload_n (pc := 75) dX10_addPlace_75 rfl ?_
    refine get_MO_place (pc := 76) dX10_addPlace_76 Fl_X10_111 ?_
    refine ev_iload_n (pc := 79) dX10_addPlace_79 rfl ?_
    refine ev_iload_n (pc := 80) dX10_addPlace_80 rfl ?_
    refine asN_MO_place (pc := 81) dX10_addPlace_81 (by omega) ?_
    refine ev_aload_n (pc := 82) dX10_addPlace_82 rfl ?_
    refine ev_dup (pc := 83) dX10_addPlace_83 rfl ?_
    refine get_MO_places (pc := 84) dX10_addPlace_84 Fl_X10_271 hs ?_
    refine ev_iconst (pc := 87) (v := 1) dX10_addPlace_87 (by decide) ?_
    refine ev_iadd (pc := 88) dX10_addPlace_88 ?_
    refine put_MO_places (pc := 89) dX10_addPlace_89 Fp_X10_271 ?_
    exact ev_ret (pc := 92) dX10_addPlace_92 rfl rv
  have sh : ∀ (k r : Nat) (X : St), k + r ≤ n → X.1 38 = nI n → Ev g mX10_addPlace 50 [(0, .ref 43), (1, .int p), (2, .int (nI k)), (3, .int (nI (k + r)))] [] (hC X) (RV (setI (setA (shM k r X) 46 (upd ((shM k r X).2.1 46) k p)) 38 (nI n + 1))) := by
    intro k r
    induction r with
    | zero =>
      intro X h1 hs
      refine ev_iload_n (pc := 50) dX10_addPlace_50 rfl ?_
      refine ev_iload_n (pc := 51) dX10_addPlace_51 rfl ?_
      refine ev_icmp_leN (pc := 52) (tgt := 75) (by omega) (by omega) dX10_addPlace_52 (by decide) (fun cq52 => ?_) (fun cq52 => absurd (show k + 0 ≤ k by omega) cq52)
      exact fin k X (by omega) hs _
    | succ r ih =>
      intro X h1 hs
      rw [shM]
      refine ev_iload_n (pc := 50) dX10_addPlace_50 rfl ?_
      refine ev_iload_n (pc := 51) dX10_addPlace_51 rfl ?_
      refine ev_icmp_leN (pc := 52) (tgt := 75) (by omega) (by omega) dX10_addPlace_52 (by decide) (fun cq52 => absurd cq52 (by omega)) (fun cq52 => ?_)
      refine ev_aload_n (pc := 55) dX10_addPlace_55 rfl ?_
      refine get_MO_place (pc := 56) dX10_addPlace_56 Fl_X10_111 ?_
      skip
      refine ev_iload_n (pc := 59) dX10_addPlace_59 rfl ?_
      refine ev_aload_n (pc := 60) dX10_addPlace_60 rfl ?_
      refine get_MO_place (pc := 61) dX10_addPlace_61 Fl_X10_111 ?_
      refine ev_iload_n (pc := 64) dX10_addPlace_64 rfl ?_
      refine ev_iconst (pc := 65) (v := 1) dX10_addPlace_65 (by decide) ?_
      refine ev_isub (pc := 66) dX10_addPlace_66 ?_
      rw [show k + (r + 1) = k + r + 1 from rfl, nI_pred]
      refine ldN_MO_place (pc := 67) dX10_addPlace_67 (by omega) rfl ?_
      refine asN_MO_place (pc := 68) dX10_addPlace_68 (by omega) ?_
      refine ev_iinc (pc := 69) (lv' := [(0, .ref 43), (1, .int _), (2, .int _), (3, .int _)]) dX10_addPlace_69 rfl (Nat.le_of_ble_eq_true rfl) rfl ?_
      refine ev_goto (pc := 72) (tgt := 50) dX10_addPlace_72 (by decide) ?_
      rw [nI_dec]
      exact ih _ (by omega) hs
  have ins : ∀ (k : Nat), k ≤ n → Ev g mX10_addPlace 45 [(0, .ref 43), (1, .int p), (2, .int (nI k))] [] (hC S) (RV (insM n k p S)) := by
    intro k hk
    have h := sh k (n - k) S (by omega) hs
    rw [show k + (n - k) = n by omega] at h
    refine ev_aload_n (pc := 45) dX10_addPlace_45 rfl ?_
    refine get_MO_places (pc := 46) dX10_addPlace_46 Fl_X10_271 hs ?_
    refine ev_istore_n (pc := 49) (lv' := [(0, .ref 43), (1, .int _), (2, .int _), (3, .int _)]) dX10_addPlace_49 (Nat.le_of_ble_eq_true rfl) rfl ?_
    exact h
  have L : ∀ (r k : Nat) (Post : Option Value → List va_E → Prop), k + r = n → Ev g mX10_addPlace 26 [(0, .ref 43), (1, .int p), (2, .int (nI (apF (S.2.1 46) p r k)))] [] (hC S) Post → Ev g mX10_addPlace 2 [(0, .ref 43), (1, .int p), (2, .int (nI k))] [] (hC S) Post := by
    intro r
    induction r with
    | zero =>
      intro k Post hk h
      refine ev_iload_n (pc := 2) dX10_addPlace_2 rfl ?_
      refine ev_aload_n (pc := 3) dX10_addPlace_3 rfl ?_
      refine get_MO_places (pc := 4) dX10_addPlace_4 Fl_X10_271 hs ?_
      refine ev_icmp_geN (pc := 7) (tgt := 26) (by omega) (by omega) dX10_addPlace_7 (by decide) (fun cq7 => ?_) (fun cq7 => absurd (show n ≤ k by omega) cq7)
      exact h
    | succ r ih =>
      intro k Post hk h
      rw [apF] at h
      refine ev_iload_n (pc := 2) dX10_addPlace_2 rfl ?_
      refine ev_aload_n (pc := 3) dX10_addPlace_3 rfl ?_
      refine get_MO_places (pc := 4) dX10_addPlace_4 Fl_X10_271 hs ?_
      refine ev_icmp_geN (pc := 7) (tgt := 26) (by omega) (by omega) dX10_addPlace_7 (by decide) (fun cq7 => absurd cq7 (by omega)) (fun cq7 => ?_)
      refine ev_aload_n (pc := 10) dX10_addPlace_10 rfl ?_
      refine get_MO_place (pc := 11) dX10_addPlace_11 Fl_X10_111 ?_
      refine ev_iload_n (pc := 14) dX10_addPlace_14 rfl ?_
      refine ldN_MO_place (pc := 15) dX10_addPlace_15 (by omega) rfl ?_
      refine ev_iload_n (pc := 16) dX10_addPlace_16 rfl ?_
      refine ev_icmp_ge (pc := 17) (tgt := 26) dX10_addPlace_17 (by decide) (fun cq17 => ?_) (fun cq17 => ?_)
      · rw [if_pos cq17] at h
        exact h
      · rw [if_neg cq17] at h
        refine ev_iincN (pc := 20) (lv' := [(0, .ref 43), (1, .int _), (2, .int _)]) dX10_addPlace_20 rfl (Nat.le_of_ble_eq_true rfl) rfl ?_
        refine ev_goto (pc := 23) (tgt := 2) dX10_addPlace_23 (by decide) ?_
        exact ih _ _ (by omega) h
  unfold addP
  refine ct_of rfl rfl ?_
  generalize hkk : apF (S.2.1 46) p n 0 = k at *
  refine ev_iconst (pc := 0) (v := nI 0) dX10_addPlace_0 (by decide) ?_
  refine ev_istore_n (pc := 1) (lv' := [(0, .ref 43), (1, .int _), (2, .int _)]) dX10_addPlace_1 (Nat.le_of_ble_eq_true rfl) rfl ?_
  refine L n 0 _ (by omega) ?_
  rw [hkk]
  refine ev_iload_n (pc := 26) dX10_addPlace_26 rfl ?_
  refine ev_aload_n (pc := 27) dX10_addPlace_27 rfl ?_
  refine get_MO_places (pc := 28) dX10_addPlace_28 Fl_X10_271 hs ?_
  refine ev_icmp_geN (pc := 31) (tgt := 45) (by omega) (by omega) dX10_addPlace_31 (by decide) (fun cq31 => ?_) (fun cq31 => ?_)
  · rw [if_pos cq31]
    exact ins k (by omega)
  · rw [if_neg cq31]
    refine ev_aload_n (pc := 34) dX10_addPlace_34 rfl ?_
    refine get_MO_place (pc := 35) dX10_addPlace_35 Fl_X10_111 ?_
    refine ev_iload_n (pc := 38) dX10_addPlace_38 rfl ?_
    refine ldN_MO_place (pc := 39) dX10_addPlace_39 (by omega) rfl ?_
    refine ev_iload_n (pc := 40) dX10_addPlace_40 rfl ?_
    refine ev_icmp_ne (pc := 41) (tgt := 45) dX10_addPlace_41 (by decide) (fun cq41 => ?_) (fun cq41 => ?_)
    · rw [if_neg cq41]
      exact ins k (by omega)
    · rw [if_pos cq41]
      exact ev_ret (pc := 44) dX10_addPlace_44 rfl rv
def absI (d : Int32) : Int32 := if 0 ≤ d then d else -d
/-- the stretch grows to the next place -/
def wdT (lo' hi' s' n q : Nat) (nv : Nat) (from' was : Int32) (X : St) : St :=
  let h := was + absI (X.2.1 46 q - from')
  let k := atN lo' hi' s' (n + mtF (X.2.1 25) (X.2.1 44) (X.2.1 45) (X.2.1 46 q) h nv)
  setA X 47 (upd (X.2.1 47) k (if X.2.1 47 k ≤ h then X.2.1 47 k else h))
def wdL (nv lo hi s n : Nat) (X : St) : St :=
  if X.2.1 47 (atN lo hi s n) = 1000000000 then X else if lo = 0 then X else wdT (lo - 1) hi 0 n (lo - 1) nv (X.2.1 46 (if s = 0 then lo else hi)) (X.2.1 47 (atN lo hi s n)) X
def wdR (m nv lo hi s n : Nat) (X : St) : St :=
  if X.2.1 47 (atN lo hi s n) = 1000000000 then X else if hi + 1 = m then X else wdT lo (hi + 1) 1 n (hi + 1) nv (X.2.1 46 (if s = 0 then lo else hi)) (X.2.1 47 (atN lo hi s n)) X
theorem at_lt {lo hi s n : Nat} (h1 : lo ≤ 16) (h2 : hi ≤ 16) (h3 : s < 2) (h4 : n ≤ 16) : atN lo hi s n < 9826 := by unfold atN; omega
theorem at_lt2 {lo hi s n : Nat} (h1 : lo ≤ 15) (h2 : hi ≤ 16) (h3 : s < 2) (h4 : n ≤ 32) : atN lo hi s n < 9826 := by unfold atN; omega
end MO9
