section RD
variable {g : GG} {S : St} {M : MD} {pc : Nat} {lv : List (Nat × Value)} {st : List Value} {hp : List va_E} {Post : Option Value → List va_E → Prop}
theorem nI_z {k : Nat} (h : k < 2 ^ 31) : nI k = 0 ↔ k = 0 := by
  have := nI_eq (a := k) (b := 0) h (by decide)
  rw [← nI_0]; exact this
theorem ev_if_neN {k : Nat} {off : Int} {tgt : Nat} (hk : k < 2 ^ 31) (d : decode M.2.1 pc = .ok (.ifCond .ne off, 3)) (ht : (pc : Int) + off = (tgt : Int)) (kt : ¬ k = 0 → Ev g M tgt lv st hp Post) (kf : k = 0 → Ev g M (pc + 3) lv st hp Post) : Ev g M pc lv (.int (nI k) :: st) hp Post := ev_if_ne d ht (fun q => kt (fun z => q ((nI_z hk).mpr z))) (fun q => kf ((nI_z hk).mp q))
theorem ev_if_eqN {k : Nat} {off : Int} {tgt : Nat} (hk : k < 2 ^ 31) (d : decode M.2.1 pc = .ok (.ifCond .eq off, 3)) (ht : (pc : Int) + off = (tgt : Int)) (kt : k = 0 → Ev g M tgt lv st hp Post) (kf : ¬ k = 0 → Ev g M (pc + 3) lv st hp Post) : Ev g M pc lv (.int (nI k) :: st) hp Post := ev_if_eq d ht (fun q => kt ((nI_z hk).mp q)) (fun q => kf (fun z => q ((nI_z hk).mpr z)))
theorem ev_if_leN {k : Nat} {off : Int} {tgt : Nat} (hk : k < 2 ^ 31) (d : decode M.2.1 pc = .ok (.ifCond .le off, 3)) (ht : (pc : Int) + off = (tgt : Int)) (kt : k = 0 → Ev g M tgt lv st hp Post) (kf : ¬ k = 0 → Ev g M (pc + 3) lv st hp Post) : Ev g M pc lv (.int (nI k) :: st) hp Post := ev_if_le d ht (fun q => kt (by rcases Nat.eq_zero_or_pos k with h | h; exact h; exact absurd q (nI_nle h hk))) (fun q => kf (fun z => q (by rw [z]; decide)))
/-- the cell's place -/
def cellN (r a b s m : Nat) : Nat := ((a * (r + 1) + b) * 2 + s) * 17 + m
theorem c_X6_cellOf {a b s m r : Nat} (hr : S.1 15 = nI r) : Ct g mX6_cellOf [.ref 30, .int (nI a), .int (nI b), .int (nI s), .int (nI m)] (hC S) (RI (nI (cellN r a b s m)) S) := by
  refine ct_of rfl rfl ?_
  refine ev_iload_n (pc := 0) dX6_cellOf_0 rfl ?_
  refine ev_aload_n (pc := 1) dX6_cellOf_1 rfl ?_
  refine get_RD_right (pc := 2) dX6_cellOf_2 Fl_X6_34 hr ?_
  refine ev_iconst (pc := 5) (v := nI 1) dX6_cellOf_5 (by decide) ?_
  refine ev_iadd (pc := 6) dX6_cellOf_6 ?_
  refine ev_imul (pc := 7) dX6_cellOf_7 ?_
  refine ev_iload_n (pc := 8) dX6_cellOf_8 rfl ?_
  refine ev_iadd (pc := 9) dX6_cellOf_9 ?_
  refine ev_iconst (pc := 10) (v := nI 2) dX6_cellOf_10 (by decide) ?_
  refine ev_imul (pc := 11) dX6_cellOf_11 ?_
  refine ev_iload_n (pc := 12) dX6_cellOf_12 rfl ?_
  refine ev_iadd (pc := 13) dX6_cellOf_13 ?_
  refine ev_bipush (pc := 14) (v := nI 17) dX6_cellOf_14 (by decide) ?_
  refine ev_imul (pc := 16) dX6_cellOf_16 ?_
  refine ev_iload (pc := 17) dX6_cellOf_17 rfl ?_
  refine ev_iadd (pc := 19) dX6_cellOf_19 ?_
  exact ev_iret (pc := 20) dX6_cellOf_20 rfl rfl (ri' (by simp only [nI_add, pk_mul, cellN]) rfl)
def arrS (c : Nat) (t l : Int32) (S : St) : St := setA S 16 (upd (S.2.1 16) (if l < t then c else c + 1) (if t < S.2.1 16 (if l < t then c else c + 1) then t else S.2.1 16 (if l < t then c else c + 1)))
theorem c_X6_arrive {c : Nat} {t l : Int32} (hc : c + 1 < 2754) : Ct g mX6_arrive [.ref 30, .int (nI c), .int t, .int l] (hC S) (RV (arrS c t l S)) := by
  refine ct_of rfl rfl ?_
  unfold arrS
  refine ev_iload_n (pc := 0) dX6_arrive_0 rfl ?_
  refine ev_iload_n (pc := 1) dX6_arrive_1 rfl ?_
  refine ev_icmp_gt (pc := 2) (tgt := 11) dX6_arrive_2 (by decide) (fun cq2 => ?_) (fun cq2 => ?_)
  · simp only [if_pos cq2]
    refine ev_iload_n (pc := 11) dX6_arrive_11 rfl ?_
    refine ev_istore (pc := 12) (lv' := [(0, .ref 30), (1, .int _), (2, .int _), (3, .int _), (4, .int _)]) dX6_arrive_12 (Nat.le_of_ble_eq_true rfl) rfl ?_
    refine ev_aload_n (pc := 14) dX6_arrive_14 rfl ?_
    refine get_RD_earliest (pc := 15) dX6_arrive_15 Fl_X6_18 ?_
    refine ev_iload (pc := 18) dX6_arrive_18 rfl ?_
    refine ev_aload_n (pc := 20) dX6_arrive_20 rfl ?_
    refine get_RD_earliest (pc := 21) dX6_arrive_21 Fl_X6_18 ?_
    refine ev_iload (pc := 24) dX6_arrive_24 rfl ?_
    refine ldN_RD_earliest (pc := 26) dX6_arrive_26 (by omega) rfl ?_
    refine ev_iload_n (pc := 27) dX6_arrive_27 rfl ?_
    refine ev_mmin (pc := 28) dX6_arrive_28 Mx_X6_56 Mxs_minI In_Math Mxc_minI rfl rfl ?_
    refine asN_RD_earliest (pc := 31) dX6_arrive_31 (by omega) ?_
    exact ev_ret (pc := 32) dX6_arrive_32 rfl rv
  · simp only [if_neg cq2]
    refine ev_iload_n (pc := 5) dX6_arrive_5 rfl ?_
    refine ev_iconst (pc := 6) (v := nI 1) dX6_arrive_6 (by decide) ?_
    refine ev_iadd (pc := 7) dX6_arrive_7 ?_
    rw [nI_add]
    refine ev_goto (pc := 8) (tgt := 12) dX6_arrive_8 (by decide) ?_
    refine ev_istore (pc := 12) (lv' := [(0, .ref 30), (1, .int _), (2, .int _), (3, .int _), (4, .int _)]) dX6_arrive_12 (Nat.le_of_ble_eq_true rfl) rfl ?_
    refine ev_aload_n (pc := 14) dX6_arrive_14 rfl ?_
    refine get_RD_earliest (pc := 15) dX6_arrive_15 Fl_X6_18 ?_
    refine ev_iload (pc := 18) dX6_arrive_18 rfl ?_
    refine ev_aload_n (pc := 20) dX6_arrive_20 rfl ?_
    refine get_RD_earliest (pc := 21) dX6_arrive_21 Fl_X6_18 ?_
    refine ev_iload (pc := 24) dX6_arrive_24 rfl ?_
    refine ldN_RD_earliest (pc := 26) dX6_arrive_26 (by omega) rfl ?_
    refine ev_iload_n (pc := 27) dX6_arrive_27 rfl ?_
    refine ev_mmin (pc := 28) dX6_arrive_28 Mx_X6_56 Mxs_minI In_Math Mxc_minI rfl rfl ?_
    refine asN_RD_earliest (pc := 31) dX6_arrive_31 (by omega) ?_
    exact ev_ret (pc := 32) dX6_arrive_32 rfl rv
def endP (S : St) (l a b s : Nat) : Int32 := if s = 0 then (if a = 0 then S.1 13 else S.2.1 14 (l - a)) else (if b = 0 then S.1 13 else S.2.1 14 (l + b - 1))
theorem c_X6_placeAtEnd {l a b s : Nat} (hl : S.1 14 = nI l) (ha : a ≤ l) (hb : l + b ≤ 16) (hs : s < 2) : Ct g mX6_placeAtEnd [.ref 30, .int (nI a), .int (nI b), .int (nI s)] (hC S) (RI (endP S l a b s) S) := by
  refine ct_of rfl rfl ?_
  unfold endP
  refine ev_iload_n (pc := 0) dX6_placeAtEnd_0 rfl ?_
  refine ev_if_neN (pc := 1) (tgt := 27) (by omega) dX6_placeAtEnd_1 (by decide) (fun cq1 => ?_) (fun cq1 => ?_)
  · simp only [if_neg cq1]
    refine ev_iload_n (pc := 27) dX6_placeAtEnd_27 rfl ?_
    refine ev_if_neN (pc := 28) (tgt := 38) (by omega) dX6_placeAtEnd_28 (by decide) (fun cq28 => ?_) (fun cq28 => ?_)
    · simp only [if_neg cq28]
      refine ev_aload_n (pc := 38) dX6_placeAtEnd_38 rfl ?_
      refine get_RD_place (pc := 39) dX6_placeAtEnd_39 Fl_X6_9 ?_
      refine ev_aload_n (pc := 42) dX6_placeAtEnd_42 rfl ?_
      refine get_RD_left (pc := 43) dX6_placeAtEnd_43 Fl_X6_31 hl ?_
      refine ev_iload_n (pc := 46) dX6_placeAtEnd_46 rfl ?_
      refine ev_iadd (pc := 47) dX6_placeAtEnd_47 ?_
      refine ev_iconst (pc := 48) (v := nI 1) dX6_placeAtEnd_48 (by decide) ?_
      refine ev_isub (pc := 49) dX6_placeAtEnd_49 ?_
      rw [nI_add, pk_sub (by omega)]
      refine ldN_RD_place (pc := 50) dX6_placeAtEnd_50 (by omega) rfl ?_
      exact ev_iret (pc := 51) dX6_placeAtEnd_51 rfl rfl ri
    · simp only [if_pos cq28]
      refine ev_aload_n (pc := 31) dX6_placeAtEnd_31 rfl ?_
      refine get_RD_begin (pc := 32) dX6_placeAtEnd_32 Fl_X6_28 rfl ?_
      refine ev_goto (pc := 35) (tgt := 51) dX6_placeAtEnd_35 (by decide) ?_
      exact ev_iret (pc := 51) dX6_placeAtEnd_51 rfl rfl ri
  · simp only [if_pos cq1]
    refine ev_iload_n (pc := 4) dX6_placeAtEnd_4 rfl ?_
    refine ev_if_neN (pc := 5) (tgt := 15) (by omega) dX6_placeAtEnd_5 (by decide) (fun cq5 => ?_) (fun cq5 => ?_)
    · simp only [if_neg cq5]
      refine ev_aload_n (pc := 15) dX6_placeAtEnd_15 rfl ?_
      refine get_RD_place (pc := 16) dX6_placeAtEnd_16 Fl_X6_9 ?_
      refine ev_aload_n (pc := 19) dX6_placeAtEnd_19 rfl ?_
      refine get_RD_left (pc := 20) dX6_placeAtEnd_20 Fl_X6_31 hl ?_
      refine ev_iload_n (pc := 23) dX6_placeAtEnd_23 rfl ?_
      refine ev_isub (pc := 24) dX6_placeAtEnd_24 ?_
      rw [pk_sub ha]
      refine ldN_RD_place (pc := 25) dX6_placeAtEnd_25 (by omega) rfl ?_
      exact ev_iret (pc := 26) dX6_placeAtEnd_26 rfl rfl ri
    · simp only [if_pos cq5]
      refine ev_aload_n (pc := 8) dX6_placeAtEnd_8 rfl ?_
      refine get_RD_begin (pc := 9) dX6_placeAtEnd_9 Fl_X6_28 rfl ?_
      refine ev_goto (pc := 12) (tgt := 26) dX6_placeAtEnd_12 (by decide) ?_
      exact ev_iret (pc := 26) dX6_placeAtEnd_26 rfl rfl ri
def goB (l r a b s : Nat) (here : Int32) (m : Nat) (X : St) : St :=
  if X.2.1 16 (cellN r a b s m) = 1000000 then X else
  let now := X.2.1 16 (cellN r a b s m)
  let X1 := setA X 17 (upd (X.2.1 17) m (if now < X.2.1 17 m then now else X.2.1 17 m))
  let X2 := if l ≤ a then X1 else arrS (cellN r (a + 1) b 0 m) (now + here - X1.2.1 14 (l - a - 1)) (X1.2.1 15 (l - a - 1)) X1
  if r ≤ b then X2 else arrS (cellN r a (b + 1) 1 m) (now + X2.2.1 14 (l + b) - here) (X2.2.1 15 (l + b)) X2
/-- the same but for the two tables of the walk -/
def eqA (X S : St) : Prop := X.1 = S.1 ∧ X.2.2 = S.2.2 ∧ ∀ n, n ≠ 16 → n ≠ 17 → X.2.1 n = S.2.1 n
theorem eqA.rf : eqA S S := ⟨rfl, rfl, fun _ _ _ => rfl⟩
theorem eqA.tr {X Y : St} (h : eqA Y X) (h2 : eqA X S) : eqA Y S := ⟨h.1.trans h2.1, h.2.1.trans h2.2.1, fun n a b => (h.2.2 n a b).trans (h2.2.2 n a b)⟩
theorem eqA.e (f : Nat → Int32) : eqA (setA S 16 f) S := ⟨rfl, rfl, fun n a _ => by show va_up S.2.1 _ f n = _; simp [va_up, a]⟩
theorem eqA.h (f : Nat → Int32) : eqA (setA S 17 f) S := ⟨rfl, rfl, fun n _ b => by show va_up S.2.1 _ f n = _; simp [va_up, b]⟩
theorem eqA.it {f : Nat → St → St} (h : ∀ k X, eqA (f k X) X) : ∀ k S, eqA (it f k S) S
  | 0, _ => eqA.rf
  | k + 1, S => (h k _).tr (eqA.it h k S)
theorem arrS_eq (c : Nat) (t l : Int32) (X : St) : eqA (arrS c t l X) X := eqA.e _
theorem goB_eq (l r a b s : Nat) (here : Int32) (m : Nat) (X : St) : eqA (goB l r a b s here m X) X := by
  unfold goB
  by_cases h : X.2.1 16 (cellN r a b s m) = 1000000
  · rw [if_pos h]; exact eqA.rf
  · rw [if_neg h]
    dsimp only
    generalize (if X.2.1 16 (cellN r a b s m) < X.2.1 17 m then X.2.1 16 (cellN r a b s m) else X.2.1 17 m) = w
    generalize X.2.1 16 (cellN r a b s m) = now
    by_cases h1 : l ≤ a <;> by_cases h2 : r ≤ b <;> simp only [if_pos, if_neg, h1, h2, not_false_eq_true]
    · exact eqA.h _
    · exact (arrS_eq _ _ _ _).tr (eqA.h _)
    · exact (arrS_eq _ _ _ _).tr (eqA.h _)
    · exact (arrS_eq _ _ _ _).tr ((arrS_eq _ _ _ _).tr (eqA.h _))
theorem sq81 : ∀ l, l < 17 → ∀ r, r < 17 → l + r ≤ 16 → (l + 1) * (r + 1) ≤ 81 := by decide +kernel
theorem cell_le {l r a b s m : Nat} (hlr : l + r ≤ 16) (ha : a ≤ l) (hb : b ≤ r) (hs : s < 2) (hm : m ≤ 16) : cellN r a b s m < 2754 := by
  have h1 := sq81 l (by omega) r (by omega) hlr
  have h2 : a * (r + 1) ≤ l * (r + 1) := Nat.mul_le_mul_right _ ha
  have h3 : (l + 1) * (r + 1) = l * (r + 1) + (r + 1) := by rw [Nat.add_mul, Nat.one_mul]
  unfold cellN
  omega
/-- the road as it is walked -/
def Rs (S : St) (l r : Nat) : Prop := S.1 14 = nI l ∧ S.1 15 = nI r ∧ l + r ≤ 16
theorem Rs.eq {X : St} {l r : Nat} (h : Rs S l r) (e : eqA X S) : Rs X l r := by
  unfold Rs; rw [e.1]; exact h
theorem go_step {l r a b s m : Nat} {here : Int32} (X : St) (Post : Option Value → List va_E → Prop) (hR : Rs X l r) (ha : a ≤ l) (hb : b ≤ r) (hs : s < 2) (hm : m ≤ a + b) (ih : Ev g mX6_goOnFrom 12 [(0, .ref 30), (1, .int (nI a)), (2, .int (nI b)), (3, .int (nI s)), (4, .int here), (5, .int (nI (m + 1)))] [] (hC (goB l r a b s here m X)) Post) : Ev g mX6_goOnFrom 12 [(0, .ref 30), (1, .int (nI a)), (2, .int (nI b)), (3, .int (nI s)), (4, .int here), (5, .int (nI m))] [] (hC X) Post := by
  obtain ⟨hl, hr, hlr⟩ := hR
  have hc0 := cell_le hlr ha hb hs (show m ≤ 16 by omega)
  have t2 : ∀ (X : St) (now : Int32) (Post : Option Value → List va_E → Prop), X.1 14 = nI l → X.1 15 = nI r → Ev g mX6_goOnFrom 12 [(0, .ref 30), (1, .int (nI a)), (2, .int (nI b)), (3, .int (nI s)), (4, .int here), (5, .int (nI (m + 1)))] [] (hC (if r ≤ b then X else arrS (cellN r a (b + 1) 1 m) (now + X.2.1 14 (l + b) - here) (X.2.1 15 (l + b)) X)) Post → Ev g mX6_goOnFrom 122 [(0, .ref 30), (1, .int (nI a)), (2, .int (nI b)), (3, .int (nI s)), (4, .int here), (5, .int (nI m)), (6, .int now)] [] (hC X) Post := by
    intro X now Post hl hr k
    refine ev_iload_n (pc := 122) dX6_goOnFrom_122 rfl ?_
    refine ev_aload_n (pc := 123) dX6_goOnFrom_123 rfl ?_
    refine get_RD_right (pc := 124) dX6_goOnFrom_124 Fl_X6_34 hr ?_
    refine ev_icmp_geN (pc := 127) (tgt := 177) (by omega) (by omega) dX6_goOnFrom_127 (by decide) (fun cq127 => ?_) (fun cq127 => ?_)
    · rw [if_pos cq127] at k
      refine ev_iincN (pc := 177) (lv' := [(0, .ref 30), (1, .int _), (2, .int _), (3, .int _), (4, .int _), (5, .int _), (6, .int _)]) dX6_goOnFrom_177 rfl (Nat.le_of_ble_eq_true rfl) rfl ?_
      refine ev_goto (pc := 180) (tgt := 12) dX6_goOnFrom_180 (by decide) ?_
      exact ev_keep [0, 1, 2, 3, 4, 5] k
    · rw [if_neg cq127] at k
      refine ev_aload_n (pc := 130) dX6_goOnFrom_130 rfl ?_
      refine get_RD_left (pc := 131) dX6_goOnFrom_131 Fl_X6_31 hl ?_
      refine ev_iload_n (pc := 134) dX6_goOnFrom_134 rfl ?_
      refine ev_iadd (pc := 135) dX6_goOnFrom_135 ?_
      rw [nI_add]
      refine ev_istore (pc := 136) (lv' := [(0, .ref 30), (1, .int _), (2, .int _), (3, .int _), (4, .int _), (5, .int _), (6, .int _), (7, .int _)]) dX6_goOnFrom_136 (Nat.le_of_ble_eq_true rfl) rfl ?_
      refine ev_iload (pc := 138) dX6_goOnFrom_138 rfl ?_
      refine ev_aload_n (pc := 140) dX6_goOnFrom_140 rfl ?_
      refine get_RD_place (pc := 141) dX6_goOnFrom_141 Fl_X6_9 ?_
      refine ev_iload (pc := 144) dX6_goOnFrom_144 rfl ?_
      refine ldN_RD_place (pc := 146) dX6_goOnFrom_146 (by omega) rfl ?_
      refine ev_iadd (pc := 147) dX6_goOnFrom_147 ?_
      refine ev_iload (pc := 148) dX6_goOnFrom_148 rfl ?_
      refine ev_isub (pc := 150) dX6_goOnFrom_150 ?_
      refine ev_istore (pc := 151) (lv' := [(0, .ref 30), (1, .int _), (2, .int _), (3, .int _), (4, .int _), (5, .int _), (6, .int _), (7, .int _), (8, .int _)]) dX6_goOnFrom_151 (Nat.le_of_ble_eq_true rfl) rfl ?_
      refine ev_aload_n (pc := 153) dX6_goOnFrom_153 rfl ?_
      refine ev_aload_n (pc := 154) dX6_goOnFrom_154 rfl ?_
      refine ev_iload_n (pc := 155) dX6_goOnFrom_155 rfl ?_
      refine ev_iload_n (pc := 156) dX6_goOnFrom_156 rfl ?_
      refine ev_iconst (pc := 157) (v := nI 1) dX6_goOnFrom_157 (by decide) ?_
      refine ev_iadd (pc := 158) dX6_goOnFrom_158 ?_
      rw [nI_add]
      refine ev_iconst (pc := 159) (v := nI 1) dX6_goOnFrom_159 (by decide) ?_
      refine ev_iload (pc := 160) dX6_goOnFrom_160 rfl ?_
      refine callV4I (pc := 162) dX6_goOnFrom_162 Ml_X6_44 M_X6_cellOf rfl rfl rfl rfl (c_X6_cellOf hr) ?_
      refine ev_iload (pc := 165) dX6_goOnFrom_165 rfl ?_
      refine ev_aload_n (pc := 167) dX6_goOnFrom_167 rfl ?_
      refine get_RD_hour (pc := 168) dX6_goOnFrom_168 Fl_X6_15 ?_
      refine ev_iload (pc := 171) dX6_goOnFrom_171 rfl ?_
      refine ldN_RD_hour (pc := 173) dX6_goOnFrom_173 (by omega) rfl ?_
      refine callV3V (pc := 174) dX6_goOnFrom_174 Ml_X6_62 M_X6_arrive rfl rfl rfl rfl (c_X6_arrive (by have := cell_le (l := l) (r := r) (a := a) (b := b + 1) (s := 1) (m := m + 1) hlr ha (by omega) (by omega) (by omega); unfold cellN at *; omega)) ?_
      refine ev_iincN (pc := 177) (lv' := [(0, .ref 30), (1, .int _), (2, .int _), (3, .int _), (4, .int _), (5, .int _), (6, .int _), (7, .int _), (8, .int _)]) dX6_goOnFrom_177 rfl (Nat.le_of_ble_eq_true rfl) rfl ?_
      refine ev_goto (pc := 180) (tgt := 12) dX6_goOnFrom_180 (by decide) ?_
      exact ev_keep [0, 1, 2, 3, 4, 5] k
  have t1 : ∀ (X : St) (now : Int32) (Post : Option Value → List va_E → Prop), X.1 14 = nI l → X.1 15 = nI r → Ev g mX6_goOnFrom 122 [(0, .ref 30), (1, .int (nI a)), (2, .int (nI b)), (3, .int (nI s)), (4, .int here), (5, .int (nI m)), (6, .int now)] [] (hC (if l ≤ a then X else arrS (cellN r (a + 1) b 0 m) (now + here - X.2.1 14 (l - a - 1)) (X.2.1 15 (l - a - 1)) X)) Post → Ev g mX6_goOnFrom 65 [(0, .ref 30), (1, .int (nI a)), (2, .int (nI b)), (3, .int (nI s)), (4, .int here), (5, .int (nI m)), (6, .int now)] [] (hC X) Post := by
    intro X now Post hl hr k
    refine ev_iload_n (pc := 65) dX6_goOnFrom_65 rfl ?_
    refine ev_aload_n (pc := 66) dX6_goOnFrom_66 rfl ?_
    refine get_RD_left (pc := 67) dX6_goOnFrom_67 Fl_X6_31 hl ?_
    refine ev_icmp_geN (pc := 70) (tgt := 122) (by omega) (by omega) dX6_goOnFrom_70 (by decide) (fun cq70 => ?_) (fun cq70 => ?_)
    · rw [if_pos cq70] at k
      exact ev_keep [0, 1, 2, 3, 4, 5, 6] k
    · rw [if_neg cq70] at k
      refine ev_aload_n (pc := 73) dX6_goOnFrom_73 rfl ?_
      refine get_RD_left (pc := 74) dX6_goOnFrom_74 Fl_X6_31 hl ?_
      refine ev_iload_n (pc := 77) dX6_goOnFrom_77 rfl ?_
      refine ev_isub (pc := 78) dX6_goOnFrom_78 ?_
      refine ev_iconst (pc := 79) (v := nI 1) dX6_goOnFrom_79 (by decide) ?_
      refine ev_isub (pc := 80) dX6_goOnFrom_80 ?_
      rw [pk_sub ha, pk_sub (by omega)]
      refine ev_istore (pc := 81) (lv' := [(0, .ref 30), (1, .int _), (2, .int _), (3, .int _), (4, .int _), (5, .int _), (6, .int _), (7, .int _)]) dX6_goOnFrom_81 (Nat.le_of_ble_eq_true rfl) rfl ?_
      refine ev_iload (pc := 83) dX6_goOnFrom_83 rfl ?_
      refine ev_iload (pc := 85) dX6_goOnFrom_85 rfl ?_
      refine ev_iadd (pc := 87) dX6_goOnFrom_87 ?_
      refine ev_aload_n (pc := 88) dX6_goOnFrom_88 rfl ?_
      refine get_RD_place (pc := 89) dX6_goOnFrom_89 Fl_X6_9 ?_
      refine ev_iload (pc := 92) dX6_goOnFrom_92 rfl ?_
      refine ldN_RD_place (pc := 94) dX6_goOnFrom_94 (by omega) rfl ?_
      refine ev_isub (pc := 95) dX6_goOnFrom_95 ?_
      refine ev_istore (pc := 96) (lv' := [(0, .ref 30), (1, .int _), (2, .int _), (3, .int _), (4, .int _), (5, .int _), (6, .int _), (7, .int _), (8, .int _)]) dX6_goOnFrom_96 (Nat.le_of_ble_eq_true rfl) rfl ?_
      refine ev_aload_n (pc := 98) dX6_goOnFrom_98 rfl ?_
      refine ev_aload_n (pc := 99) dX6_goOnFrom_99 rfl ?_
      refine ev_iload_n (pc := 100) dX6_goOnFrom_100 rfl ?_
      refine ev_iconst (pc := 101) (v := nI 1) dX6_goOnFrom_101 (by decide) ?_
      refine ev_iadd (pc := 102) dX6_goOnFrom_102 ?_
      rw [nI_add]
      refine ev_iload_n (pc := 103) dX6_goOnFrom_103 rfl ?_
      refine ev_iconst (pc := 104) (v := nI 0) dX6_goOnFrom_104 (by decide) ?_
      refine ev_iload (pc := 105) dX6_goOnFrom_105 rfl ?_
      refine callV4I (pc := 107) dX6_goOnFrom_107 Ml_X6_44 M_X6_cellOf rfl rfl rfl rfl (c_X6_cellOf hr) ?_
      refine ev_iload (pc := 110) dX6_goOnFrom_110 rfl ?_
      refine ev_aload_n (pc := 112) dX6_goOnFrom_112 rfl ?_
      refine get_RD_hour (pc := 113) dX6_goOnFrom_113 Fl_X6_15 ?_
      refine ev_iload (pc := 116) dX6_goOnFrom_116 rfl ?_
      refine ldN_RD_hour (pc := 118) dX6_goOnFrom_118 (by omega) rfl ?_
      refine callV3V (pc := 119) dX6_goOnFrom_119 Ml_X6_62 M_X6_arrive rfl rfl rfl rfl (c_X6_arrive (by have := cell_le (l := l) (r := r) (a := a + 1) (b := b) (s := 0) (m := m + 1) hlr (by omega) hb (by omega) (by omega); unfold cellN at *; omega)) ?_
      exact ev_keep [0, 1, 2, 3, 4, 5, 6] k
  unfold goB at ih
  refine ev_iload (pc := 12) dX6_goOnFrom_12 rfl ?_
  refine ev_iload_n (pc := 14) dX6_goOnFrom_14 rfl ?_
  refine ev_iload_n (pc := 15) dX6_goOnFrom_15 rfl ?_
  refine ev_iadd (pc := 16) dX6_goOnFrom_16 ?_
  rw [nI_add]
  refine ev_icmp_gtN (pc := 17) (tgt := 183) (by omega) (by omega) dX6_goOnFrom_17 (by decide) (fun cq17 => absurd cq17 (by omega)) (fun cq17 => ?_)
  refine ev_aload_n (pc := 20) dX6_goOnFrom_20 rfl ?_
  refine get_RD_earliest (pc := 21) dX6_goOnFrom_21 Fl_X6_18 ?_
  refine ev_aload_n (pc := 24) dX6_goOnFrom_24 rfl ?_
  refine ev_iload_n (pc := 25) dX6_goOnFrom_25 rfl ?_
  refine ev_iload_n (pc := 26) dX6_goOnFrom_26 rfl ?_
  refine ev_iload_n (pc := 27) dX6_goOnFrom_27 rfl ?_
  refine ev_iload (pc := 28) dX6_goOnFrom_28 rfl ?_
  refine callV4I (pc := 30) dX6_goOnFrom_30 Ml_X6_44 M_X6_cellOf rfl rfl rfl rfl (c_X6_cellOf hr) ?_
  refine ldN_RD_earliest (pc := 33) dX6_goOnFrom_33 (by omega) rfl ?_
  refine ev_istore (pc := 34) (lv' := [(0, .ref 30), (1, .int _), (2, .int _), (3, .int _), (4, .int _), (5, .int _), (6, .int _)]) dX6_goOnFrom_34 (Nat.le_of_ble_eq_true rfl) rfl ?_
  refine ev_iload (pc := 36) dX6_goOnFrom_36 rfl ?_
  refine ev_ldc (pc := 38) dX6_goOnFrom_38 Cn_X6_37 ?_
  refine ev_icmp_ne (pc := 40) (tgt := 46) dX6_goOnFrom_40 (by decide) (fun cq40 => ?_) (fun cq40 => ?_)
  · rw [if_neg cq40] at ih
    refine ev_aload_n (pc := 46) dX6_goOnFrom_46 rfl ?_
    refine get_RD_hourOfCount (pc := 47) dX6_goOnFrom_47 Fl_X6_21 ?_
    refine ev_iload (pc := 50) dX6_goOnFrom_50 rfl ?_
    refine ev_aload_n (pc := 52) dX6_goOnFrom_52 rfl ?_
    refine get_RD_hourOfCount (pc := 53) dX6_goOnFrom_53 Fl_X6_21 ?_
    refine ev_iload (pc := 56) dX6_goOnFrom_56 rfl ?_
    refine ldN_RD_hourOfCount (pc := 58) dX6_goOnFrom_58 (by omega) rfl ?_
    refine ev_iload (pc := 59) dX6_goOnFrom_59 rfl ?_
    refine ev_mmin (pc := 61) dX6_goOnFrom_61 Mx_X6_56 Mxs_minI In_Math Mxc_minI rfl rfl ?_
    refine asN_RD_hourOfCount (pc := 64) dX6_goOnFrom_64 (by omega) ?_
    refine t1 _ _ Post hl hr ?_
    refine t2 _ _ Post (by split <;> exact hl) (by split <;> exact hr) ?_
    exact ih
  · rw [if_pos cq40] at ih
    refine ev_goto (pc := 43) (tgt := 177) dX6_goOnFrom_43 (by decide) ?_
    refine ev_iincN (pc := 177) (lv' := [(0, .ref 30), (1, .int _), (2, .int _), (3, .int _), (4, .int _), (5, .int _), (6, .int _)]) dX6_goOnFrom_177 rfl (Nat.le_of_ble_eq_true rfl) rfl ?_
    refine ev_goto (pc := 180) (tgt := 12) dX6_goOnFrom_180 (by decide) ?_
    exact ev_keep [0, 1, 2, 3, 4, 5] ih
def goS (l r a b s : Nat) (X : St) : St := it (goB l r a b s (endP X l a b s)) (a + b + 1) X
theorem goS_eq (l r a b s : Nat) (X : St) : eqA (goS l r a b s X) X := eqA.it (goB_eq l r a b s _) _ _
theorem c_X6_goOnFrom {l r a b s : Nat} (hR : Rs S l r) (ha : a ≤ l) (hb : b ≤ r) (hs : s < 2) : Ct g mX6_goOnFrom [.ref 30, .int (nI a), .int (nI b), .int (nI s)] (hC S) (RV (goS l r a b s S)) := by
  have L : ∀ m, m ≤ a + b + 1 → Ev g mX6_goOnFrom 12 [(0, .ref 30), (1, .int (nI a)), (2, .int (nI b)), (3, .int (nI s)), (4, .int (endP S l a b s)), (5, .int (nI m))] [] (hC (it (goB l r a b s (endP S l a b s)) m S)) (RV (goS l r a b s S)) := by
    refine loop_up _ ?_ ?_
    · have hlr := hR.2.2
      refine ev_iload (pc := 12) dX6_goOnFrom_12 rfl ?_
      refine ev_iload_n (pc := 14) dX6_goOnFrom_14 rfl ?_
      refine ev_iload_n (pc := 15) dX6_goOnFrom_15 rfl ?_
      refine ev_iadd (pc := 16) dX6_goOnFrom_16 ?_
      rw [nI_add]
      refine ev_icmp_gtN (pc := 17) (tgt := 183) (by omega) (by omega) dX6_goOnFrom_17 (by decide) (fun cq17 => ?_) (fun cq17 => absurd (show a + b < a + b + 1 by omega) cq17)
      exact ev_ret (pc := 183) dX6_goOnFrom_183 rfl rv
    · intro m hm ih
      exact go_step _ _ (hR.eq (eqA.it (goB_eq l r a b s _) _ _)) ha hb hs (by omega) ih
  have hlr := hR.2.2
  refine ct_of rfl rfl ?_
  refine ev_aload_n (pc := 0) dX6_goOnFrom_0 rfl ?_
  refine ev_iload_n (pc := 1) dX6_goOnFrom_1 rfl ?_
  refine ev_iload_n (pc := 2) dX6_goOnFrom_2 rfl ?_
  refine ev_iload_n (pc := 3) dX6_goOnFrom_3 rfl ?_
  refine callV3I (pc := 4) dX6_goOnFrom_4 Ml_X6_52 M_X6_placeAtEnd rfl rfl rfl rfl (c_X6_placeAtEnd hR.1 ha (by omega) hs) ?_
  refine ev_istore (pc := 7) (lv' := [(0, .ref 30), (1, .int _), (2, .int _), (3, .int _), (4, .int _)]) dX6_goOnFrom_7 (Nat.le_of_ble_eq_true rfl) rfl ?_
  refine ev_iconst (pc := 9) (v := nI 0) dX6_goOnFrom_9 (by decide) ?_
  refine ev_istore (pc := 10) (lv' := [(0, .ref 30), (1, .int _), (2, .int _), (3, .int _), (4, .int _), (5, .int _)]) dX6_goOnFrom_10 (Nat.le_of_ble_eq_true rfl) rfl ?_
  exact L 0 (Nat.zero_le _)
end RD
