section MO4
variable {g : GG} {S : St}
def npB (k : Nat) (X : St) : St := setA X 37 (upd (X.2.1 37) k 0)
def nabB (k : Nat) (X : St) : St :=
  let Y := setA X 38 (upd (X.2.1 38) k (if 2 ≤ k then 0 else 1))
  setA Y 39 (upd (Y.2.1 39) k 1)
def cn0 (S : St) : St := setI (setI (setI (setI (setI (th S) 31 0) 34 0) 33 (-1)) 27 0) 28 (-1)
def cn1 (S : St) : St := nextM (it nabB 4 (it npB 5 (cn0 S)))
/-- clause by clause -/
def rcL : Nat → St → St
  | 0, S => S
  | r + 1, S => if S.1 34 = 0 then (if S.1 32 = 3 then (if S.2.2.1 3 = 59 then rcL r (clM (nextM S)) else S) else S) else S
def cn2 (S : St) : St := if S.1 34 = 0 then (if S.1 32 = 0 then S else mustM false S) else S
def cpP (k : Nat) (X : St) : St := setA X 34 (upd (X.2.1 34) k (X.2.1 37 k))
def cpAB (k : Nat) (X : St) : St :=
  let Y := setA X 35 (upd (X.2.1 35) k (X.2.1 38 k))
  setA Y 36 (upd (Y.2.1 36) k (Y.2.1 39 k))
def cn3 (S : St) : Int32 × St :=
  let X := setI S 29 0
  if X.1 34 = 0 then
    let Y := setI (setI X 25 (X.1 27)) 26 (X.1 28)
    let Z := it cpAB 4 (it cpP 5 Y)
    (Z.1 25, setI Z 21 0)
  else toldM (-6) X
def contractM (S : St) : Int32 × St := cn3 (if (cn1 S).1 32 = 0 then cn1 S else cn2 (rcL 20 (clM (cn1 S))))
theorem npB_I (k : Nat) (X : St) : (npB k X).1 = X.1 := rfl
theorem nabB_I (k : Nat) (X : St) : (nabB k X).1 = X.1 := rfl
theorem cpP_I (k : Nat) (X : St) : (cpP k X).1 = X.1 := rfl
theorem cpAB_I (k : Nat) (X : St) : (cpAB k X).1 = X.1 := rfl
theorem c4_np {Post : Option Value → List va_E → Prop} (X : St) (hx : Ev g mX10_contract 50 [(0, .ref 43), (1, .int (nI 5))] [] (hC (it npB 5 X)) Post) : Ev g mX10_contract 32 [(0, .ref 43), (1, .int (nI 0))] [] (hC X) Post := by
  have L : ∀ k, k ≤ 5 → Ev g mX10_contract 32 [(0, .ref 43), (1, .int (nI k))] [] (hC (it npB k X)) Post := by
    refine loop_up 5 ?_ ?_
    · skip
      refine ev_iload_n (pc := 32) dX10_contract_32 rfl ?_
      refine ev_iconst (pc := 33) (v := nI 5) dX10_contract_33 (by decide) ?_
      refine ev_icmp_geN (pc := 34) (tgt := 50) (by omega) (by omega) dX10_contract_34 (by decide) (fun cq34 => ?_) (fun cq34 => absurd (Nat.le_refl 5) cq34)
      exact hx
    · intro k hk ih
      refine ev_iload_n (pc := 32) dX10_contract_32 rfl ?_
      refine ev_iconst (pc := 33) (v := nI 5) dX10_contract_33 (by decide) ?_
      refine ev_icmp_geN (pc := 34) (tgt := 50) (by omega) (by omega) dX10_contract_34 (by decide) (fun cq34 => absurd cq34 (by omega)) (fun cq34 => ?_)
      refine ev_aload_n (pc := 37) dX10_contract_37 rfl ?_
      refine get_MO_nPrices (pc := 38) dX10_contract_38 Fl_X10_53 ?_
      refine ev_iload_n (pc := 41) dX10_contract_41 rfl ?_
      refine ev_iconst (pc := 42) (v := 0) dX10_contract_42 (by decide) ?_
      refine asN_MO_nPrices (pc := 43) dX10_contract_43 (by omega) ?_
      refine ev_iincN (pc := 44) (lv' := [(0, .ref 43), (1, .int _)]) dX10_contract_44 rfl (Nat.le_of_ble_eq_true rfl) rfl ?_
      refine ev_goto (pc := 47) (tgt := 32) dX10_contract_47 (by decide) ?_
      exact ih
  exact L 0 (Nat.zero_le _)
theorem c4_nab {Post : Option Value → List va_E → Prop} (X : St) (hx : Ev g mX10_contract 86 [(0, .ref 43), (1, .int (nI 4))] [] (hC (it nabB 4 X)) Post) : Ev g mX10_contract 52 [(0, .ref 43), (1, .int (nI 0))] [] (hC X) Post := by
  have L : ∀ k, k ≤ 4 → Ev g mX10_contract 52 [(0, .ref 43), (1, .int (nI k))] [] (hC (it nabB k X)) Post := by
    refine loop_up 4 ?_ ?_
    · skip
      refine ev_iload_n (pc := 52) dX10_contract_52 rfl ?_
      refine ev_iconst (pc := 53) (v := nI 4) dX10_contract_53 (by decide) ?_
      refine ev_icmp_geN (pc := 54) (tgt := 86) (by omega) (by omega) dX10_contract_54 (by decide) (fun cq54 => ?_) (fun cq54 => absurd (Nat.le_refl 4) cq54)
      exact hx
    · intro k hk ih
      rw [it_s] at ih
      unfold nabB at ih
      refine ev_iload_n (pc := 52) dX10_contract_52 rfl ?_
      refine ev_iconst (pc := 53) (v := nI 4) dX10_contract_53 (by decide) ?_
      refine ev_icmp_geN (pc := 54) (tgt := 86) (by omega) (by omega) dX10_contract_54 (by decide) (fun cq54 => absurd cq54 (by omega)) (fun cq54 => ?_)
      refine ev_aload_n (pc := 57) dX10_contract_57 rfl ?_
      refine get_MO_nA (pc := 58) dX10_contract_58 Fl_X10_56 ?_
      refine ev_iload_n (pc := 61) dX10_contract_61 rfl ?_
      refine ev_iload_n (pc := 62) dX10_contract_62 rfl ?_
      refine ev_iconst (pc := 63) (v := nI 2) dX10_contract_63 (by decide) ?_
      refine ev_icmp_geN (pc := 64) (tgt := 71) (by omega) (by omega) dX10_contract_64 (by decide) (fun cq64 => ?_) (fun cq64 => ?_)
      · simp only [if_pos cq64] at ih
        refine ev_iconst (pc := 71) (v := 0) dX10_contract_71 (by decide) ?_
        refine asN_MO_nA (pc := 72) dX10_contract_72 (by omega) ?_
        refine ev_aload_n (pc := 73) dX10_contract_73 rfl ?_
        refine get_MO_nB (pc := 74) dX10_contract_74 Fl_X10_59 ?_
        refine ev_iload_n (pc := 77) dX10_contract_77 rfl ?_
        refine ev_iconst (pc := 78) (v := 1) dX10_contract_78 (by decide) ?_
        refine asN_MO_nB (pc := 79) dX10_contract_79 (by omega) ?_
        refine ev_iincN (pc := 80) (lv' := [(0, .ref 43), (1, .int _)]) dX10_contract_80 rfl (Nat.le_of_ble_eq_true rfl) rfl ?_
        refine ev_goto (pc := 83) (tgt := 52) dX10_contract_83 (by decide) ?_
        exact ih
      · simp only [if_neg cq64] at ih
        refine ev_iconst (pc := 67) (v := 1) dX10_contract_67 (by decide) ?_
        refine ev_goto (pc := 68) (tgt := 72) dX10_contract_68 (by decide) ?_
        refine asN_MO_nA (pc := 72) dX10_contract_72 (by omega) ?_
        refine ev_aload_n (pc := 73) dX10_contract_73 rfl ?_
        refine get_MO_nB (pc := 74) dX10_contract_74 Fl_X10_59 ?_
        refine ev_iload_n (pc := 77) dX10_contract_77 rfl ?_
        refine ev_iconst (pc := 78) (v := 1) dX10_contract_78 (by decide) ?_
        refine asN_MO_nB (pc := 79) dX10_contract_79 (by omega) ?_
        refine ev_iincN (pc := 80) (lv' := [(0, .ref 43), (1, .int _)]) dX10_contract_80 rfl (Nat.le_of_ble_eq_true rfl) rfl ?_
        refine ev_goto (pc := 83) (tgt := 52) dX10_contract_83 (by decide) ?_
        exact ih
  exact L 0 (Nat.zero_le _)
theorem c4_cpP {Post : Option Value → List va_E → Prop} (X : St) (hx : Ev g mX10_contract 217 [(0, .ref 43), (1, .int (nI 5))] [] (hC (it cpP 5 X)) Post) : Ev g mX10_contract 194 [(0, .ref 43), (1, .int (nI 0))] [] (hC X) Post := by
  have L : ∀ k, k ≤ 5 → Ev g mX10_contract 194 [(0, .ref 43), (1, .int (nI k))] [] (hC (it cpP k X)) Post := by
    refine loop_up 5 ?_ ?_
    · skip
      refine ev_iload_n (pc := 194) dX10_contract_194 rfl ?_
      refine ev_iconst (pc := 195) (v := nI 5) dX10_contract_195 (by decide) ?_
      refine ev_icmp_geN (pc := 196) (tgt := 217) (by omega) (by omega) dX10_contract_196 (by decide) (fun cq196 => ?_) (fun cq196 => absurd (Nat.le_refl 5) cq196)
      exact hx
    · intro k hk ih
      refine ev_iload_n (pc := 194) dX10_contract_194 rfl ?_
      refine ev_iconst (pc := 195) (v := nI 5) dX10_contract_195 (by decide) ?_
      refine ev_icmp_geN (pc := 196) (tgt := 217) (by omega) (by omega) dX10_contract_196 (by decide) (fun cq196 => absurd cq196 (by omega)) (fun cq196 => ?_)
      refine ev_aload_n (pc := 199) dX10_contract_199 rfl ?_
      refine get_MO_prices (pc := 200) dX10_contract_200 Fl_X10_40 ?_
      refine ev_iload_n (pc := 203) dX10_contract_203 rfl ?_
      refine ev_aload_n (pc := 204) dX10_contract_204 rfl ?_
      refine get_MO_nPrices (pc := 205) dX10_contract_205 Fl_X10_53 ?_
      refine ev_iload_n (pc := 208) dX10_contract_208 rfl ?_
      refine ldN_MO_nPrices (pc := 209) dX10_contract_209 (by omega) rfl ?_
      refine asN_MO_prices (pc := 210) dX10_contract_210 (by omega) ?_
      refine ev_iincN (pc := 211) (lv' := [(0, .ref 43), (1, .int _)]) dX10_contract_211 rfl (Nat.le_of_ble_eq_true rfl) rfl ?_
      refine ev_goto (pc := 214) (tgt := 194) dX10_contract_214 (by decide) ?_
      exact ih
  exact L 0 (Nat.zero_le _)
theorem c4_cpAB {Post : Option Value → List va_E → Prop} (X : St) (hx : Ev g mX10_contract 254 [(0, .ref 43), (1, .int (nI 4))] [] (hC (it cpAB 4 X)) Post) : Ev g mX10_contract 219 [(0, .ref 43), (1, .int (nI 0))] [] (hC X) Post := by
  have L : ∀ k, k ≤ 4 → Ev g mX10_contract 219 [(0, .ref 43), (1, .int (nI k))] [] (hC (it cpAB k X)) Post := by
    refine loop_up 4 ?_ ?_
    · skip
      refine ev_iload_n (pc := 219) dX10_contract_219 rfl ?_
      refine ev_iconst (pc := 220) (v := nI 4) dX10_contract_220 (by decide) ?_
      refine ev_icmp_geN (pc := 221) (tgt := 254) (by omega) (by omega) dX10_contract_221 (by decide) (fun cq221 => ?_) (fun cq221 => absurd (Nat.le_refl 4) cq221)
      exact hx
    · intro k hk ih
      refine ev_iload_n (pc := 219) dX10_contract_219 rfl ?_
      refine ev_iconst (pc := 220) (v := nI 4) dX10_contract_220 (by decide) ?_
      refine ev_icmp_geN (pc := 221) (tgt := 254) (by omega) (by omega) dX10_contract_221 (by decide) (fun cq221 => absurd cq221 (by omega)) (fun cq221 => ?_)
      refine ev_aload_n (pc := 224) dX10_contract_224 rfl ?_
      refine get_MO_partA (pc := 225) dX10_contract_225 Fl_X10_47 ?_
      refine ev_iload_n (pc := 228) dX10_contract_228 rfl ?_
      refine ev_aload_n (pc := 229) dX10_contract_229 rfl ?_
      refine get_MO_nA (pc := 230) dX10_contract_230 Fl_X10_56 ?_
      refine ev_iload_n (pc := 233) dX10_contract_233 rfl ?_
      refine ldN_MO_nA (pc := 234) dX10_contract_234 (by omega) rfl ?_
      refine asN_MO_partA (pc := 235) dX10_contract_235 (by omega) ?_
      refine ev_aload_n (pc := 236) dX10_contract_236 rfl ?_
      refine get_MO_partB (pc := 237) dX10_contract_237 Fl_X10_50 ?_
      refine ev_iload_n (pc := 240) dX10_contract_240 rfl ?_
      refine ev_aload_n (pc := 241) dX10_contract_241 rfl ?_
      refine get_MO_nB (pc := 242) dX10_contract_242 Fl_X10_59 ?_
      refine ev_iload_n (pc := 245) dX10_contract_245 rfl ?_
      refine ldN_MO_nB (pc := 246) dX10_contract_246 (by omega) rfl ?_
      refine asN_MO_partB (pc := 247) dX10_contract_247 (by omega) ?_
      refine ev_iincN (pc := 248) (lv' := [(0, .ref 43), (1, .int _)]) dX10_contract_248 rfl (Nat.le_of_ble_eq_true rfl) rfl ?_
      refine ev_goto (pc := 251) (tgt := 219) dX10_contract_251 (by decide) ?_
      exact ih
  exact L 0 (Nat.zero_le _)
/-- a clause is told, or it counts -/
def Cnt (S : St) (m : Nat) : Prop := S.1 34 = 0 → (S.1 27 = nI m ∧ m ≤ 20)
theorem nextM_many : (nextM S).1 27 = S.1 27 := rfl
theorem nextM_bad : (nextM S).1 34 = S.1 34 := rfl
theorem mustM_many {is : Bool} : (mustM is S).1 27 = S.1 27 := by
  unfold mustM
  split
  · split <;> rfl
  · rfl
theorem cl2_many {part a : Int32} : (cl2 part a S).2.1 27 = S.1 27 := by
  unfold cl2
  split
  · exact mustM_many.trans mustM_many
  · rfl
theorem clEnd_bad {price limit : Bool} {part grade a b : Int32} (h : (clEnd price limit part grade a b S).1 34 = 0) : S.1 34 = 0 ∧ (clEnd price limit part grade a b S).1 27 = S.1 27 + 1 := by
  unfold clEnd at *
  by_cases hb : S.1 34 = 0
  · refine ⟨hb, ?_⟩
    rw [if_pos hb]
    dsimp only
    split
    · rfl
    · split <;> rfl
  · rw [if_neg hb] at h
    exact absurd h hb
theorem clM_cnt {m : Nat} (hm : S.1 34 = 0 → S.1 27 = nI m) (hm2 : m ≤ 20) (h : (clM S).1 34 = 0) : S.1 34 = 0 ∧ m < 20 ∧ (clM S).1 27 = nI (m + 1) := by
  unfold clM at *
  dsimp only at *
  unfold cl1 at *
  dsimp only at *
  obtain ⟨h1, h2⟩ := clEnd_bad h
  have h3 := cl2_bad h1
  have h4 := (mustM_bad h3).1
  have key : ∀ (pr : Bool) (X : St), (if pr = true then numM 0 4 X else (0, X)).2.1 34 = 0 → X.1 34 = 0 := by
    intro pr X hh
    split at hh
    · exact (mustM_bad hh).1
    · exact hh
  have key2 : ∀ (pr : Bool) (X : St), (if pr = true then numM 0 4 X else (0, X)).2.1 27 = X.1 27 := by
    intro pr X
    split
    · exact mustM_many
    · rfl
  have h5 := mustM_bad (key _ _ h4)
  have h6 := hm h5.1
  refine ⟨h5.1, ?_, ?_⟩
  · have h7 := h5.2
    rw [Bool.and_eq_true, decide_eq_true_eq] at h7
    have h8 := h7.2
    rw [h6] at h8
    exact (nI_ltI (a := m) (b := 20) (by omega) (by omega)).mp h8
  · rw [h2, cl2_many, show (numM 0 10000 _).2.1 27 = _ from mustM_many, key2, mustM_many, h6, nI_1]
theorem TbM_of {X : St} (h : TbM S) (h1 : X.1 29 = S.1 29) (h2 : X.1 31 = S.1 31) : TbM X := by
  obtain ⟨len, p, a, b, c, d⟩ := h
  exact ⟨len, p, h1.trans a, b, h2.trans c, d⟩
theorem cl2_Tb {p a : Int32} (h : TbM S) : TbM (cl2 p a S).2 := by
  unfold cl2
  split
  · exact mustM_Tb (mustM_Tb h)
  · exact h
theorem clEnd_Tb {price limit : Bool} {part grade a b : Int32} (h : TbM S) : TbM (clEnd price limit part grade a b S) := by
  refine TbM_of h ?_ ?_
  · unfold clEnd
    split
    · dsimp only
      split
      · rfl
      · split <;> rfl
    · rfl
  · unfold clEnd
    split
    · dsimp only
      split
      · rfl
      · split <;> rfl
    · rfl
theorem cl1_Tb {price limit : Bool} {part grade : Int32} (h : TbM S) : TbM (cl1 price limit part grade S) := clEnd_Tb (cl2_Tb (mustM_Tb h))
theorem clp_Tb {pr : Bool} (h : TbM S) : TbM (if pr = true then numM 0 4 S else (0, S)).2 := by
  split
  · exact mustM_Tb h
  · exact h
theorem clM_Tb (h : TbM S) : TbM (clM S) := cl1_Tb (clp_Tb (mustM_Tb h))
theorem rc_loop {Post : Option Value → List va_E → Prop} : ∀ (r m : Nat) (S : St), TbM S → (S.1 34 = 0 → S.1 27 = nI m) → m + r = 21 → m ≤ 20 ∨ ¬ S.1 34 = 0 → Ev g mX10_contract 138 [(0, .ref 43)] [] (hC (rcL r S)) Post → Ev g mX10_contract 101 [(0, .ref 43)] [] (hC S) Post := by
  intro r
  induction r with
  | zero =>
    intro m S hT hm hr hq k
    have hb : ¬ S.1 34 = 0 := by rcases hq with h | h; omega; exact h
    refine ev_aload_n (pc := 101) dX10_contract_101 rfl ?_
    refine get_MO_bad (pc := 102) dX10_contract_102 Fl_X10_197 rfl ?_
    refine ev_if_ne (pc := 105) (tgt := 138) dX10_contract_105 (by decide) (fun cq105 => ?_) (fun cq105 => absurd cq105 hb)
    exact k
  | succ r ih =>
    intro m S hT hm hr hq k
    rw [rcL] at k
    by_cases hb : S.1 34 = 0
    · have hm20 : m ≤ 20 := by rcases hq with h | h; exact h; exact absurd hb h
      rw [if_pos hb] at k
      have hc := @clM_cnt (nextM S) m hm hm20
      refine ev_aload_n (pc := 101) dX10_contract_101 rfl ?_
      refine get_MO_bad (pc := 102) dX10_contract_102 Fl_X10_197 rfl ?_
      refine ev_if_ne (pc := 105) (tgt := 138) dX10_contract_105 (by decide) (fun cq105 => absurd hb cq105) (fun cq105 => ?_)
      refine ev_aload_n (pc := 108) dX10_contract_108 rfl ?_
      refine get_MO_sort (pc := 109) dX10_contract_109 Fl_X10_182 rfl ?_
      refine ev_iconst (pc := 112) (v := 3) dX10_contract_112 (by decide) ?_
      refine ev_icmp_ne (pc := 113) (tgt := 138) dX10_contract_113 (by decide) (fun cq113 => ?_) (fun cq113 => ?_)
      · rw [if_neg cq113] at k
        exact k
      · rw [if_pos cq113] at k
        refine ev_aload_n (pc := 116) dX10_contract_116 rfl ?_
        refine get_MO_worth (pc := 117) dX10_contract_117 Fl_X10_172 rfl ?_
        refine ev_ldc2 (pc := 120) dX10_contract_120 Cn_X10_229 ?_
        refine ev_lcmp_ne (pc := 123) (tgt := 138) dX10_contract_123 dX10_contract_124 (by decide) (fun cq123 => ?_) (fun cq123 => ?_)
        · rw [if_neg cq123] at k
          exact k
        · rw [if_pos cq123] at k
          refine ev_aload_n (pc := 127) dX10_contract_127 rfl ?_
          refine callV0V (pc := 128) dX10_contract_128 Ml_X10_201 M_X10_next rfl rfl rfl rfl (c_nextM hT) ?_
          refine ev_aload_n (pc := 131) dX10_contract_131 rfl ?_
          refine callV0V (pc := 132) dX10_contract_132 Ml_X10_226 M_X10_readClause rfl rfl rfl rfl (c_X10_readClause (nextM_Tb hT)) ?_
          refine ev_goto (pc := 135) (tgt := 101) dX10_contract_135 (by decide) ?_
          exact ih (m + 1) _ (clM_Tb (nextM_Tb hT)) (fun h => (hc h).2.2) (by omega) (by by_cases hz : (clM (nextM S)).1 34 = 0; exact Or.inl (by have := (hc hz).2.1; omega); exact Or.inr hz) k
    · rw [if_neg hb] at k
      refine ev_aload_n (pc := 101) dX10_contract_101 rfl ?_
      refine get_MO_bad (pc := 102) dX10_contract_102 Fl_X10_197 rfl ?_
      refine ev_if_ne (pc := 105) (tgt := 138) dX10_contract_105 (by decide) (fun cq105 => ?_) (fun cq105 => absurd cq105 hb)
      exact k
theorem cn3_end (hT : S.1 34 = 0 → 0 ≤ S.1 27) : Ev g mX10_contract 157 [(0, .ref 43)] [] (hC S) (RI (cn3 S).1 (cn3 S).2) := by
  unfold cn3
  have fin : ∀ Z : St, 0 ≤ Z.1 25 → Ev g mX10_contract 254 [(0, .ref 43), (1, .int (nI 4))] [] (hC Z) (RI (Z.1 25) (setI Z 21 0)) := by
    intro Z hZ
    refine ev_aload_n (pc := 254) dX10_contract_254 rfl ?_
    refine ev_aload_n (pc := 255) dX10_contract_255 rfl ?_
    refine get_MO_clauses (pc := 256) dX10_contract_256 Fl_X10_231 rfl ?_
    refine callV1I (pc := 259) dX10_contract_259 Ml_X10_138 M_X10_told rfl rfl rfl rfl (c_told_pos hZ) ?_
    exact ev_iret (pc := 262) dX10_contract_262 rfl rfl ri
  have tl : ∀ Y : St, 0 ≤ Y.1 25 → Ev g mX10_contract 194 [(0, .ref 43), (1, .int (nI 0))] [] (hC Y) (RI ((it cpAB 4 (it cpP 5 Y)).1 25) (setI (it cpAB 4 (it cpP 5 Y)) 21 0)) := by
    intro Y hY
    refine c4_cpP _ ?_
    have hz : 0 ≤ (it cpAB 4 (it cpP 5 Y)).1 25 := by
      have e := (it_inv cpAB (fun X => X.1) (fun _ _ => rfl) 4 (it cpP 5 Y)).trans (it_inv cpP (fun X => X.1) (fun _ _ => rfl) 5 Y)
      have e2 := congrFun e 25
      rw [show (it cpAB 4 (it cpP 5 Y)).1 25 = Y.1 25 from e2]
      exact hY
    refine ev_iconst (pc := 217) (v := nI 0) dX10_contract_217 (by decide) ?_
    refine ev_istore_n (pc := 218) (lv' := [(0, .ref 43), (1, .int _)]) dX10_contract_218 (Nat.le_of_ble_eq_true rfl) rfl ?_
    exact c4_cpAB _ (fin _ hz)
  refine ev_aload_n (pc := 157) dX10_contract_157 rfl ?_
  refine ev_iconst (pc := 158) (v := 0) dX10_contract_158 (by decide) ?_
  refine put_MO_taped (pc := 159) dX10_contract_159 Fp_X10_159 ?_
  refine ev_aload_n (pc := 162) dX10_contract_162 rfl ?_
  refine get_MO_bad (pc := 163) dX10_contract_163 Fl_X10_197 rfl ?_
  refine ev_if_eq (pc := 166) (tgt := 176) dX10_contract_166 (by decide) (fun cq166 => ?_) (fun cq166 => ?_)
  · have cq166 : (setI S 29 0).1 34 = 0 := cq166
    rw [if_pos cq166]
    refine ev_aload_n (pc := 176) dX10_contract_176 rfl ?_
    refine ev_aload_n (pc := 177) dX10_contract_177 rfl ?_
    refine get_MO_nMany (pc := 178) dX10_contract_178 Fl_X10_216 rfl ?_
    refine put_MO_clauses (pc := 181) dX10_contract_181 Fp_X10_231 ?_
    refine ev_aload_n (pc := 184) dX10_contract_184 rfl ?_
    refine ev_aload_n (pc := 185) dX10_contract_185 rfl ?_
    refine get_MO_nQuota (pc := 186) dX10_contract_186 Fl_X10_223 rfl ?_
    refine put_MO_quota (pc := 189) dX10_contract_189 Fp_X10_43 ?_
    refine ev_iconst (pc := 192) (v := nI 0) dX10_contract_192 (by decide) ?_
    refine ev_istore_n (pc := 193) (lv' := [(0, .ref 43), (1, .int _)]) dX10_contract_193 (Nat.le_of_ble_eq_true rfl) rfl ?_
    exact tl _ (hT cq166)
  · have cq166 : ¬ (setI S 29 0).1 34 = 0 := cq166
    rw [if_neg cq166]
    refine ev_aload_n (pc := 169) dX10_contract_169 rfl ?_
    refine ev_bipush (pc := 170) (v := -6) dX10_contract_170 (by decide) ?_
    refine callV1I (pc := 172) dX10_contract_172 Ml_X10_138 M_X10_told rfl rfl rfl rfl (c_told_neg (by decide)) ?_
    exact ev_iret (pc := 175) dX10_contract_175 rfl rfl ri
def Cm (S : St) : Prop := S.1 34 = 0 → ∃ m : Nat, m ≤ 20 ∧ S.1 27 = nI m
theorem Cm.cl (h : Cm S) : Cm (clM S) := by
  intro hb
  by_cases h0 : S.1 34 = 0
  · obtain ⟨m, hm, he⟩ := h h0
    obtain ⟨-, h2, h3⟩ := clM_cnt (fun _ => he) hm hb
    exact ⟨m + 1, by omega, h3⟩
  · exact absurd (clM_cnt (m := 0) (fun z => absurd z h0) (by omega) hb).1 h0
theorem Cm.rc : ∀ (r : Nat) (S : St), Cm S → Cm (rcL r S)
  | 0, S, h => h
  | r + 1, S, h => by
    rw [rcL]
    split
    · split
      · split
        · exact Cm.rc r _ (Cm.cl (S := nextM S) h)
        · exact h
      · exact h
    · exact h
theorem Cm.c2 (h : Cm S) : Cm (cn2 S) := by
  unfold cn2
  split
  · split
    · exact h
    · intro hb
      exact absurd (mustM_bad hb).2 (by decide)
  · exact h
theorem Cm.pos (h : Cm S) : S.1 34 = 0 → 0 ≤ S.1 27 := by
  intro hb
  obtain ⟨m, hm, he⟩ := h hb
  rw [he]
  exact nI_pos' (by omega)
theorem cn1_I (S : St) : (it nabB 4 (it npB 5 (cn0 S))).1 = (cn0 S).1 := (it_inv nabB (fun X => X.1) (fun _ _ => rfl) 4 (it npB 5 (cn0 S))).trans (it_inv npB (fun X => X.1) (fun _ _ => rfl) 5 (cn0 S))
theorem rcL_Tb : ∀ (r : Nat) (S : St), TbM S → TbM (rcL r S)
  | 0, S, h => h
  | r + 1, S, h => by
    rw [rcL]
    split
    · split
      · split
        · exact rcL_Tb r _ (clM_Tb (nextM_Tb h))
        · exact h
      · exact h
    · exact h
theorem c_X10_contract {len : Nat} (hL : S.1 29 = nI len) (hl : len ≤ 200) : Ct g mX10_contract [.ref 43] (hC S) (RI (contractM S).1 (contractM S).2) := by
  have eI := cn1_I S
  have hb : TbM (it nabB 4 (it npB 5 (cn0 S))) := ⟨len, 0, by rw [eI]; exact hL, hl, by rw [eI]; exact nI_0.symm, Nat.zero_le _⟩
  have hb1 : TbM (cn1 S) := nextM_Tb hb
  have hc1 : Cm (cn1 S) := fun _ => ⟨0, by omega, by show (it nabB 4 (it npB 5 (cn0 S))).1 27 = _; rw [eI]; exact nI_0.symm⟩
  have hx1 := cn3_end (g := g) hc1.pos
  have hx2 := cn3_end (g := g) (((Cm.rc 20 _ hc1.cl).c2).pos)
  have tail : ∀ X : St, TbM X → Ev g mX10_contract 157 [(0, .ref 43)] [] (hC (cn2 X)) (RI (cn3 (cn2 (rcL 20 (clM (cn1 S))))).1 (cn3 (cn2 (rcL 20 (clM (cn1 S))))).2) → Ev g mX10_contract 138 [(0, .ref 43)] [] (hC X) (RI (cn3 (cn2 (rcL 20 (clM (cn1 S))))).1 (cn3 (cn2 (rcL 20 (clM (cn1 S))))).2) := by
    intro X hX k
    generalize (RI (cn3 (cn2 (rcL 20 (clM (cn1 S))))).1 (cn3 (cn2 (rcL 20 (clM (cn1 S))))).2) = Post at *
    unfold cn2 at k
    refine ev_aload_n (pc := 138) dX10_contract_138 rfl ?_
    refine get_MO_bad (pc := 139) dX10_contract_139 Fl_X10_197 rfl ?_
    refine ev_if_ne (pc := 142) (tgt := 157) dX10_contract_142 (by decide) (fun cq142 => ?_) (fun cq142 => ?_)
    · rw [if_neg cq142] at k
      exact k
    · rw [if_pos cq142] at k
      refine ev_aload_n (pc := 145) dX10_contract_145 rfl ?_
      refine get_MO_sort (pc := 146) dX10_contract_146 Fl_X10_182 rfl ?_
      refine ev_if_eq (pc := 149) (tgt := 157) dX10_contract_149 (by decide) (fun cq149 => ?_) (fun cq149 => ?_)
      · rw [if_pos cq149] at k
        exact k
      · rw [if_neg cq149] at k
        refine ev_aload_n (pc := 152) dX10_contract_152 rfl ?_
        refine ev_iconst (pc := 153) (v := 0) dX10_contract_153 (by decide) ?_
        refine callV1V (pc := 154) dX10_contract_154 Ml_X10_204 M_X10_must rfl rfl rfl rfl (c_X10_must (is := false) hX) ?_
        exact k
  have hl2 := rc_loop (g := g) 20 1 (clM (cn1 S)) (clM_Tb hb1) (fun h => (clM_cnt (m := 0) (S := cn1 S) (fun _ => by show (it nabB 4 (it npB 5 (cn0 S))).1 27 = _; rw [eI]; exact nI_0.symm) (by omega) h).2.2) (by omega) (Or.inl (by omega)) (tail _ (rcL_Tb _ _ (clM_Tb hb1)) hx2)
  unfold contractM
  refine ct_of rfl rfl ?_
  refine ev_aload_n (pc := 0) dX10_contract_0 rfl ?_
  refine ev_iconst (pc := 1) (v := 0) dX10_contract_1 (by decide) ?_
  refine put_MO_thrown (pc := 2) dX10_contract_2 Fp_X10_117 ?_
  refine ev_aload_n (pc := 5) dX10_contract_5 rfl ?_
  refine ev_iconst (pc := 6) (v := 0) dX10_contract_6 (by decide) ?_
  refine put_MO_to (pc := 7) dX10_contract_7 Fp_X10_166 ?_
  refine ev_aload_n (pc := 10) dX10_contract_10 rfl ?_
  refine ev_iconst (pc := 11) (v := 0) dX10_contract_11 (by decide) ?_
  refine put_MO_bad (pc := 12) dX10_contract_12 Fp_X10_197 rfl rfl ?_
  refine ev_aload_n (pc := 15) dX10_contract_15 rfl ?_
  refine ev_iconst (pc := 16) (v := -1) dX10_contract_16 (by decide) ?_
  refine put_MO_fault (pc := 17) dX10_contract_17 Fp_X10_65 ?_
  refine ev_aload_n (pc := 20) dX10_contract_20 rfl ?_
  refine ev_iconst (pc := 21) (v := 0) dX10_contract_21 (by decide) ?_
  refine put_MO_nMany (pc := 22) dX10_contract_22 Fp_X10_216 ?_
  refine ev_aload_n (pc := 25) dX10_contract_25 rfl ?_
  refine ev_iconst (pc := 26) (v := -1) dX10_contract_26 (by decide) ?_
  refine put_MO_nQuota (pc := 27) dX10_contract_27 Fp_X10_223 ?_
  refine ev_iconst (pc := 30) (v := nI 0) dX10_contract_30 (by decide) ?_
  refine ev_istore_n (pc := 31) (lv' := [(0, .ref 43), (1, .int _)]) dX10_contract_31 (Nat.le_of_ble_eq_true rfl) rfl ?_
  refine c4_np _ ?_
  refine ev_iconst (pc := 50) (v := nI 0) dX10_contract_50 (by decide) ?_
  refine ev_istore_n (pc := 51) (lv' := [(0, .ref 43), (1, .int _)]) dX10_contract_51 (Nat.le_of_ble_eq_true rfl) rfl ?_
  refine c4_nab _ ?_
  refine ev_aload_n (pc := 86) dX10_contract_86 rfl ?_
  refine callV0V (pc := 87) dX10_contract_87 Ml_X10_201 M_X10_next rfl rfl rfl rfl (c_nextM hb) ?_
  refine ev_aload_n (pc := 90) dX10_contract_90 rfl ?_
  refine get_MO_sort (pc := 91) dX10_contract_91 Fl_X10_182 rfl ?_
  refine ev_if_eq (pc := 94) (tgt := 157) dX10_contract_94 (by decide) (fun cq94 => ?_) (fun cq94 => ?_)
  · have cq94 : (cn1 S).1 32 = 0 := cq94
    rw [if_pos cq94]
    exact ev_keep [0] hx1
  · have cq94 : ¬ (cn1 S).1 32 = 0 := cq94
    rw [if_neg cq94]
    refine ev_aload_n (pc := 97) dX10_contract_97 rfl ?_
    refine callV0V (pc := 98) dX10_contract_98 Ml_X10_226 M_X10_readClause rfl rfl rfl rfl (c_X10_readClause hb1) ?_
    exact ev_keep [0] hl2
end MO4
