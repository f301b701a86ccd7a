section ML2
variable {g : GG} {S : St}
theorem rdL_P (b : Nat) (hb : b < 2) : ∀ (r : Nat) (S : St), (rdL b r S).2.2.2.2.2 = S.2.2.2.2
  | 0, S => rfl
  | r + 1, S => by
    have hc : (rdClause b S).2.2.2.2.2 = S.2.2.2.2 := by
      rcases (show b = 0 ∨ b = 1 by omega) with rfl | rfl
      · exact rdClause_P_0
      · exact rdClause_P_1
    rw [rdL]
    dsimp only
    split
    · split
      · exact hc
      · split
        · exact (rdL_P b hb r _).trans hc
        · exact hc
    · exact hc
theorem readS_P (b : Nat) (hb : b < 2) (S : St) : (readS b S).2.2.2.2.2 = va_up S.2.2.2.2 2 (35 + 4 * b) := by
  unfold readS
  split
  · rfl
  · exact rdL_P b hb 20 _
theorem readS_P01 (b : Nat) (hb : b < 2) (S : St) (n : Nat) (hn : n < 2) : (readS b S).2.2.2.2.2 n = S.2.2.2.2 n := by
  rw [readS_P b hb]
  simp [va_up, show ¬ n = 2 by omega]
def contractC (b d : Nat) (S : St) : Int32 × St :=
  let q := readS d S
  let X := setI (setI q.2 0 q.1) 6 0
  if q.1 = -1 then (X.1 (18 + d), setI (setP (setP X 0 (35 + 4 * d)) 1 (35 + 4 * b)) 1 0) else refuseS (-6) X
def foreC (nd i : Nat) (S : St) : Int64 := foreL (S.2.1 2 i) (S.1 11) (lostF (S.2.1 11) (S.2.1 12) (S.2.1 13) (S.2.1 1 i) nd)
theorem c_X9_foretold {i nd : Nat} (hi : i < 40) (hs : S.1 10 = nI nd) (hd : nd ≤ 60) : Ct g mX9_foretold [.ref 0, .int (nI i)] (hC S) (RJl (foreC nd i S) S) := by
  refine ct_of rfl rfl ?_
  refine ev_aload_n (pc := 0) dX9_foretold_0 rfl ?_
  refine get_MF_land (pc := 1) dX9_foretold_1 Fl_X9_47 ?_
  refine ev_aload_n (pc := 4) dX9_foretold_4 rfl ?_
  refine get_MF_farmers (pc := 5) dX9_foretold_5 Fl_X9_10 ?_
  refine get_F_fields (pc := 8) dX9_foretold_8 Fl_X9_213 ?_
  refine ev_iload_n (pc := 11) dX9_foretold_11 rfl ?_
  refine ldN_F_fields (pc := 12) dX9_foretold_12 (by omega) rfl ?_
  refine ev_aload_n (pc := 13) dX9_foretold_13 rfl ?_
  refine get_MF_farmers (pc := 14) dX9_foretold_14 Fl_X9_10 ?_
  refine get_F_place (pc := 17) dX9_foretold_17 Fl_X9_189 ?_
  refine ev_iload_n (pc := 20) dX9_foretold_20 rfl ?_
  refine ldN_F_place (pc := 21) dX9_foretold_21 (by omega) rfl ?_
  refine callV2L (pc := 22) dX9_foretold_22 Ml_X9_216 M_X5_foretold rfl rfl rfl rfl (c_X5_foretold hs hd) ?_
  exact ev_lret (pc := 25) dX9_foretold_25 rfl rl
def shortC (b nd i : Nat) (S : St) : Bool := !decide (shareF S b 3 (foreC nd i S) ≤ S.2.2.2.1 0 i)
def ofV (b nd i : Nat) (X : St) (j : Nat) : Int64 := match j with
  | 0 => X.2.2.2.1 0 i
  | 1 => X.2.2.2.1 1 i
  | 2 => X.2.2.2.1 2 i
  | 3 => X.2.2.2.1 4 i
  | 4 => X.2.2.2.1 2 i - X.2.2.2.1 4 i
  | 5 => X.2.2.2.1 1 i - X.2.2.2.1 4 i
  | 6 => X.2.2.2.1 6 i
  | 7 => X.2.2.2.1 2 i - X.2.2.2.1 4 i - X.2.2.2.1 6 i
  | 8 => X.2.2.2.1 1 i - X.2.2.2.1 4 i - X.2.2.2.1 7 i
  | 9 => foreC nd i X
  | _ => if shortC b nd i X = true then 1 else 0
def ofC (b nf nc nb nd : Nat) (f day w : Int32) (S : St) : Int64 × St :=
  if outB f 0 (nI nf - 1) = true then (-1, S) else if outB day 0 400 = true then (-1, S) else if outB w 0 10 = true then (-1, S) else
  (ofV b nd f.toNatClampNeg (standS b (S.2.1 0 f.toNatClampNeg) nf (drawS b day nf nc nb S)) w.toNatClampNeg, standS b (S.2.1 0 f.toNatClampNeg) nf (drawS b day nf nc nb S))
def groupV (nf : Nat) (gr : Int32) (X : St) (j : Nat) : Int64 := match j with
  | 0 => (nI (cntW (X.2.1 0) gr nf)).toInt64
  | 1 => X.2.2.1 0
  | 2 => X.2.2.1 2
  | _ => X.2.2.1 0 - X.2.2.1 2
def groupC (b nf nc nb : Nat) (gr day w : Int32) (S : St) : Int64 × St :=
  if outB gr 0 9 = true then (-1, S) else if outB day 0 400 = true then (-1, S) else if outB w 0 3 = true then (-1, S) else
  (groupV nf gr (standS b gr nf (drawS b day nf nc nb S)) w.toNatClampNeg, standS b gr nf (drawS b day nf nc nb S))
def countC (b : Nat) (w : Int32) (S : St) : Int32 :=
  if w.toInt = 0 then S.1 2 else if w.toInt = 1 then S.1 3 else if w.toInt = 2 then S.1 4 else if w.toInt = 3 then S.1 (18 + b) else if w.toInt = 4 then S.1 10 else if w.toInt = 5 then S.1 12 else if w.toInt = 6 then S.1 6 else if w.toInt = 7 then S.1 5 else -1
theorem tb_in {x : Int32} {j : Int} {offs : Array Int} {off : Int} (h : x.toInt = j) (ho : offs[(j - 0).toNat]? = some off) : offs[(x.toInt - 0).toNat]? = some off := by rw [h]; exact ho
theorem c_X9_contract_0 {len : Nat} (hL : S.1 6 = nI len) (hl : len ≤ 200) (hT : S.2.2.2.2 0 = 35) (hD : S.2.2.2.2 1 = 39) : Ct g mX9_contract [.ref 0] (hC S) (RI (contractC 0 1 S).1 (contractC 0 1 S).2) := by
  have hT2 := (readS_P01 1 (by decide) S 0 (by decide)).trans hT
  have hD2 := (readS_P01 1 (by decide) S 1 (by decide)).trans hD
  have hr := c_X2_read_1 (g := g) hL hl
  unfold contractC
  generalize readS 1 S = q at *
  obtain ⟨r, X⟩ := q
  dsimp only at *
  refine ct_of rfl rfl ?_
  refine ev_aload_n (pc := 0) dX9_contract_0 rfl ?_
  refine ev_aload_n (pc := 1) dX9_contract_1 rfl ?_
  refine get_MF_reader (pc := 2) dX9_contract_2 Fl_X9_73 ?_
  refine ev_aload_n (pc := 5) dX9_contract_5 rfl ?_
  refine get_MF_draft (pc := 6) dX9_contract_6 Fl_X9_65 (by first | exact hD | exact hD2) ?_
  refine callV1I (pc := 9) dX9_contract_9 Ml_X9_120 M_X2_read rfl rfl rfl rfl hr ?_
  refine put_MF_faultPlace (pc := 12) dX9_contract_12 Fp_X9_77 ?_
  refine ev_aload_n (pc := 15) dX9_contract_15 rfl ?_
  refine get_MF_tape (pc := 16) dX9_contract_16 Fl_X9_33 ?_
  refine ev_iconst (pc := 19) (v := 0) dX9_contract_19 (by decide) ?_
  refine put_TP_length (pc := 20) dX9_contract_20 Fp_X9_113 ?_
  refine ev_aload_n (pc := 23) dX9_contract_23 rfl ?_
  refine get_MF_faultPlace (pc := 24) dX9_contract_24 Fl_X9_77 (show _ = r from rfl) ?_
  refine ev_iconst (pc := 27) (v := -1) dX9_contract_27 (by decide) ?_
  refine ev_icmp_eq (pc := 28) (tgt := 38) dX9_contract_28 (by decide) (fun cq28 => ?_) (fun cq28 => ?_)
  · rw [if_pos cq28]
    refine ev_aload_n (pc := 38) dX9_contract_38 rfl ?_
    refine get_MF_terms (pc := 39) dX9_contract_39 Fl_X9_61 hT2 ?_
    refine ev_astore_n (pc := 42) (lv' := [(0, .ref 0), (1, .ref 35)]) dX9_contract_42 (Nat.le_of_ble_eq_true rfl) rfl ?_
    refine ev_aload_n (pc := 43) dX9_contract_43 rfl ?_
    refine ev_aload_n (pc := 44) dX9_contract_44 rfl ?_
    refine get_MF_draft (pc := 45) dX9_contract_45 Fl_X9_65 (by first | exact hD | exact hD2) ?_
    refine put_MF_terms (pc := 48) dX9_contract_48 Fp_X9_61 ?_
    refine ev_aload_n (pc := 51) dX9_contract_51 rfl ?_
    refine ev_aload_n (pc := 52) dX9_contract_52 rfl ?_
    refine put_MF_draft (pc := 53) dX9_contract_53 Fp_X9_65 ?_
    refine ev_aload_n (pc := 56) dX9_contract_56 rfl ?_
    refine ev_aload_n (pc := 57) dX9_contract_57 rfl ?_
    refine get_MF_terms (pc := 58) dX9_contract_58 Fl_X9_61 rfl ?_
    refine get_T1_clauses (pc := 61) dX9_contract_61 Fl_X9_124 rfl ?_
    refine callV1I (pc := 64) dX9_contract_64 Ml_X9_99 M_X9_accept rfl rfl rfl rfl c_X9_accept ?_
    exact ev_iret (pc := 67) dX9_contract_67 rfl rfl ri
  · rw [if_neg cq28]
    refine ev_aload_n (pc := 31) dX9_contract_31 rfl ?_
    refine ev_bipush (pc := 32) (v := -6) dX9_contract_32 (by decide) ?_
    refine callV1I (pc := 34) dX9_contract_34 Ml_X9_88 M_X9_refuse rfl rfl rfl rfl c_X9_refuse ?_
    exact ev_iret (pc := 37) dX9_contract_37 rfl rfl ri
theorem c_X9_isShort_0 {i nd : Nat} (hi : i < 40) (hs : S.1 10 = nI nd) (hd : nd ≤ 60) (hT : S.2.2.2.2 0 = 35) : Ct g mX9_isShort [.ref 0, .int (nI i)] (hC S) (RI (b2i (shortC 0 nd i S)) S) := by
  refine ct_of rfl rfl ?_
  unfold shortC
  refine ev_aload_n (pc := 0) dX9_isShort_0 rfl ?_
  refine get_MF_books (pc := 1) dX9_isShort_1 Fl_X9_40 ?_
  refine get_BK_weight (pc := 4) dX9_isShort_4 Fl_X9_141 ?_
  refine ev_iload_n (pc := 7) dX9_isShort_7 rfl ?_
  refine ldN_BK_weight (pc := 8) dX9_isShort_8 (by omega) rfl ?_
  refine ev_aload_n (pc := 9) dX9_isShort_9 rfl ?_
  refine get_MF_terms (pc := 10) dX9_isShort_10 Fl_X9_61 hT ?_
  refine ev_iconst (pc := 13) (v := nI 3) dX9_isShort_13 (by decide) ?_
  refine ev_aload_n (pc := 14) dX9_isShort_14 rfl ?_
  refine ev_iload_n (pc := 15) dX9_isShort_15 rfl ?_
  refine callV1L (pc := 16) dX9_isShort_16 Ml_X9_167 M_X9_foretold rfl rfl rfl rfl (c_X9_foretold hi hs hd) ?_
  refine callV2L (pc := 19) dX9_isShort_19 Ml_X9_219 M_X8_shareOf rfl rfl rfl rfl (c_X8_shareOf_0 (by decide)) ?_
  refine ev_lcmp_ge (pc := 22) (tgt := 30) dX9_isShort_22 dX9_isShort_23 (by decide) (fun cq22 => ?_) (fun cq22 => ?_)
  · refine ev_iconst (pc := 30) (v := 0) dX9_isShort_30 (by decide) ?_
    exact ev_iret (pc := 31) dX9_isShort_31 rfl rfl (ri' (by simp [b2i, *]) rfl)
  · refine ev_iconst (pc := 26) (v := 1) dX9_isShort_26 (by decide) ?_
    refine ev_goto (pc := 27) (tgt := 31) dX9_isShort_27 (by decide) ?_
    exact ev_iret (pc := 31) dX9_isShort_31 rfl rfl (ri' (by simp [b2i, *]) rfl)
theorem of_tail_0 {i nd j : Nat} {day : Int32} {X : St} (hi : i < 40) (hs : X.1 10 = nI nd) (hd : nd ≤ 60) (hT : X.2.2.2.2 0 = 35) (hj : j ≤ 10) : Ev g mX9_of 81 [(0, .ref 0), (1, .int (nI i)), (2, .int day), (3, .int (nI j))] [] (hC X) (RJl (ofV 0 nd i X j) X) := by
  refine ev_iload_n (pc := 81) dX9_of_81 rfl ?_
  rcases (show j = 0 ∨ j = 1 ∨ j = 2 ∨ j = 3 ∨ j = 4 ∨ j = 5 ∨ j = 6 ∨ j = 7 ∨ j = 8 ∨ j = 9 ∨ j = 10 by omega) with rfl | rfl | rfl | rfl | rfl | rfl | rfl | rfl | rfl | rfl | rfl
  · refine ev_tabIn (pc := 82) (tgt := 136) (off := 54) dX9_of_82 (by decide) (by decide) (by decide) (by decide) ?_
    refine ev_aload_n (pc := 136) dX9_of_136 rfl ?_
    refine get_MF_books (pc := 137) dX9_of_137 Fl_X9_40 ?_
    refine get_BK_weight (pc := 140) dX9_of_140 Fl_X9_141 ?_
    refine ev_iload_n (pc := 143) dX9_of_143 rfl ?_
    refine ldN_BK_weight (pc := 144) dX9_of_144 (by omega) rfl ?_
    exact ev_lret (pc := 145) dX9_of_145 rfl rl
  · refine ev_tabIn (pc := 82) (tgt := 146) (off := 64) dX9_of_82 (by decide) (by decide) (by decide) (by decide) ?_
    refine ev_aload_n (pc := 146) dX9_of_146 rfl ?_
    refine get_MF_books (pc := 147) dX9_of_147 Fl_X9_40 ?_
    refine get_BK_lent (pc := 150) dX9_of_150 Fl_X9_145 ?_
    refine ev_iload_n (pc := 153) dX9_of_153 rfl ?_
    refine ldN_BK_lent (pc := 154) dX9_of_154 (by omega) rfl ?_
    exact ev_lret (pc := 155) dX9_of_155 rfl rl
  · refine ev_tabIn (pc := 82) (tgt := 156) (off := 74) dX9_of_82 (by decide) (by decide) (by decide) (by decide) ?_
    refine ev_aload_n (pc := 156) dX9_of_156 rfl ?_
    refine get_MF_books (pc := 157) dX9_of_157 Fl_X9_40 ?_
    refine get_BK_check (pc := 160) dX9_of_160 Fl_X9_148 ?_
    refine ev_iload_n (pc := 163) dX9_of_163 rfl ?_
    refine ldN_BK_check (pc := 164) dX9_of_164 (by omega) rfl ?_
    exact ev_lret (pc := 165) dX9_of_165 rfl rl
  · refine ev_tabIn (pc := 82) (tgt := 166) (off := 84) dX9_of_82 (by decide) (by decide) (by decide) (by decide) ?_
    refine ev_aload_n (pc := 166) dX9_of_166 rfl ?_
    refine get_MF_books (pc := 167) dX9_of_167 Fl_X9_40 ?_
    refine get_BK_off (pc := 170) dX9_of_170 Fl_X9_151 ?_
    refine ev_iload_n (pc := 173) dX9_of_173 rfl ?_
    refine ldN_BK_off (pc := 174) dX9_of_174 (by omega) rfl ?_
    exact ev_lret (pc := 175) dX9_of_175 rfl rl
  · refine ev_tabIn (pc := 82) (tgt := 176) (off := 94) dX9_of_82 (by decide) (by decide) (by decide) (by decide) ?_
    refine ev_aload_n (pc := 176) dX9_of_176 rfl ?_
    refine get_MF_books (pc := 177) dX9_of_177 Fl_X9_40 ?_
    refine ev_iload_n (pc := 180) dX9_of_180 rfl ?_
    refine callV1L (pc := 181) dX9_of_181 Ml_X9_154 M_X1_pay rfl rfl rfl rfl (c_X1_pay hi) ?_
    exact ev_lret (pc := 184) dX9_of_184 rfl rl
  · refine ev_tabIn (pc := 82) (tgt := 185) (off := 103) dX9_of_82 (by decide) (by decide) (by decide) (by decide) ?_
    refine ev_aload_n (pc := 185) dX9_of_185 rfl ?_
    refine get_MF_books (pc := 186) dX9_of_186 Fl_X9_40 ?_
    refine ev_iload_n (pc := 189) dX9_of_189 rfl ?_
    refine callV1L (pc := 190) dX9_of_190 Ml_X9_158 M_X1_debt rfl rfl rfl rfl (c_X1_debt hi) ?_
    exact ev_lret (pc := 193) dX9_of_193 rfl rl
  · refine ev_tabIn (pc := 82) (tgt := 194) (off := 112) dX9_of_82 (by decide) (by decide) (by decide) (by decide) ?_
    refine ev_aload_n (pc := 194) dX9_of_194 rfl ?_
    refine get_MF_books (pc := 195) dX9_of_195 Fl_X9_40 ?_
    refine get_BK_given (pc := 198) dX9_of_198 Fl_X9_161 ?_
    refine ev_iload_n (pc := 201) dX9_of_201 rfl ?_
    refine ldN_BK_given (pc := 202) dX9_of_202 (by omega) rfl ?_
    exact ev_lret (pc := 203) dX9_of_203 rfl rl
  · refine ev_tabIn (pc := 82) (tgt := 204) (off := 122) dX9_of_82 (by decide) (by decide) (by decide) (by decide) ?_
    refine ev_aload_n (pc := 204) dX9_of_204 rfl ?_
    refine get_MF_books (pc := 205) dX9_of_205 Fl_X9_40 ?_
    refine ev_iload_n (pc := 208) dX9_of_208 rfl ?_
    refine callV1L (pc := 209) dX9_of_209 Ml_X9_154 M_X1_pay rfl rfl rfl rfl (c_X1_pay hi) ?_
    refine ev_aload_n (pc := 212) dX9_of_212 rfl ?_
    refine get_MF_books (pc := 213) dX9_of_213 Fl_X9_40 ?_
    refine get_BK_given (pc := 216) dX9_of_216 Fl_X9_161 ?_
    refine ev_iload_n (pc := 219) dX9_of_219 rfl ?_
    refine ldN_BK_given (pc := 220) dX9_of_220 (by omega) rfl ?_
    refine ev_lsub (pc := 221) dX9_of_221 ?_
    exact ev_lret (pc := 222) dX9_of_222 rfl rl
  · refine ev_tabIn (pc := 82) (tgt := 223) (off := 141) dX9_of_82 (by decide) (by decide) (by decide) (by decide) ?_
    refine ev_aload_n (pc := 223) dX9_of_223 rfl ?_
    refine get_MF_books (pc := 224) dX9_of_224 Fl_X9_40 ?_
    refine ev_iload_n (pc := 227) dX9_of_227 rfl ?_
    refine callV1L (pc := 228) dX9_of_228 Ml_X9_158 M_X1_debt rfl rfl rfl rfl (c_X1_debt hi) ?_
    refine ev_aload_n (pc := 231) dX9_of_231 rfl ?_
    refine get_MF_books (pc := 232) dX9_of_232 Fl_X9_40 ?_
    refine get_BK_paid (pc := 235) dX9_of_235 Fl_X9_164 ?_
    refine ev_iload_n (pc := 238) dX9_of_238 rfl ?_
    refine ldN_BK_paid (pc := 239) dX9_of_239 (by omega) rfl ?_
    refine ev_lsub (pc := 240) dX9_of_240 ?_
    exact ev_lret (pc := 241) dX9_of_241 rfl rl
  · refine ev_tabIn (pc := 82) (tgt := 242) (off := 160) dX9_of_82 (by decide) (by decide) (by decide) (by decide) ?_
    refine ev_aload_n (pc := 242) dX9_of_242 rfl ?_
    refine ev_iload_n (pc := 243) dX9_of_243 rfl ?_
    refine callV1L (pc := 244) dX9_of_244 Ml_X9_167 M_X9_foretold rfl rfl rfl rfl (c_X9_foretold hi hs hd) ?_
    exact ev_lret (pc := 247) dX9_of_247 rfl rl
  · refine ev_tabOut (pc := 82) (tgt := 248) dX9_of_82 (by decide) (by decide) ?_
    refine ev_aload_n (pc := 248) dX9_of_248 rfl ?_
    refine ev_iload_n (pc := 249) dX9_of_249 rfl ?_
    refine callV1I (pc := 250) dX9_of_250 Ml_X9_170 M_X9_isShort rfl rfl rfl rfl (c_X9_isShort_0 hi hs hd hT) ?_
    refine ev_if_eqB (pc := 253) (tgt := 260) dX9_of_253 (by decide) (fun cq253 => ?_) (fun cq253 => ?_)
    · show Ev _ _ _ _ _ _ (RJl (if _ = true then 1 else 0) X)
      rw [if_neg (by rw [cq253]; decide)]
      refine ev_lconst (pc := 260) (v := 0) dX9_of_260 (by decide) ?_
      exact ev_lret (pc := 261) dX9_of_261 rfl rl
    · show Ev _ _ _ _ _ _ (RJl (if _ = true then 1 else 0) X)
      rw [if_pos cq253]
      refine ev_lconst (pc := 256) (v := 1) dX9_of_256 (by decide) ?_
      refine ev_goto (pc := 257) (tgt := 261) dX9_of_257 (by decide) ?_
      exact ev_lret (pc := 261) dX9_of_261 rfl rl
theorem c_X9_of_0 {f day w : Int32} {nf nc nb nd : Nat} (hB : Bs S nf nc nb) (hs : S.1 10 = nI nd) (hd : nd ≤ 60) (hT : S.2.2.2.2 0 = 35) : Ct g mX9_of [.ref 0, .int f, .int day, .int w] (hC S) (RJl (ofC 0 nf nc nb nd f day w S).1 (ofC 0 nf nc nb nd f day w S).2) := by
  obtain ⟨hF, hnf, -⟩ := id hB
  have e1 := drawS_eq 0 day nf nc nb S
  have hT1 : (drawS 0 day nf nc nb S).2.2.2.2 0 = 35 := by rw [e1.2.2]; exact hT
  refine ct_of rfl rfl ?_
  unfold ofC
  refine ev_aload_n (pc := 0) dX9_of_0 rfl ?_
  refine ev_iload_n (pc := 1) dX9_of_1 rfl ?_
  refine callV1I (pc := 2) dX9_of_2 Ml_X9_103 M_X9_isNoFarmer rfl rfl rfl rfl (by have := c_X9_isNoFarmer (g := g) (S := S) (f := f); rw [hF] at this; exact this) ?_
  refine ev_if_neB (pc := 5) (tgt := 29) dX9_of_5 (by decide) (fun cq5 => ?_) (fun cq5 => ?_)
  · rw [if_pos cq5]
    refine ev_ldc2 (pc := 29) dX9_of_29 Cn_X9_127 ?_
    exact ev_lret (pc := 32) dX9_of_32 rfl rl
  · rw [if_neg (by rw [cq5]; decide)]
    obtain ⟨i, hi, rfl⟩ := outB_idx (by omega) cq5
    rw [nI_clamp (by omega)]
    refine ev_iload_n (pc := 8) dX9_of_8 rfl ?_
    refine ev_iconst (pc := 9) (v := 0) dX9_of_9 (by decide) ?_
    refine ev_sipush (pc := 10) (v := 400) dX9_of_10 (by decide) ?_
    refine callS3I (pc := 13) dX9_of_13 Ml_X9_84 M_X9_outside rfl rfl c_X9_outside ?_
    refine ev_if_neB (pc := 16) (tgt := 29) dX9_of_16 (by decide) (fun cq16 => ?_) (fun cq16 => ?_)
    · rw [if_pos cq16]
      refine ev_ldc2 (pc := 29) dX9_of_29 Cn_X9_127 ?_
      exact ev_lret (pc := 32) dX9_of_32 rfl rl
    · rw [if_neg (by rw [cq16]; decide)]
      refine ev_iload_n (pc := 19) dX9_of_19 rfl ?_
      refine ev_iconst (pc := 20) (v := 0) dX9_of_20 (by decide) ?_
      refine ev_bipush (pc := 21) (v := 10) dX9_of_21 (by decide) ?_
      refine callS3I (pc := 23) dX9_of_23 Ml_X9_84 M_X9_outside rfl rfl c_X9_outside ?_
      refine ev_if_eqB (pc := 26) (tgt := 33) dX9_of_26 (by decide) (fun cq26 => ?_) (fun cq26 => ?_)
      · rw [if_neg (by rw [cq26]; decide)]
        obtain ⟨j, hj, rfl⟩ := outB_rng (n := 10) (by decide) cq26
        rw [nI_clamp (by omega)]
        refine ev_aload_n (pc := 33) dX9_of_33 rfl ?_
        refine get_MF_books (pc := 34) dX9_of_34 Fl_X9_40 ?_
        refine ev_aload_n (pc := 37) dX9_of_37 rfl ?_
        refine get_MF_farmers (pc := 38) dX9_of_38 Fl_X9_10 ?_
        refine ev_aload_n (pc := 41) dX9_of_41 rfl ?_
        refine get_MF_credits (pc := 42) dX9_of_42 Fl_X9_19 ?_
        refine ev_aload_n (pc := 45) dX9_of_45 rfl ?_
        refine get_MF_baskets (pc := 46) dX9_of_46 Fl_X9_26 ?_
        refine ev_aload_n (pc := 49) dX9_of_49 rfl ?_
        refine get_MF_terms (pc := 50) dX9_of_50 Fl_X9_61 (by first | exact hT | exact hT1) ?_
        refine ev_iload_n (pc := 53) dX9_of_53 rfl ?_
        refine callV5V (pc := 54) dX9_of_54 Ml_X9_129 M_X1_draw rfl rfl rfl rfl (c_X1_draw_0 hB) ?_
        refine ev_aload_n (pc := 57) dX9_of_57 rfl ?_
        refine get_MF_books (pc := 58) dX9_of_58 Fl_X9_40 ?_
        refine ev_aload_n (pc := 61) dX9_of_61 rfl ?_
        refine get_MF_farmers (pc := 62) dX9_of_62 Fl_X9_10 ?_
        refine ev_aload_n (pc := 65) dX9_of_65 rfl ?_
        refine get_MF_terms (pc := 66) dX9_of_66 Fl_X9_61 (by first | exact hT | exact hT1) ?_
        refine ev_aload_n (pc := 69) dX9_of_69 rfl ?_
        refine get_MF_farmers (pc := 70) dX9_of_70 Fl_X9_10 ?_
        refine get_F_group (pc := 73) dX9_of_73 Fl_X9_133 ?_
        refine ev_iload_n (pc := 76) dX9_of_76 rfl ?_
        refine ldN_F_group (pc := 77) dX9_of_77 (by omega) (congrFun (congrFun e1.2.1 _) _) ?_
        refine callV3V (pc := 78) dX9_of_78 Ml_X9_137 M_X1_stand rfl rfl rfl rfl (c_X1_stand_0 (hB.eq e1)) ?_
        exact of_tail_0 (by omega) (by rw [(standS_eq 0 _ nf _).1, e1.1]; exact hs) hd (by rw [(standS_eq 0 _ nf _).2.2, e1.2.2]; exact hT) hj
      · rw [if_pos cq26]
        refine ev_ldc2 (pc := 29) dX9_of_29 Cn_X9_127 ?_
        exact ev_lret (pc := 32) dX9_of_32 rfl rl
theorem group_tail_0 {nf nc nb j : Nat} {gr day : Int32} {X : St} (hB : Bs X nf nc nb) (hj : j ≤ 3) : Ev g mX9_group 74 [(0, .ref 0), (1, .int gr), (2, .int day), (3, .int (nI j))] [] (hC X) (RJl (groupV nf gr X j) X) := by
  obtain ⟨hF, hnf, -⟩ := id hB
  refine ev_iload_n (pc := 74) dX9_group_74 rfl ?_
  rcases (show j = 0 ∨ j = 1 ∨ j = 2 ∨ j = 3 by omega) with rfl | rfl | rfl | rfl
  · refine ev_tabIn (pc := 75) (tgt := 100) (off := 25) dX9_group_75 (by decide) (by decide) (by decide) (by decide) ?_
    refine ev_aload_n (pc := 100) dX9_group_100 rfl ?_
    refine get_MF_farmers (pc := 101) dX9_group_101 Fl_X9_10 ?_
    refine ev_iload_n (pc := 104) dX9_group_104 rfl ?_
    refine callV1I (pc := 105) dX9_group_105 Ml_X9_173 M_X4_howManyIn rfl rfl rfl rfl (c_X4_howManyIn hF hnf) ?_
    refine ev_i2l (pc := 108) dX9_group_108 ?_
    exact ev_lret (pc := 109) dX9_group_109 rfl rl
  · refine ev_tabIn (pc := 75) (tgt := 110) (off := 35) dX9_group_75 (by decide) (by decide) (by decide) (by decide) ?_
    refine ev_aload_n (pc := 110) dX9_group_110 rfl ?_
    refine get_MF_books (pc := 111) dX9_group_111 Fl_X9_40 ?_
    refine get_BK_owedTogether (pc := 114) dX9_group_114 Fl_X9_176 rfl ?_
    exact ev_lret (pc := 117) dX9_group_117 rfl rl
  · refine ev_tabIn (pc := 75) (tgt := 118) (off := 43) dX9_group_75 (by decide) (by decide) (by decide) (by decide) ?_
    refine ev_aload_n (pc := 118) dX9_group_118 rfl ?_
    refine get_MF_books (pc := 119) dX9_group_119 Fl_X9_40 ?_
    refine get_BK_givenTogether (pc := 122) dX9_group_122 Fl_X9_180 rfl ?_
    exact ev_lret (pc := 125) dX9_group_125 rfl rl
  · refine ev_tabOut (pc := 75) (tgt := 126) dX9_group_75 (by decide) (by decide) ?_
    refine ev_aload_n (pc := 126) dX9_group_126 rfl ?_
    refine get_MF_books (pc := 127) dX9_group_127 Fl_X9_40 ?_
    refine get_BK_owedTogether (pc := 130) dX9_group_130 Fl_X9_176 rfl ?_
    refine ev_aload_n (pc := 133) dX9_group_133 rfl ?_
    refine get_MF_books (pc := 134) dX9_group_134 Fl_X9_40 ?_
    refine get_BK_givenTogether (pc := 137) dX9_group_137 Fl_X9_180 rfl ?_
    refine ev_lsub (pc := 140) dX9_group_140 ?_
    exact ev_lret (pc := 141) dX9_group_141 rfl rl
theorem c_X9_group_0 {gr day w : Int32} {nf nc nb : Nat} (hB : Bs S nf nc nb) (hT : S.2.2.2.2 0 = 35) : Ct g mX9_group [.ref 0, .int gr, .int day, .int w] (hC S) (RJl (groupC 0 nf nc nb gr day w S).1 (groupC 0 nf nc nb gr day w S).2) := by
  have e1 := drawS_eq 0 day nf nc nb S
  have hT1 : (drawS 0 day nf nc nb S).2.2.2.2 0 = 35 := by rw [e1.2.2]; exact hT
  refine ct_of rfl rfl ?_
  unfold groupC
  refine ev_iload_n (pc := 0) dX9_group_0 rfl ?_
  refine ev_iconst (pc := 1) (v := 0) dX9_group_1 (by decide) ?_
  refine ev_bipush (pc := 2) (v := 9) dX9_group_2 (by decide) ?_
  refine callS3I (pc := 4) dX9_group_4 Ml_X9_84 M_X9_outside rfl rfl c_X9_outside ?_
  refine ev_if_neB (pc := 7) (tgt := 30) dX9_group_7 (by decide) (fun cq7 => ?_) (fun cq7 => ?_)
  · rw [if_pos cq7]
    refine ev_ldc2 (pc := 30) dX9_group_30 Cn_X9_127 ?_
    exact ev_lret (pc := 33) dX9_group_33 rfl rl
  · rw [if_neg (by rw [cq7]; decide)]
    refine ev_iload_n (pc := 10) dX9_group_10 rfl ?_
    refine ev_iconst (pc := 11) (v := 0) dX9_group_11 (by decide) ?_
    refine ev_sipush (pc := 12) (v := 400) dX9_group_12 (by decide) ?_
    refine callS3I (pc := 15) dX9_group_15 Ml_X9_84 M_X9_outside rfl rfl c_X9_outside ?_
    refine ev_if_neB (pc := 18) (tgt := 30) dX9_group_18 (by decide) (fun cq18 => ?_) (fun cq18 => ?_)
    · rw [if_pos cq18]
      refine ev_ldc2 (pc := 30) dX9_group_30 Cn_X9_127 ?_
      exact ev_lret (pc := 33) dX9_group_33 rfl rl
    · rw [if_neg (by rw [cq18]; decide)]
      refine ev_iload_n (pc := 21) dX9_group_21 rfl ?_
      refine ev_iconst (pc := 22) (v := 0) dX9_group_22 (by decide) ?_
      refine ev_iconst (pc := 23) (v := 3) dX9_group_23 (by decide) ?_
      refine callS3I (pc := 24) dX9_group_24 Ml_X9_84 M_X9_outside rfl rfl c_X9_outside ?_
      refine ev_if_eqB (pc := 27) (tgt := 34) dX9_group_27 (by decide) (fun cq27 => ?_) (fun cq27 => ?_)
      · rw [if_neg (by rw [cq27]; decide)]
        obtain ⟨j, hj, rfl⟩ := outB_rng (n := 3) (by decide) cq27
        rw [nI_clamp (by omega)]
        refine ev_aload_n (pc := 34) dX9_group_34 rfl ?_
        refine get_MF_books (pc := 35) dX9_group_35 Fl_X9_40 ?_
        refine ev_aload_n (pc := 38) dX9_group_38 rfl ?_
        refine get_MF_farmers (pc := 39) dX9_group_39 Fl_X9_10 ?_
        refine ev_aload_n (pc := 42) dX9_group_42 rfl ?_
        refine get_MF_credits (pc := 43) dX9_group_43 Fl_X9_19 ?_
        refine ev_aload_n (pc := 46) dX9_group_46 rfl ?_
        refine get_MF_baskets (pc := 47) dX9_group_47 Fl_X9_26 ?_
        refine ev_aload_n (pc := 50) dX9_group_50 rfl ?_
        refine get_MF_terms (pc := 51) dX9_group_51 Fl_X9_61 (by first | exact hT | exact hT1) ?_
        refine ev_iload_n (pc := 54) dX9_group_54 rfl ?_
        refine callV5V (pc := 55) dX9_group_55 Ml_X9_129 M_X1_draw rfl rfl rfl rfl (c_X1_draw_0 hB) ?_
        refine ev_aload_n (pc := 58) dX9_group_58 rfl ?_
        refine get_MF_books (pc := 59) dX9_group_59 Fl_X9_40 ?_
        refine ev_aload_n (pc := 62) dX9_group_62 rfl ?_
        refine get_MF_farmers (pc := 63) dX9_group_63 Fl_X9_10 ?_
        refine ev_aload_n (pc := 66) dX9_group_66 rfl ?_
        refine get_MF_terms (pc := 67) dX9_group_67 Fl_X9_61 (by first | exact hT | exact hT1) ?_
        refine ev_iload_n (pc := 70) dX9_group_70 rfl ?_
        refine callV3V (pc := 71) dX9_group_71 Ml_X9_137 M_X1_stand rfl rfl rfl rfl (c_X1_stand_0 (hB.eq e1)) ?_
        exact group_tail_0 (hB.eq ((standS_eq 0 gr nf _).tr e1)) hj
      · rw [if_pos cq27]
        refine ev_ldc2 (pc := 30) dX9_group_30 Cn_X9_127 ?_
        exact ev_lret (pc := 33) dX9_group_33 rfl rl
theorem c_X9_count_0 {w : Int32} (hT : S.2.2.2.2 0 = 35) : Ct g mX9_count [.ref 0, .int w] (hC S) (RI (countC 0 w S) S) := by
  refine ct_of rfl rfl ?_
  unfold countC
  refine ev_iload_n (pc := 0) dX9_count_0 rfl ?_
  rcases (show w.toInt = 0 ∨ w.toInt = 1 ∨ w.toInt = 2 ∨ w.toInt = 3 ∨ w.toInt = 4 ∨ w.toInt = 5 ∨ w.toInt = 6 ∨ w.toInt = 7 ∨ (w.toInt < 0 ∨ 7 < w.toInt) by omega) with hw | hw | hw | hw | hw | hw | hw | hw | hw
  · refine ev_tabIn (pc := 1) (tgt := 48) (off := 47) dX9_count_1 (by omega) (by omega) (tb_in hw (by decide)) (by decide) ?_
    simp only [hw]
    refine ev_aload_n (pc := 48) dX9_count_48 rfl ?_
    refine get_MF_farmers (pc := 49) dX9_count_49 Fl_X9_10 ?_
    refine get_F_size (pc := 52) dX9_count_52 Fl_X9_92 rfl ?_
    exact ev_iret (pc := 55) dX9_count_55 rfl rfl ri
  · refine ev_tabIn (pc := 1) (tgt := 56) (off := 55) dX9_count_1 (by omega) (by omega) (tb_in hw (by decide)) (by decide) ?_
    simp only [hw]
    refine ev_aload_n (pc := 56) dX9_count_56 rfl ?_
    refine get_MF_credits (pc := 57) dX9_count_57 Fl_X9_19 ?_
    refine get_C_size (pc := 60) dX9_count_60 Fl_X9_107 rfl ?_
    exact ev_iret (pc := 63) dX9_count_63 rfl rfl ri
  · refine ev_tabIn (pc := 1) (tgt := 64) (off := 63) dX9_count_1 (by omega) (by omega) (tb_in hw (by decide)) (by decide) ?_
    simp only [hw]
    refine ev_aload_n (pc := 64) dX9_count_64 rfl ?_
    refine get_MF_baskets (pc := 65) dX9_count_65 Fl_X9_26 ?_
    refine get_K_size (pc := 68) dX9_count_68 Fl_X9_109 rfl ?_
    exact ev_iret (pc := 71) dX9_count_71 rfl rfl ri
  · refine ev_tabIn (pc := 1) (tgt := 72) (off := 71) dX9_count_1 (by omega) (by omega) (tb_in hw (by decide)) (by decide) ?_
    simp only [hw]
    refine ev_aload_n (pc := 72) dX9_count_72 rfl ?_
    refine get_MF_terms (pc := 73) dX9_count_73 Fl_X9_61 hT ?_
    refine get_T0_clauses (pc := 76) dX9_count_76 Fl_X9_124 rfl ?_
    exact ev_iret (pc := 79) dX9_count_79 rfl rfl ri
  · refine ev_tabIn (pc := 1) (tgt := 80) (off := 79) dX9_count_1 (by omega) (by omega) (tb_in hw (by decide)) (by decide) ?_
    simp only [hw]
    refine ev_aload_n (pc := 80) dX9_count_80 rfl ?_
    refine get_MF_land (pc := 81) dX9_count_81 Fl_X9_47 ?_
    refine get_LA_size (pc := 84) dX9_count_84 Fl_X9_186 rfl ?_
    exact ev_iret (pc := 87) dX9_count_87 rfl rfl ri
  · refine ev_tabIn (pc := 1) (tgt := 88) (off := 87) dX9_count_1 (by omega) (by omega) (tb_in hw (by decide)) (by decide) ?_
    simp only [hw]
    refine ev_aload_n (pc := 88) dX9_count_88 rfl ?_
    refine get_MF_road (pc := 89) dX9_count_89 Fl_X9_54 ?_
    refine get_RD_size (pc := 92) dX9_count_92 Fl_X9_188 rfl ?_
    exact ev_iret (pc := 95) dX9_count_95 rfl rfl ri
  · refine ev_tabIn (pc := 1) (tgt := 96) (off := 95) dX9_count_1 (by omega) (by omega) (tb_in hw (by decide)) (by decide) ?_
    simp only [hw]
    refine ev_aload_n (pc := 96) dX9_count_96 rfl ?_
    refine get_MF_tape (pc := 97) dX9_count_97 Fl_X9_33 ?_
    refine get_TP_length (pc := 100) dX9_count_100 Fl_X9_113 rfl ?_
    exact ev_iret (pc := 103) dX9_count_103 rfl rfl ri
  · refine ev_tabIn (pc := 1) (tgt := 104) (off := 103) dX9_count_1 (by omega) (by omega) (tb_in hw (by decide)) (by decide) ?_
    simp only [hw]
    refine ev_aload_n (pc := 104) dX9_count_104 rfl ?_
    refine get_MF_baskets (pc := 105) dX9_count_105 Fl_X9_26 ?_
    refine get_K_weightTogether (pc := 108) dX9_count_108 Fl_X9_210 rfl ?_
    exact ev_iret (pc := 111) dX9_count_111 rfl rfl ri
  · refine ev_tabOut (pc := 1) (tgt := 112) dX9_count_1 hw (by decide) ?_
    rw [if_neg (show ¬ w.toInt = 0 by omega)]
    rw [if_neg (show ¬ w.toInt = 1 by omega)]
    rw [if_neg (show ¬ w.toInt = 2 by omega)]
    rw [if_neg (show ¬ w.toInt = 3 by omega)]
    rw [if_neg (show ¬ w.toInt = 4 by omega)]
    rw [if_neg (show ¬ w.toInt = 5 by omega)]
    rw [if_neg (show ¬ w.toInt = 6 by omega)]
    rw [if_neg (show ¬ w.toInt = 7 by omega)]
    refine ev_iconst (pc := 112) (v := -1) dX9_count_112 (by decide) ?_
    exact ev_iret (pc := 113) dX9_count_113 rfl rfl ri
theorem c_X9_contract_1 {len : Nat} (hL : S.1 6 = nI len) (hl : len ≤ 200) (hT : S.2.2.2.2 0 = 39) (hD : S.2.2.2.2 1 = 35) : Ct g mX9_contract [.ref 0] (hC S) (RI (contractC 1 0 S).1 (contractC 1 0 S).2) := by
  have hT2 := (readS_P01 0 (by decide) S 0 (by decide)).trans hT
  have hD2 := (readS_P01 0 (by decide) S 1 (by decide)).trans hD
  have hr := c_X2_read_0 (g := g) hL hl
  unfold contractC
  generalize readS 0 S = q at *
  obtain ⟨r, X⟩ := q
  dsimp only at *
  refine ct_of rfl rfl ?_
  refine ev_aload_n (pc := 0) dX9_contract_0 rfl ?_
  refine ev_aload_n (pc := 1) dX9_contract_1 rfl ?_
  refine get_MF_reader (pc := 2) dX9_contract_2 Fl_X9_73 ?_
  refine ev_aload_n (pc := 5) dX9_contract_5 rfl ?_
  refine get_MF_draft (pc := 6) dX9_contract_6 Fl_X9_65 (by first | exact hD | exact hD2) ?_
  refine callV1I (pc := 9) dX9_contract_9 Ml_X9_120 M_X2_read rfl rfl rfl rfl hr ?_
  refine put_MF_faultPlace (pc := 12) dX9_contract_12 Fp_X9_77 ?_
  refine ev_aload_n (pc := 15) dX9_contract_15 rfl ?_
  refine get_MF_tape (pc := 16) dX9_contract_16 Fl_X9_33 ?_
  refine ev_iconst (pc := 19) (v := 0) dX9_contract_19 (by decide) ?_
  refine put_TP_length (pc := 20) dX9_contract_20 Fp_X9_113 ?_
  refine ev_aload_n (pc := 23) dX9_contract_23 rfl ?_
  refine get_MF_faultPlace (pc := 24) dX9_contract_24 Fl_X9_77 (show _ = r from rfl) ?_
  refine ev_iconst (pc := 27) (v := -1) dX9_contract_27 (by decide) ?_
  refine ev_icmp_eq (pc := 28) (tgt := 38) dX9_contract_28 (by decide) (fun cq28 => ?_) (fun cq28 => ?_)
  · rw [if_pos cq28]
    refine ev_aload_n (pc := 38) dX9_contract_38 rfl ?_
    refine get_MF_terms (pc := 39) dX9_contract_39 Fl_X9_61 hT2 ?_
    refine ev_astore_n (pc := 42) (lv' := [(0, .ref 0), (1, .ref 39)]) dX9_contract_42 (Nat.le_of_ble_eq_true rfl) rfl ?_
    refine ev_aload_n (pc := 43) dX9_contract_43 rfl ?_
    refine ev_aload_n (pc := 44) dX9_contract_44 rfl ?_
    refine get_MF_draft (pc := 45) dX9_contract_45 Fl_X9_65 (by first | exact hD | exact hD2) ?_
    refine put_MF_terms (pc := 48) dX9_contract_48 Fp_X9_61 ?_
    refine ev_aload_n (pc := 51) dX9_contract_51 rfl ?_
    refine ev_aload_n (pc := 52) dX9_contract_52 rfl ?_
    refine put_MF_draft (pc := 53) dX9_contract_53 Fp_X9_65 ?_
    refine ev_aload_n (pc := 56) dX9_contract_56 rfl ?_
    refine ev_aload_n (pc := 57) dX9_contract_57 rfl ?_
    refine get_MF_terms (pc := 58) dX9_contract_58 Fl_X9_61 rfl ?_
    refine get_T0_clauses (pc := 61) dX9_contract_61 Fl_X9_124 rfl ?_
    refine callV1I (pc := 64) dX9_contract_64 Ml_X9_99 M_X9_accept rfl rfl rfl rfl c_X9_accept ?_
    exact ev_iret (pc := 67) dX9_contract_67 rfl rfl ri
  · rw [if_neg cq28]
    refine ev_aload_n (pc := 31) dX9_contract_31 rfl ?_
    refine ev_bipush (pc := 32) (v := -6) dX9_contract_32 (by decide) ?_
    refine callV1I (pc := 34) dX9_contract_34 Ml_X9_88 M_X9_refuse rfl rfl rfl rfl c_X9_refuse ?_
    exact ev_iret (pc := 37) dX9_contract_37 rfl rfl ri
theorem c_X9_isShort_1 {i nd : Nat} (hi : i < 40) (hs : S.1 10 = nI nd) (hd : nd ≤ 60) (hT : S.2.2.2.2 0 = 39) : Ct g mX9_isShort [.ref 0, .int (nI i)] (hC S) (RI (b2i (shortC 1 nd i S)) S) := by
  refine ct_of rfl rfl ?_
  unfold shortC
  refine ev_aload_n (pc := 0) dX9_isShort_0 rfl ?_
  refine get_MF_books (pc := 1) dX9_isShort_1 Fl_X9_40 ?_
  refine get_BK_weight (pc := 4) dX9_isShort_4 Fl_X9_141 ?_
  refine ev_iload_n (pc := 7) dX9_isShort_7 rfl ?_
  refine ldN_BK_weight (pc := 8) dX9_isShort_8 (by omega) rfl ?_
  refine ev_aload_n (pc := 9) dX9_isShort_9 rfl ?_
  refine get_MF_terms (pc := 10) dX9_isShort_10 Fl_X9_61 hT ?_
  refine ev_iconst (pc := 13) (v := nI 3) dX9_isShort_13 (by decide) ?_
  refine ev_aload_n (pc := 14) dX9_isShort_14 rfl ?_
  refine ev_iload_n (pc := 15) dX9_isShort_15 rfl ?_
  refine callV1L (pc := 16) dX9_isShort_16 Ml_X9_167 M_X9_foretold rfl rfl rfl rfl (c_X9_foretold hi hs hd) ?_
  refine callV2L (pc := 19) dX9_isShort_19 Ml_X9_219 M_X8_shareOf rfl rfl rfl rfl (c_X8_shareOf_1 (by decide)) ?_
  refine ev_lcmp_ge (pc := 22) (tgt := 30) dX9_isShort_22 dX9_isShort_23 (by decide) (fun cq22 => ?_) (fun cq22 => ?_)
  · refine ev_iconst (pc := 30) (v := 0) dX9_isShort_30 (by decide) ?_
    exact ev_iret (pc := 31) dX9_isShort_31 rfl rfl (ri' (by simp [b2i, *]) rfl)
  · refine ev_iconst (pc := 26) (v := 1) dX9_isShort_26 (by decide) ?_
    refine ev_goto (pc := 27) (tgt := 31) dX9_isShort_27 (by decide) ?_
    exact ev_iret (pc := 31) dX9_isShort_31 rfl rfl (ri' (by simp [b2i, *]) rfl)
theorem of_tail_1 {i nd j : Nat} {day : Int32} {X : St} (hi : i < 40) (hs : X.1 10 = nI nd) (hd : nd ≤ 60) (hT : X.2.2.2.2 0 = 39) (hj : j ≤ 10) : Ev g mX9_of 81 [(0, .ref 0), (1, .int (nI i)), (2, .int day), (3, .int (nI j))] [] (hC X) (RJl (ofV 1 nd i X j) X) := by
  refine ev_iload_n (pc := 81) dX9_of_81 rfl ?_
  rcases (show j = 0 ∨ j = 1 ∨ j = 2 ∨ j = 3 ∨ j = 4 ∨ j = 5 ∨ j = 6 ∨ j = 7 ∨ j = 8 ∨ j = 9 ∨ j = 10 by omega) with rfl | rfl | rfl | rfl | rfl | rfl | rfl | rfl | rfl | rfl | rfl
  · refine ev_tabIn (pc := 82) (tgt := 136) (off := 54) dX9_of_82 (by decide) (by decide) (by decide) (by decide) ?_
    refine ev_aload_n (pc := 136) dX9_of_136 rfl ?_
    refine get_MF_books (pc := 137) dX9_of_137 Fl_X9_40 ?_
    refine get_BK_weight (pc := 140) dX9_of_140 Fl_X9_141 ?_
    refine ev_iload_n (pc := 143) dX9_of_143 rfl ?_
    refine ldN_BK_weight (pc := 144) dX9_of_144 (by omega) rfl ?_
    exact ev_lret (pc := 145) dX9_of_145 rfl rl
  · refine ev_tabIn (pc := 82) (tgt := 146) (off := 64) dX9_of_82 (by decide) (by decide) (by decide) (by decide) ?_
    refine ev_aload_n (pc := 146) dX9_of_146 rfl ?_
    refine get_MF_books (pc := 147) dX9_of_147 Fl_X9_40 ?_
    refine get_BK_lent (pc := 150) dX9_of_150 Fl_X9_145 ?_
    refine ev_iload_n (pc := 153) dX9_of_153 rfl ?_
    refine ldN_BK_lent (pc := 154) dX9_of_154 (by omega) rfl ?_
    exact ev_lret (pc := 155) dX9_of_155 rfl rl
  · refine ev_tabIn (pc := 82) (tgt := 156) (off := 74) dX9_of_82 (by decide) (by decide) (by decide) (by decide) ?_
    refine ev_aload_n (pc := 156) dX9_of_156 rfl ?_
    refine get_MF_books (pc := 157) dX9_of_157 Fl_X9_40 ?_
    refine get_BK_check (pc := 160) dX9_of_160 Fl_X9_148 ?_
    refine ev_iload_n (pc := 163) dX9_of_163 rfl ?_
    refine ldN_BK_check (pc := 164) dX9_of_164 (by omega) rfl ?_
    exact ev_lret (pc := 165) dX9_of_165 rfl rl
  · refine ev_tabIn (pc := 82) (tgt := 166) (off := 84) dX9_of_82 (by decide) (by decide) (by decide) (by decide) ?_
    refine ev_aload_n (pc := 166) dX9_of_166 rfl ?_
    refine get_MF_books (pc := 167) dX9_of_167 Fl_X9_40 ?_
    refine get_BK_off (pc := 170) dX9_of_170 Fl_X9_151 ?_
    refine ev_iload_n (pc := 173) dX9_of_173 rfl ?_
    refine ldN_BK_off (pc := 174) dX9_of_174 (by omega) rfl ?_
    exact ev_lret (pc := 175) dX9_of_175 rfl rl
  · refine ev_tabIn (pc := 82) (tgt := 176) (off := 94) dX9_of_82 (by decide) (by decide) (by decide) (by decide) ?_
    refine ev_aload_n (pc := 176) dX9_of_176 rfl ?_
    refine get_MF_books (pc := 177) dX9_of_177 Fl_X9_40 ?_
    refine ev_iload_n (pc := 180) dX9_of_180 rfl ?_
    refine callV1L (pc := 181) dX9_of_181 Ml_X9_154 M_X1_pay rfl rfl rfl rfl (c_X1_pay hi) ?_
    exact ev_lret (pc := 184) dX9_of_184 rfl rl
  · refine ev_tabIn (pc := 82) (tgt := 185) (off := 103) dX9_of_82 (by decide) (by decide) (by decide) (by decide) ?_
    refine ev_aload_n (pc := 185) dX9_of_185 rfl ?_
    refine get_MF_books (pc := 186) dX9_of_186 Fl_X9_40 ?_
    refine ev_iload_n (pc := 189) dX9_of_189 rfl ?_
    refine callV1L (pc := 190) dX9_of_190 Ml_X9_158 M_X1_debt rfl rfl rfl rfl (c_X1_debt hi) ?_
    exact ev_lret (pc := 193) dX9_of_193 rfl rl
  · refine ev_tabIn (pc := 82) (tgt := 194) (off := 112) dX9_of_82 (by decide) (by decide) (by decide) (by decide) ?_
    refine ev_aload_n (pc := 194) dX9_of_194 rfl ?_
    refine get_MF_books (pc := 195) dX9_of_195 Fl_X9_40 ?_
    refine get_BK_given (pc := 198) dX9_of_198 Fl_X9_161 ?_
    refine ev_iload_n (pc := 201) dX9_of_201 rfl ?_
    refine ldN_BK_given (pc := 202) dX9_of_202 (by omega) rfl ?_
    exact ev_lret (pc := 203) dX9_of_203 rfl rl
  · refine ev_tabIn (pc := 82) (tgt := 204) (off := 122) dX9_of_82 (by decide) (by decide) (by decide) (by decide) ?_
    refine ev_aload_n (pc := 204) dX9_of_204 rfl ?_
    refine get_MF_books (pc := 205) dX9_of_205 Fl_X9_40 ?_
    refine ev_iload_n (pc := 208) dX9_of_208 rfl ?_
    refine callV1L (pc := 209) dX9_of_209 Ml_X9_154 M_X1_pay rfl rfl rfl rfl (c_X1_pay hi) ?_
    refine ev_aload_n (pc := 212) dX9_of_212 rfl ?_
    refine get_MF_books (pc := 213) dX9_of_213 Fl_X9_40 ?_
    refine get_BK_given (pc := 216) dX9_of_216 Fl_X9_161 ?_
    refine ev_iload_n (pc := 219) dX9_of_219 rfl ?_
    refine ldN_BK_given (pc := 220) dX9_of_220 (by omega) rfl ?_
    refine ev_lsub (pc := 221) dX9_of_221 ?_
    exact ev_lret (pc := 222) dX9_of_222 rfl rl
  · refine ev_tabIn (pc := 82) (tgt := 223) (off := 141) dX9_of_82 (by decide) (by decide) (by decide) (by decide) ?_
    refine ev_aload_n (pc := 223) dX9_of_223 rfl ?_
    refine get_MF_books (pc := 224) dX9_of_224 Fl_X9_40 ?_
    refine ev_iload_n (pc := 227) dX9_of_227 rfl ?_
    refine callV1L (pc := 228) dX9_of_228 Ml_X9_158 M_X1_debt rfl rfl rfl rfl (c_X1_debt hi) ?_
    refine ev_aload_n (pc := 231) dX9_of_231 rfl ?_
    refine get_MF_books (pc := 232) dX9_of_232 Fl_X9_40 ?_
    refine get_BK_paid (pc := 235) dX9_of_235 Fl_X9_164 ?_
    refine ev_iload_n (pc := 238) dX9_of_238 rfl ?_
    refine ldN_BK_paid (pc := 239) dX9_of_239 (by omega) rfl ?_
    refine ev_lsub (pc := 240) dX9_of_240 ?_
    exact ev_lret (pc := 241) dX9_of_241 rfl rl
  · refine ev_tabIn (pc := 82) (tgt := 242) (off := 160) dX9_of_82 (by decide) (by decide) (by decide) (by decide) ?_
    refine ev_aload_n (pc := 242) dX9_of_242 rfl ?_
    refine ev_iload_n (pc := 243) dX9_of_243 rfl ?_
    refine callV1L (pc := 244) dX9_of_244 Ml_X9_167 M_X9_foretold rfl rfl rfl rfl (c_X9_foretold hi hs hd) ?_
    exact ev_lret (pc := 247) dX9_of_247 rfl rl
  · refine ev_tabOut (pc := 82) (tgt := 248) dX9_of_82 (by decide) (by decide) ?_
    refine ev_aload_n (pc := 248) dX9_of_248 rfl ?_
    refine ev_iload_n (pc := 249) dX9_of_249 rfl ?_
    refine callV1I (pc := 250) dX9_of_250 Ml_X9_170 M_X9_isShort rfl rfl rfl rfl (c_X9_isShort_1 hi hs hd hT) ?_
    refine ev_if_eqB (pc := 253) (tgt := 260) dX9_of_253 (by decide) (fun cq253 => ?_) (fun cq253 => ?_)
    · show Ev _ _ _ _ _ _ (RJl (if _ = true then 1 else 0) X)
      rw [if_neg (by rw [cq253]; decide)]
      refine ev_lconst (pc := 260) (v := 0) dX9_of_260 (by decide) ?_
      exact ev_lret (pc := 261) dX9_of_261 rfl rl
    · show Ev _ _ _ _ _ _ (RJl (if _ = true then 1 else 0) X)
      rw [if_pos cq253]
      refine ev_lconst (pc := 256) (v := 1) dX9_of_256 (by decide) ?_
      refine ev_goto (pc := 257) (tgt := 261) dX9_of_257 (by decide) ?_
      exact ev_lret (pc := 261) dX9_of_261 rfl rl
theorem c_X9_of_1 {f day w : Int32} {nf nc nb nd : Nat} (hB : Bs S nf nc nb) (hs : S.1 10 = nI nd) (hd : nd ≤ 60) (hT : S.2.2.2.2 0 = 39) : Ct g mX9_of [.ref 0, .int f, .int day, .int w] (hC S) (RJl (ofC 1 nf nc nb nd f day w S).1 (ofC 1 nf nc nb nd f day w S).2) := by
  obtain ⟨hF, hnf, -⟩ := id hB
  have e1 := drawS_eq 1 day nf nc nb S
  have hT1 : (drawS 1 day nf nc nb S).2.2.2.2 0 = 39 := by rw [e1.2.2]; exact hT
  refine ct_of rfl rfl ?_
  unfold ofC
  refine ev_aload_n (pc := 0) dX9_of_0 rfl ?_
  refine ev_iload_n (pc := 1) dX9_of_1 rfl ?_
  refine callV1I (pc := 2) dX9_of_2 Ml_X9_103 M_X9_isNoFarmer rfl rfl rfl rfl (by have := c_X9_isNoFarmer (g := g) (S := S) (f := f); rw [hF] at this; exact this) ?_
  refine ev_if_neB (pc := 5) (tgt := 29) dX9_of_5 (by decide) (fun cq5 => ?_) (fun cq5 => ?_)
  · rw [if_pos cq5]
    refine ev_ldc2 (pc := 29) dX9_of_29 Cn_X9_127 ?_
    exact ev_lret (pc := 32) dX9_of_32 rfl rl
  · rw [if_neg (by rw [cq5]; decide)]
    obtain ⟨i, hi, rfl⟩ := outB_idx (by omega) cq5
    rw [nI_clamp (by omega)]
    refine ev_iload_n (pc := 8) dX9_of_8 rfl ?_
    refine ev_iconst (pc := 9) (v := 0) dX9_of_9 (by decide) ?_
    refine ev_sipush (pc := 10) (v := 400) dX9_of_10 (by decide) ?_
    refine callS3I (pc := 13) dX9_of_13 Ml_X9_84 M_X9_outside rfl rfl c_X9_outside ?_
    refine ev_if_neB (pc := 16) (tgt := 29) dX9_of_16 (by decide) (fun cq16 => ?_) (fun cq16 => ?_)
    · rw [if_pos cq16]
      refine ev_ldc2 (pc := 29) dX9_of_29 Cn_X9_127 ?_
      exact ev_lret (pc := 32) dX9_of_32 rfl rl
    · rw [if_neg (by rw [cq16]; decide)]
      refine ev_iload_n (pc := 19) dX9_of_19 rfl ?_
      refine ev_iconst (pc := 20) (v := 0) dX9_of_20 (by decide) ?_
      refine ev_bipush (pc := 21) (v := 10) dX9_of_21 (by decide) ?_
      refine callS3I (pc := 23) dX9_of_23 Ml_X9_84 M_X9_outside rfl rfl c_X9_outside ?_
      refine ev_if_eqB (pc := 26) (tgt := 33) dX9_of_26 (by decide) (fun cq26 => ?_) (fun cq26 => ?_)
      · rw [if_neg (by rw [cq26]; decide)]
        obtain ⟨j, hj, rfl⟩ := outB_rng (n := 10) (by decide) cq26
        rw [nI_clamp (by omega)]
        refine ev_aload_n (pc := 33) dX9_of_33 rfl ?_
        refine get_MF_books (pc := 34) dX9_of_34 Fl_X9_40 ?_
        refine ev_aload_n (pc := 37) dX9_of_37 rfl ?_
        refine get_MF_farmers (pc := 38) dX9_of_38 Fl_X9_10 ?_
        refine ev_aload_n (pc := 41) dX9_of_41 rfl ?_
        refine get_MF_credits (pc := 42) dX9_of_42 Fl_X9_19 ?_
        refine ev_aload_n (pc := 45) dX9_of_45 rfl ?_
        refine get_MF_baskets (pc := 46) dX9_of_46 Fl_X9_26 ?_
        refine ev_aload_n (pc := 49) dX9_of_49 rfl ?_
        refine get_MF_terms (pc := 50) dX9_of_50 Fl_X9_61 (by first | exact hT | exact hT1) ?_
        refine ev_iload_n (pc := 53) dX9_of_53 rfl ?_
        refine callV5V (pc := 54) dX9_of_54 Ml_X9_129 M_X1_draw rfl rfl rfl rfl (c_X1_draw_1 hB) ?_
        refine ev_aload_n (pc := 57) dX9_of_57 rfl ?_
        refine get_MF_books (pc := 58) dX9_of_58 Fl_X9_40 ?_
        refine ev_aload_n (pc := 61) dX9_of_61 rfl ?_
        refine get_MF_farmers (pc := 62) dX9_of_62 Fl_X9_10 ?_
        refine ev_aload_n (pc := 65) dX9_of_65 rfl ?_
        refine get_MF_terms (pc := 66) dX9_of_66 Fl_X9_61 (by first | exact hT | exact hT1) ?_
        refine ev_aload_n (pc := 69) dX9_of_69 rfl ?_
        refine get_MF_farmers (pc := 70) dX9_of_70 Fl_X9_10 ?_
        refine get_F_group (pc := 73) dX9_of_73 Fl_X9_133 ?_
        refine ev_iload_n (pc := 76) dX9_of_76 rfl ?_
        refine ldN_F_group (pc := 77) dX9_of_77 (by omega) (congrFun (congrFun e1.2.1 _) _) ?_
        refine callV3V (pc := 78) dX9_of_78 Ml_X9_137 M_X1_stand rfl rfl rfl rfl (c_X1_stand_1 (hB.eq e1)) ?_
        exact of_tail_1 (by omega) (by rw [(standS_eq 1 _ nf _).1, e1.1]; exact hs) hd (by rw [(standS_eq 1 _ nf _).2.2, e1.2.2]; exact hT) hj
      · rw [if_pos cq26]
        refine ev_ldc2 (pc := 29) dX9_of_29 Cn_X9_127 ?_
        exact ev_lret (pc := 32) dX9_of_32 rfl rl
theorem group_tail_1 {nf nc nb j : Nat} {gr day : Int32} {X : St} (hB : Bs X nf nc nb) (hj : j ≤ 3) : Ev g mX9_group 74 [(0, .ref 0), (1, .int gr), (2, .int day), (3, .int (nI j))] [] (hC X) (RJl (groupV nf gr X j) X) := by
  obtain ⟨hF, hnf, -⟩ := id hB
  refine ev_iload_n (pc := 74) dX9_group_74 rfl ?_
  rcases (show j = 0 ∨ j = 1 ∨ j = 2 ∨ j = 3 by omega) with rfl | rfl | rfl | rfl
  · refine ev_tabIn (pc := 75) (tgt := 100) (off := 25) dX9_group_75 (by decide) (by decide) (by decide) (by decide) ?_
    refine ev_aload_n (pc := 100) dX9_group_100 rfl ?_
    refine get_MF_farmers (pc := 101) dX9_group_101 Fl_X9_10 ?_
    refine ev_iload_n (pc := 104) dX9_group_104 rfl ?_
    refine callV1I (pc := 105) dX9_group_105 Ml_X9_173 M_X4_howManyIn rfl rfl rfl rfl (c_X4_howManyIn hF hnf) ?_
    refine ev_i2l (pc := 108) dX9_group_108 ?_
    exact ev_lret (pc := 109) dX9_group_109 rfl rl
  · refine ev_tabIn (pc := 75) (tgt := 110) (off := 35) dX9_group_75 (by decide) (by decide) (by decide) (by decide) ?_
    refine ev_aload_n (pc := 110) dX9_group_110 rfl ?_
    refine get_MF_books (pc := 111) dX9_group_111 Fl_X9_40 ?_
    refine get_BK_owedTogether (pc := 114) dX9_group_114 Fl_X9_176 rfl ?_
    exact ev_lret (pc := 117) dX9_group_117 rfl rl
  · refine ev_tabIn (pc := 75) (tgt := 118) (off := 43) dX9_group_75 (by decide) (by decide) (by decide) (by decide) ?_
    refine ev_aload_n (pc := 118) dX9_group_118 rfl ?_
    refine get_MF_books (pc := 119) dX9_group_119 Fl_X9_40 ?_
    refine get_BK_givenTogether (pc := 122) dX9_group_122 Fl_X9_180 rfl ?_
    exact ev_lret (pc := 125) dX9_group_125 rfl rl
  · refine ev_tabOut (pc := 75) (tgt := 126) dX9_group_75 (by decide) (by decide) ?_
    refine ev_aload_n (pc := 126) dX9_group_126 rfl ?_
    refine get_MF_books (pc := 127) dX9_group_127 Fl_X9_40 ?_
    refine get_BK_owedTogether (pc := 130) dX9_group_130 Fl_X9_176 rfl ?_
    refine ev_aload_n (pc := 133) dX9_group_133 rfl ?_
    refine get_MF_books (pc := 134) dX9_group_134 Fl_X9_40 ?_
    refine get_BK_givenTogether (pc := 137) dX9_group_137 Fl_X9_180 rfl ?_
    refine ev_lsub (pc := 140) dX9_group_140 ?_
    exact ev_lret (pc := 141) dX9_group_141 rfl rl
theorem c_X9_group_1 {gr day w : Int32} {nf nc nb : Nat} (hB : Bs S nf nc nb) (hT : S.2.2.2.2 0 = 39) : Ct g mX9_group [.ref 0, .int gr, .int day, .int w] (hC S) (RJl (groupC 1 nf nc nb gr day w S).1 (groupC 1 nf nc nb gr day w S).2) := by
  have e1 := drawS_eq 1 day nf nc nb S
  have hT1 : (drawS 1 day nf nc nb S).2.2.2.2 0 = 39 := by rw [e1.2.2]; exact hT
  refine ct_of rfl rfl ?_
  unfold groupC
  refine ev_iload_n (pc := 0) dX9_group_0 rfl ?_
  refine ev_iconst (pc := 1) (v := 0) dX9_group_1 (by decide) ?_
  refine ev_bipush (pc := 2) (v := 9) dX9_group_2 (by decide) ?_
  refine callS3I (pc := 4) dX9_group_4 Ml_X9_84 M_X9_outside rfl rfl c_X9_outside ?_
  refine ev_if_neB (pc := 7) (tgt := 30) dX9_group_7 (by decide) (fun cq7 => ?_) (fun cq7 => ?_)
  · rw [if_pos cq7]
    refine ev_ldc2 (pc := 30) dX9_group_30 Cn_X9_127 ?_
    exact ev_lret (pc := 33) dX9_group_33 rfl rl
  · rw [if_neg (by rw [cq7]; decide)]
    refine ev_iload_n (pc := 10) dX9_group_10 rfl ?_
    refine ev_iconst (pc := 11) (v := 0) dX9_group_11 (by decide) ?_
    refine ev_sipush (pc := 12) (v := 400) dX9_group_12 (by decide) ?_
    refine callS3I (pc := 15) dX9_group_15 Ml_X9_84 M_X9_outside rfl rfl c_X9_outside ?_
    refine ev_if_neB (pc := 18) (tgt := 30) dX9_group_18 (by decide) (fun cq18 => ?_) (fun cq18 => ?_)
    · rw [if_pos cq18]
      refine ev_ldc2 (pc := 30) dX9_group_30 Cn_X9_127 ?_
      exact ev_lret (pc := 33) dX9_group_33 rfl rl
    · rw [if_neg (by rw [cq18]; decide)]
      refine ev_iload_n (pc := 21) dX9_group_21 rfl ?_
      refine ev_iconst (pc := 22) (v := 0) dX9_group_22 (by decide) ?_
      refine ev_iconst (pc := 23) (v := 3) dX9_group_23 (by decide) ?_
      refine callS3I (pc := 24) dX9_group_24 Ml_X9_84 M_X9_outside rfl rfl c_X9_outside ?_
      refine ev_if_eqB (pc := 27) (tgt := 34) dX9_group_27 (by decide) (fun cq27 => ?_) (fun cq27 => ?_)
      · rw [if_neg (by rw [cq27]; decide)]
        obtain ⟨j, hj, rfl⟩ := outB_rng (n := 3) (by decide) cq27
        rw [nI_clamp (by omega)]
        refine ev_aload_n (pc := 34) dX9_group_34 rfl ?_
        refine get_MF_books (pc := 35) dX9_group_35 Fl_X9_40 ?_
        refine ev_aload_n (pc := 38) dX9_group_38 rfl ?_
        refine get_MF_farmers (pc := 39) dX9_group_39 Fl_X9_10 ?_
        refine ev_aload_n (pc := 42) dX9_group_42 rfl ?_
        refine get_MF_credits (pc := 43) dX9_group_43 Fl_X9_19 ?_
        refine ev_aload_n (pc := 46) dX9_group_46 rfl ?_
        refine get_MF_baskets (pc := 47) dX9_group_47 Fl_X9_26 ?_
        refine ev_aload_n (pc := 50) dX9_group_50 rfl ?_
        refine get_MF_terms (pc := 51) dX9_group_51 Fl_X9_61 (by first | exact hT | exact hT1) ?_
        refine ev_iload_n (pc := 54) dX9_group_54 rfl ?_
        refine callV5V (pc := 55) dX9_group_55 Ml_X9_129 M_X1_draw rfl rfl rfl rfl (c_X1_draw_1 hB) ?_
        refine ev_aload_n (pc := 58) dX9_group_58 rfl ?_
        refine get_MF_books (pc := 59) dX9_group_59 Fl_X9_40 ?_
        refine ev_aload_n (pc := 62) dX9_group_62 rfl ?_
        refine get_MF_farmers (pc := 63) dX9_group_63 Fl_X9_10 ?_
        refine ev_aload_n (pc := 66) dX9_group_66 rfl ?_
        refine get_MF_terms (pc := 67) dX9_group_67 Fl_X9_61 (by first | exact hT | exact hT1) ?_
        refine ev_iload_n (pc := 70) dX9_group_70 rfl ?_
        refine callV3V (pc := 71) dX9_group_71 Ml_X9_137 M_X1_stand rfl rfl rfl rfl (c_X1_stand_1 (hB.eq e1)) ?_
        exact group_tail_1 (hB.eq ((standS_eq 1 gr nf _).tr e1)) hj
      · rw [if_pos cq27]
        refine ev_ldc2 (pc := 30) dX9_group_30 Cn_X9_127 ?_
        exact ev_lret (pc := 33) dX9_group_33 rfl rl
theorem c_X9_count_1 {w : Int32} (hT : S.2.2.2.2 0 = 39) : Ct g mX9_count [.ref 0, .int w] (hC S) (RI (countC 1 w S) S) := by
  refine ct_of rfl rfl ?_
  unfold countC
  refine ev_iload_n (pc := 0) dX9_count_0 rfl ?_
  rcases (show w.toInt = 0 ∨ w.toInt = 1 ∨ w.toInt = 2 ∨ w.toInt = 3 ∨ w.toInt = 4 ∨ w.toInt = 5 ∨ w.toInt = 6 ∨ w.toInt = 7 ∨ (w.toInt < 0 ∨ 7 < w.toInt) by omega) with hw | hw | hw | hw | hw | hw | hw | hw | hw
  · refine ev_tabIn (pc := 1) (tgt := 48) (off := 47) dX9_count_1 (by omega) (by omega) (tb_in hw (by decide)) (by decide) ?_
    simp only [hw]
    refine ev_aload_n (pc := 48) dX9_count_48 rfl ?_
    refine get_MF_farmers (pc := 49) dX9_count_49 Fl_X9_10 ?_
    refine get_F_size (pc := 52) dX9_count_52 Fl_X9_92 rfl ?_
    exact ev_iret (pc := 55) dX9_count_55 rfl rfl ri
  · refine ev_tabIn (pc := 1) (tgt := 56) (off := 55) dX9_count_1 (by omega) (by omega) (tb_in hw (by decide)) (by decide) ?_
    simp only [hw]
    refine ev_aload_n (pc := 56) dX9_count_56 rfl ?_
    refine get_MF_credits (pc := 57) dX9_count_57 Fl_X9_19 ?_
    refine get_C_size (pc := 60) dX9_count_60 Fl_X9_107 rfl ?_
    exact ev_iret (pc := 63) dX9_count_63 rfl rfl ri
  · refine ev_tabIn (pc := 1) (tgt := 64) (off := 63) dX9_count_1 (by omega) (by omega) (tb_in hw (by decide)) (by decide) ?_
    simp only [hw]
    refine ev_aload_n (pc := 64) dX9_count_64 rfl ?_
    refine get_MF_baskets (pc := 65) dX9_count_65 Fl_X9_26 ?_
    refine get_K_size (pc := 68) dX9_count_68 Fl_X9_109 rfl ?_
    exact ev_iret (pc := 71) dX9_count_71 rfl rfl ri
  · refine ev_tabIn (pc := 1) (tgt := 72) (off := 71) dX9_count_1 (by omega) (by omega) (tb_in hw (by decide)) (by decide) ?_
    simp only [hw]
    refine ev_aload_n (pc := 72) dX9_count_72 rfl ?_
    refine get_MF_terms (pc := 73) dX9_count_73 Fl_X9_61 hT ?_
    refine get_T1_clauses (pc := 76) dX9_count_76 Fl_X9_124 rfl ?_
    exact ev_iret (pc := 79) dX9_count_79 rfl rfl ri
  · refine ev_tabIn (pc := 1) (tgt := 80) (off := 79) dX9_count_1 (by omega) (by omega) (tb_in hw (by decide)) (by decide) ?_
    simp only [hw]
    refine ev_aload_n (pc := 80) dX9_count_80 rfl ?_
    refine get_MF_land (pc := 81) dX9_count_81 Fl_X9_47 ?_
    refine get_LA_size (pc := 84) dX9_count_84 Fl_X9_186 rfl ?_
    exact ev_iret (pc := 87) dX9_count_87 rfl rfl ri
  · refine ev_tabIn (pc := 1) (tgt := 88) (off := 87) dX9_count_1 (by omega) (by omega) (tb_in hw (by decide)) (by decide) ?_
    simp only [hw]
    refine ev_aload_n (pc := 88) dX9_count_88 rfl ?_
    refine get_MF_road (pc := 89) dX9_count_89 Fl_X9_54 ?_
    refine get_RD_size (pc := 92) dX9_count_92 Fl_X9_188 rfl ?_
    exact ev_iret (pc := 95) dX9_count_95 rfl rfl ri
  · refine ev_tabIn (pc := 1) (tgt := 96) (off := 95) dX9_count_1 (by omega) (by omega) (tb_in hw (by decide)) (by decide) ?_
    simp only [hw]
    refine ev_aload_n (pc := 96) dX9_count_96 rfl ?_
    refine get_MF_tape (pc := 97) dX9_count_97 Fl_X9_33 ?_
    refine get_TP_length (pc := 100) dX9_count_100 Fl_X9_113 rfl ?_
    exact ev_iret (pc := 103) dX9_count_103 rfl rfl ri
  · refine ev_tabIn (pc := 1) (tgt := 104) (off := 103) dX9_count_1 (by omega) (by omega) (tb_in hw (by decide)) (by decide) ?_
    simp only [hw]
    refine ev_aload_n (pc := 104) dX9_count_104 rfl ?_
    refine get_MF_baskets (pc := 105) dX9_count_105 Fl_X9_26 ?_
    refine get_K_weightTogether (pc := 108) dX9_count_108 Fl_X9_210 rfl ?_
    exact ev_iret (pc := 111) dX9_count_111 rfl rfl ri
  · refine ev_tabOut (pc := 1) (tgt := 112) dX9_count_1 hw (by decide) ?_
    rw [if_neg (show ¬ w.toInt = 0 by omega)]
    rw [if_neg (show ¬ w.toInt = 1 by omega)]
    rw [if_neg (show ¬ w.toInt = 2 by omega)]
    rw [if_neg (show ¬ w.toInt = 3 by omega)]
    rw [if_neg (show ¬ w.toInt = 4 by omega)]
    rw [if_neg (show ¬ w.toInt = 5 by omega)]
    rw [if_neg (show ¬ w.toInt = 6 by omega)]
    rw [if_neg (show ¬ w.toInt = 7 by omega)]
    refine ev_iconst (pc := 112) (v := -1) dX9_count_112 (by decide) ?_
    exact ev_iret (pc := 113) dX9_count_113 rfl rfl ri
end ML2
