section MO2
variable {g : GG} {S : St}
theorem setL_set (S : St) (n : Nat) (x y : Int64) : setL (setL S n x) n y = setL S n y := by
  unfold setL
  refine congrArg (fun z => (S.1, S.2.1, z, S.2.2.2)) ?_
  funext j
  simp only [va_up]
  split <;> rfl
theorem setI_comm (S : St) {n m : Nat} (h : n ≠ m) (x y : Int32) : setI (setI S n x) m y = setI (setI S m y) n x := by
  unfold setI
  refine congrArg (fun z => (z, S.2)) ?_
  funext j
  simp only [va_up]
  by_cases h1 : j = m
  · subst h1; simp [Ne.symm h]
  · simp [h1]
theorem nf_step (X : St) (n m : Nat) (w w' : Int64) (a b : Int32) : setI (setL (setI (setL X n w) m a) n w') m b = setI (setL X n w') m b := by
  show setI (setI (setL (setL X n w) n w') m a) m b = _
  rw [setI_set, setL_set]
def smB (c : Int32) : Bool := decide (kdB c = 1)
def dgB (c : Int32) : Bool := decide (kdB c = 2)
theorem dg_ne1 (c : Int32) : ¬ dgK c = 1 := by
  unfold dgK
  split
  · decide
  · split <;> decide
theorem c_X10_isSmall {c : Int32} : Ct g mX10_isSmall [.int c] (hC S) (RI (b2i (smB c)) S) := by
  refine ct_of rfl rfl ?_
  refine ev_iload_n (pc := 0) dX10_isSmall_0 rfl ?_
  refine ev_bipush (pc := 1) (v := 97) dX10_isSmall_1 (by decide) ?_
  refine ev_icmp_lt (pc := 3) (tgt := 16) dX10_isSmall_3 (by decide) (fun cq3 => ?_) (fun cq3 => ?_)
  · have e : smB c = false := by unfold smB kdB; rw [if_pos cq3]; exact decide_eq_false (dg_ne1 c)
    rw [e]
    refine ev_iconst (pc := 16) (v := 0) dX10_isSmall_16 (by decide) ?_
    exact ev_iret (pc := 17) dX10_isSmall_17 rfl rfl ri
  · refine ev_iload_n (pc := 6) dX10_isSmall_6 rfl ?_
    refine ev_bipush (pc := 7) (v := 122) dX10_isSmall_7 (by decide) ?_
    refine ev_icmp_gt (pc := 9) (tgt := 16) dX10_isSmall_9 (by decide) (fun cq9 => ?_) (fun cq9 => ?_)
    · have e : smB c = false := by unfold smB kdB; rw [if_neg cq3, if_pos cq9]; exact decide_eq_false (dg_ne1 c)
      rw [e]
      refine ev_iconst (pc := 16) (v := 0) dX10_isSmall_16 (by decide) ?_
      exact ev_iret (pc := 17) dX10_isSmall_17 rfl rfl ri
    · have e : smB c = true := by unfold smB kdB; rw [if_neg cq3, if_neg cq9]; rfl
      rw [e]
      refine ev_iconst (pc := 12) (v := 1) dX10_isSmall_12 (by decide) ?_
      refine ev_goto (pc := 13) (tgt := 17) dX10_isSmall_13 (by decide) ?_
      exact ev_iret (pc := 17) dX10_isSmall_17 rfl rfl ri
theorem c_X10_isDigit {c : Int32} : Ct g mX10_isDigit [.int c] (hC S) (RI (b2i (dgB c)) S) := by
  have h1 : ∀ c : Int32, c ≤ 57 → c < 97 := by
    intro c h
    have h2 := Int32.le_iff_toInt_le.mp h
    rw [Int32.lt_iff_toInt_lt]
    have e1 : (57 : Int32).toInt = 57 := by decide
    have e2 : (97 : Int32).toInt = 97 := by decide
    omega
  refine ct_of rfl rfl ?_
  refine ev_iload_n (pc := 0) dX10_isDigit_0 rfl ?_
  refine ev_bipush (pc := 1) (v := 48) dX10_isDigit_1 (by decide) ?_
  refine ev_icmp_lt (pc := 3) (tgt := 16) dX10_isDigit_3 (by decide) (fun cq3 => ?_) (fun cq3 => ?_)
  · refine ev_iconst (pc := 16) (v := 0) dX10_isDigit_16 (by decide) ?_
    exact ev_iret (pc := 17) dX10_isDigit_17 rfl rfl (ri' (by simp only [dgB, kdB, dgK]; first | (simp [h1 c (Int32.not_lt.mp cq9), cq3, cq9, b2i]; done) | (by_cases q1 : c < 97 <;> by_cases q2 : 122 < c <;> simp [q1, q2, cq3, b2i]; done) | (by_cases q1 : c < 97 <;> by_cases q2 : 122 < c <;> simp [q1, q2, cq3, cq9, b2i]; done)) rfl)
  · refine ev_iload_n (pc := 6) dX10_isDigit_6 rfl ?_
    refine ev_bipush (pc := 7) (v := 57) dX10_isDigit_7 (by decide) ?_
    refine ev_icmp_gt (pc := 9) (tgt := 16) dX10_isDigit_9 (by decide) (fun cq9 => ?_) (fun cq9 => ?_)
    · refine ev_iconst (pc := 16) (v := 0) dX10_isDigit_16 (by decide) ?_
      exact ev_iret (pc := 17) dX10_isDigit_17 rfl rfl (ri' (by simp only [dgB, kdB, dgK]; first | (simp [h1 c (Int32.not_lt.mp cq9), cq3, cq9, b2i]; done) | (by_cases q1 : c < 97 <;> by_cases q2 : 122 < c <;> simp [q1, q2, cq3, b2i]; done) | (by_cases q1 : c < 97 <;> by_cases q2 : 122 < c <;> simp [q1, q2, cq3, cq9, b2i]; done)) rfl)
    · refine ev_iconst (pc := 12) (v := 1) dX10_isDigit_12 (by decide) ?_
      refine ev_goto (pc := 13) (tgt := 17) dX10_isDigit_13 (by decide) ?_
      exact ev_iret (pc := 17) dX10_isDigit_17 rfl rfl (ri' (by simp only [dgB, kdB, dgK]; first | (simp [h1 c (Int32.not_lt.mp cq9), cq3, cq9, b2i]; done) | (by_cases q1 : c < 97 <;> by_cases q2 : 122 < c <;> simp [q1, q2, cq3, b2i]; done) | (by_cases q1 : c < 97 <;> by_cases q2 : 122 < c <;> simp [q1, q2, cq3, cq9, b2i]; done)) rfl)
def woF (by' : Nat → Int32) (st : Nat) : Nat → Nat → Int64 → Int64
  | 0, _, w => w
  | r + 1, k, w => if kdB (by' k) = 1 then woF by' st r (k + 1) (if 6 ≤ k - st then -1 else w * 32 + (by' k).toInt64 - 96) else w
def diF (by' : Nat → Int32) : Nat → Nat → Int64 → Int64
  | 0, _, w => w
  | r + 1, k, w => if kdB (by' k) = 2 then diF by' r (k + 1) (if w ≤ 10000 then w * 10 + (by' k).toInt64 - 48 else w) else w
def nfM (X : St) (j : Nat) (w : Int64) : St := setI (setL X 3 w) 31 (nI j)
theorem mw_loop {len st : Nat} (hL : S.1 29 = nI len) (hl : len ≤ 200) (hf : S.1 30 = nI st) (hk : S.1 32 = 1) (Post : Option Value → List va_E → Prop) : ∀ (r j : Nat) (w : Int64), j + r = len → st ≤ j → Ev g mX10_next 243 [(0, .ref 43)] [] (hC (nfM S (ruF (S.2.1 40) 1 r j) (woF (S.2.1 40) st r j w))) Post → Ev g mX10_next 149 [(0, .ref 43)] [] (hC (nfM S j w)) Post := by
  intro r
  induction r with
  | zero =>
    intro j w hj hs k
    refine ev_aload_n (pc := 149) dX10_next_149 rfl ?_
    refine get_MO_sort (pc := 150) dX10_next_150 Fl_X10_182 (show _ = 1 from hk) ?_
    refine ev_iconst (pc := 153) (v := 1) dX10_next_153 (by decide) ?_
    refine ev_icmp_ne (pc := 154) (tgt := 243) dX10_next_154 (by decide) (fun cq154 => absurd rfl cq154) (fun cq154 => ?_)
    refine ev_aload_n (pc := 157) dX10_next_157 rfl ?_
    refine get_MO_to (pc := 158) dX10_next_158 Fl_X10_166 (show _ = nI j from rfl) ?_
    refine ev_aload_n (pc := 161) dX10_next_161 rfl ?_
    refine get_MO_taped (pc := 162) dX10_next_162 Fl_X10_159 hL ?_
    refine ev_icmp_geN (pc := 165) (tgt := 243) (by omega) (by omega) dX10_next_165 (by decide) (fun cq165 => ?_) (fun cq165 => absurd (show len ≤ j by omega) cq165)
    exact k
  | succ r ih =>
    intro j w hj hs k
    rw [ruF, woF] at k
    have nfs : ∀ (w' : Int64), setI (setL (nfM S j w) 3 w') 31 (nI (j + 1)) = nfM S (j + 1) w' := fun w' => nf_step _ _ _ _ _ _ _
    refine ev_aload_n (pc := 149) dX10_next_149 rfl ?_
    refine get_MO_sort (pc := 150) dX10_next_150 Fl_X10_182 (show _ = 1 from hk) ?_
    refine ev_iconst (pc := 153) (v := 1) dX10_next_153 (by decide) ?_
    refine ev_icmp_ne (pc := 154) (tgt := 243) dX10_next_154 (by decide) (fun cq154 => absurd rfl cq154) (fun cq154 => ?_)
    refine ev_aload_n (pc := 157) dX10_next_157 rfl ?_
    refine get_MO_to (pc := 158) dX10_next_158 Fl_X10_166 (show _ = nI j from rfl) ?_
    refine ev_aload_n (pc := 161) dX10_next_161 rfl ?_
    refine get_MO_taped (pc := 162) dX10_next_162 Fl_X10_159 hL ?_
    refine ev_icmp_geN (pc := 165) (tgt := 243) (by omega) (by omega) dX10_next_165 (by decide) (fun cq165 => absurd cq165 (by omega)) (fun cq165 => ?_)
    refine ev_aload_n (pc := 168) dX10_next_168 rfl ?_
    refine get_MO_tape (pc := 169) dX10_next_169 Fl_X10_62 ?_
    refine ev_aload_n (pc := 172) dX10_next_172 rfl ?_
    refine get_MO_to (pc := 173) dX10_next_173 Fl_X10_166 (show _ = nI j from rfl) ?_
    refine ldN_MO_tape (pc := 176) dX10_next_176 (by omega) rfl ?_
    refine callS1I (pc := 177) dX10_next_177 Ml_X10_176 M_X10_isSmall rfl rfl c_X10_isSmall ?_
    refine ev_if_eqB (pc := 180) (tgt := 243) dX10_next_180 (by decide) (fun cq180 => ?_) (fun cq180 => ?_)
    · have cq180 : ¬ kdB (S.2.1 40 j) = 1 := of_decide_eq_false cq180
      rw [if_neg cq180, if_neg cq180] at k
      exact k
    · have cq180 : kdB (S.2.1 40 j) = 1 := of_decide_eq_true cq180
      rw [if_pos cq180, if_pos cq180] at k
      refine ev_aload_n (pc := 183) dX10_next_183 rfl ?_
      refine ev_aload_n (pc := 184) dX10_next_184 rfl ?_
      refine get_MO_to (pc := 185) dX10_next_185 Fl_X10_166 (show _ = nI j from rfl) ?_
      refine ev_aload_n (pc := 188) dX10_next_188 rfl ?_
      refine get_MO_from (pc := 189) dX10_next_189 Fl_X10_169 hf ?_
      refine ev_isub (pc := 192) dX10_next_192 ?_
      refine ev_bipush (pc := 193) (v := nI 6) dX10_next_193 (by decide) ?_
      rw [pk_sub hs]
      refine ev_icmp_geN (pc := 195) (tgt := 224) (by omega) (by omega) dX10_next_195 (by decide) (fun cq195 => ?_) (fun cq195 => ?_)
      · rw [if_pos cq195] at k
        refine ev_ldc2 (pc := 224) dX10_next_224 Cn_X10_189 ?_
        refine put_MO_worth (pc := 227) dX10_next_227 Fp_X10_172 ?_
        refine ev_aload_n (pc := 230) dX10_next_230 rfl ?_
        refine ev_dup (pc := 231) dX10_next_231 rfl ?_
        refine get_MO_to (pc := 232) dX10_next_232 Fl_X10_166 (show _ = nI j from rfl) ?_
        refine ev_iconst (pc := 235) (v := 1) dX10_next_235 (by decide) ?_
        refine ev_iadd (pc := 236) dX10_next_236 ?_
        rw [nI_1]
        refine put_MO_to (pc := 237) dX10_next_237 Fp_X10_166 ?_
        refine ev_goto (pc := 240) (tgt := 149) dX10_next_240 (by decide) ?_
        rw [nfs]
        exact ih (j + 1) _ (by omega) (by omega) k
      · rw [if_neg cq195] at k
        refine ev_aload_n (pc := 198) dX10_next_198 rfl ?_
        refine get_MO_worth (pc := 199) dX10_next_199 Fl_X10_172 (show _ = w from rfl) ?_
        refine ev_ldc2 (pc := 202) dX10_next_202 Cn_X10_185 ?_
        refine ev_lmul (pc := 205) dX10_next_205 ?_
        refine ev_aload_n (pc := 206) dX10_next_206 rfl ?_
        refine get_MO_tape (pc := 207) dX10_next_207 Fl_X10_62 ?_
        refine ev_aload_n (pc := 210) dX10_next_210 rfl ?_
        refine get_MO_to (pc := 211) dX10_next_211 Fl_X10_166 (show _ = nI j from rfl) ?_
        refine ldN_MO_tape (pc := 214) dX10_next_214 (by omega) rfl ?_
        refine ev_i2l (pc := 215) dX10_next_215 ?_
        refine ev_ladd (pc := 216) dX10_next_216 ?_
        refine ev_ldc2 (pc := 217) dX10_next_217 Cn_X10_187 ?_
        refine ev_lsub (pc := 220) dX10_next_220 ?_
        refine ev_goto (pc := 221) (tgt := 227) dX10_next_221 (by decide) ?_
        refine put_MO_worth (pc := 227) dX10_next_227 Fp_X10_172 ?_
        refine ev_aload_n (pc := 230) dX10_next_230 rfl ?_
        refine ev_dup (pc := 231) dX10_next_231 rfl ?_
        refine get_MO_to (pc := 232) dX10_next_232 Fl_X10_166 (show _ = nI j from rfl) ?_
        refine ev_iconst (pc := 235) (v := 1) dX10_next_235 (by decide) ?_
        refine ev_iadd (pc := 236) dX10_next_236 ?_
        rw [nI_1]
        refine put_MO_to (pc := 237) dX10_next_237 Fp_X10_166 ?_
        refine ev_goto (pc := 240) (tgt := 149) dX10_next_240 (by decide) ?_
        rw [nfs]
        exact ih (j + 1) _ (by omega) (by omega) k
theorem md_loop {len : Nat} (hL : S.1 29 = nI len) (hl : len ≤ 200) (hk : S.1 32 = 2) (Post : Option Value → List va_E → Prop) : ∀ (r j : Nat) (w : Int64), j + r = len → Ev g mX10_next 335 [(0, .ref 43)] [] (hC (nfM S (ruF (S.2.1 40) 2 r j) (diF (S.2.1 40) r j w))) Post → Ev g mX10_next 243 [(0, .ref 43)] [] (hC (nfM S j w)) Post := by
  intro r
  induction r with
  | zero =>
    intro j w hj k
    refine ev_aload_n (pc := 243) dX10_next_243 rfl ?_
    refine get_MO_sort (pc := 244) dX10_next_244 Fl_X10_182 (show _ = 2 from hk) ?_
    refine ev_iconst (pc := 247) (v := 2) dX10_next_247 (by decide) ?_
    refine ev_icmp_ne (pc := 248) (tgt := 335) dX10_next_248 (by decide) (fun cq248 => absurd rfl cq248) (fun cq248 => ?_)
    refine ev_aload_n (pc := 251) dX10_next_251 rfl ?_
    refine get_MO_to (pc := 252) dX10_next_252 Fl_X10_166 (show _ = nI j from rfl) ?_
    refine ev_aload_n (pc := 255) dX10_next_255 rfl ?_
    refine get_MO_taped (pc := 256) dX10_next_256 Fl_X10_159 hL ?_
    refine ev_icmp_geN (pc := 259) (tgt := 335) (by omega) (by omega) dX10_next_259 (by decide) (fun cq259 => ?_) (fun cq259 => absurd (show len ≤ j by omega) cq259)
    exact k
  | succ r ih =>
    intro j w hj k
    rw [ruF, diF] at k
    have nfs : ∀ (w' : Int64), setI (setL (nfM S j w) 3 w') 31 (nI (j + 1)) = nfM S (j + 1) w' := fun w' => nf_step _ _ _ _ _ _ _
    refine ev_aload_n (pc := 243) dX10_next_243 rfl ?_
    refine get_MO_sort (pc := 244) dX10_next_244 Fl_X10_182 (show _ = 2 from hk) ?_
    refine ev_iconst (pc := 247) (v := 2) dX10_next_247 (by decide) ?_
    refine ev_icmp_ne (pc := 248) (tgt := 335) dX10_next_248 (by decide) (fun cq248 => absurd rfl cq248) (fun cq248 => ?_)
    refine ev_aload_n (pc := 251) dX10_next_251 rfl ?_
    refine get_MO_to (pc := 252) dX10_next_252 Fl_X10_166 (show _ = nI j from rfl) ?_
    refine ev_aload_n (pc := 255) dX10_next_255 rfl ?_
    refine get_MO_taped (pc := 256) dX10_next_256 Fl_X10_159 hL ?_
    refine ev_icmp_geN (pc := 259) (tgt := 335) (by omega) (by omega) dX10_next_259 (by decide) (fun cq259 => absurd cq259 (by omega)) (fun cq259 => ?_)
    refine ev_aload_n (pc := 262) dX10_next_262 rfl ?_
    refine get_MO_tape (pc := 263) dX10_next_263 Fl_X10_62 ?_
    refine ev_aload_n (pc := 266) dX10_next_266 rfl ?_
    refine get_MO_to (pc := 267) dX10_next_267 Fl_X10_166 (show _ = nI j from rfl) ?_
    refine ldN_MO_tape (pc := 270) dX10_next_270 (by omega) rfl ?_
    refine callS1I (pc := 271) dX10_next_271 Ml_X10_179 M_X10_isDigit rfl rfl c_X10_isDigit ?_
    refine ev_if_eqB (pc := 274) (tgt := 335) dX10_next_274 (by decide) (fun cq274 => ?_) (fun cq274 => ?_)
    · have cq274 : ¬ kdB (S.2.1 40 j) = 2 := of_decide_eq_false cq274
      rw [if_neg cq274, if_neg cq274] at k
      exact k
    · have cq274 : kdB (S.2.1 40 j) = 2 := of_decide_eq_true cq274
      rw [if_pos cq274, if_pos cq274] at k
      refine ev_aload_n (pc := 277) dX10_next_277 rfl ?_
      refine ev_aload_n (pc := 278) dX10_next_278 rfl ?_
      refine get_MO_worth (pc := 279) dX10_next_279 Fl_X10_172 (show _ = w from rfl) ?_
      refine ev_ldc2 (pc := 282) dX10_next_282 Cn_X10_191 ?_
      refine ev_lcmp_le (pc := 285) (tgt := 296) dX10_next_285 dX10_next_286 (by decide) (fun cq285 => ?_) (fun cq285 => ?_)
      · rw [if_pos cq285] at k
        refine ev_aload_n (pc := 296) dX10_next_296 rfl ?_
        refine get_MO_worth (pc := 297) dX10_next_297 Fl_X10_172 (show _ = w from rfl) ?_
        refine ev_ldc2 (pc := 300) dX10_next_300 Cn_X10_193 ?_
        refine ev_lmul (pc := 303) dX10_next_303 ?_
        refine ev_aload_n (pc := 304) dX10_next_304 rfl ?_
        refine get_MO_tape (pc := 305) dX10_next_305 Fl_X10_62 ?_
        refine ev_aload_n (pc := 308) dX10_next_308 rfl ?_
        refine get_MO_to (pc := 309) dX10_next_309 Fl_X10_166 (show _ = nI j from rfl) ?_
        refine ldN_MO_tape (pc := 312) dX10_next_312 (by omega) rfl ?_
        refine ev_i2l (pc := 313) dX10_next_313 ?_
        refine ev_ladd (pc := 314) dX10_next_314 ?_
        refine ev_ldc2 (pc := 315) dX10_next_315 Cn_X10_195 ?_
        refine ev_lsub (pc := 318) dX10_next_318 ?_
        refine put_MO_worth (pc := 319) dX10_next_319 Fp_X10_172 ?_
        refine ev_aload_n (pc := 322) dX10_next_322 rfl ?_
        refine ev_dup (pc := 323) dX10_next_323 rfl ?_
        refine get_MO_to (pc := 324) dX10_next_324 Fl_X10_166 (show _ = nI j from rfl) ?_
        refine ev_iconst (pc := 327) (v := 1) dX10_next_327 (by decide) ?_
        refine ev_iadd (pc := 328) dX10_next_328 ?_
        rw [nI_1]
        refine put_MO_to (pc := 329) dX10_next_329 Fp_X10_166 ?_
        refine ev_goto (pc := 332) (tgt := 243) dX10_next_332 (by decide) ?_
        rw [nfs]
        exact ih (j + 1) _ (by omega) k
      · rw [if_neg cq285] at k
        refine ev_aload_n (pc := 289) dX10_next_289 rfl ?_
        refine get_MO_worth (pc := 290) dX10_next_290 Fl_X10_172 (show _ = w from rfl) ?_
        refine ev_goto (pc := 293) (tgt := 319) dX10_next_293 (by decide) ?_
        refine put_MO_worth (pc := 319) dX10_next_319 Fp_X10_172 ?_
        refine ev_aload_n (pc := 322) dX10_next_322 rfl ?_
        refine ev_dup (pc := 323) dX10_next_323 rfl ?_
        refine get_MO_to (pc := 324) dX10_next_324 Fl_X10_166 (show _ = nI j from rfl) ?_
        refine ev_iconst (pc := 327) (v := 1) dX10_next_327 (by decide) ?_
        refine ev_iadd (pc := 328) dX10_next_328 ?_
        rw [nI_1]
        refine put_MO_to (pc := 329) dX10_next_329 Fp_X10_166 ?_
        refine ev_goto (pc := 332) (tgt := 243) dX10_next_332 (by decide) ?_
        rw [nfs]
        exact ih (j + 1) _ (by omega) k
def wtF (by' : Nat → Int32) (len st : Nat) (kd : Int32) : Int64 := if kd = 3 then (by' st).toInt64 else if kd = 1 then woF by' st (len - st) st 0 else if kd = 2 then diF by' (len - st) st 0 else 0
def nextQ (len p : Nat) (S : St) : St :=
  let st := skF (S.2.1 40) (len - p) p
  let kd := kindF (S.2.1 40) len st
  nfM (setI (setI S 30 (nI st)) 32 kd) (bhF (S.2.1 40) len st kd) (wtF (S.2.1 40) len st kd)
theorem mn_skip {len : Nat} (hL : S.1 29 = nI len) (hl : len ≤ 200) (Post : Option Value → List va_E → Prop) : ∀ (r j : Nat), j + r = len → Ev g mX10_next 46 [(0, .ref 43)] [] (hC (setI S 30 (nI (skF (S.2.1 40) r j)))) Post → Ev g mX10_next 8 [(0, .ref 43)] [] (hC (setI S 30 (nI j))) Post := by
  intro r
  induction r with
  | zero =>
    intro j hj k
    refine ev_aload_n (pc := 8) dX10_next_8 rfl ?_
    refine get_MO_from (pc := 9) dX10_next_9 Fl_X10_169 (show _ = nI j from rfl) ?_
    refine ev_aload_n (pc := 12) dX10_next_12 rfl ?_
    refine get_MO_taped (pc := 13) dX10_next_13 Fl_X10_159 hL ?_
    refine ev_icmp_geN (pc := 16) (tgt := 46) (by omega) (by omega) dX10_next_16 (by decide) (fun cq16 => ?_) (fun cq16 => absurd (show len ≤ j by omega) cq16)
    exact k
  | succ r ih =>
    intro j hj k
    rw [skF] at k
    refine ev_aload_n (pc := 8) dX10_next_8 rfl ?_
    refine get_MO_from (pc := 9) dX10_next_9 Fl_X10_169 (show _ = nI j from rfl) ?_
    refine ev_aload_n (pc := 12) dX10_next_12 rfl ?_
    refine get_MO_taped (pc := 13) dX10_next_13 Fl_X10_159 hL ?_
    refine ev_icmp_geN (pc := 16) (tgt := 46) (by omega) (by omega) dX10_next_16 (by decide) (fun cq16 => absurd cq16 (by omega)) (fun cq16 => ?_)
    refine ev_aload_n (pc := 19) dX10_next_19 rfl ?_
    refine get_MO_tape (pc := 20) dX10_next_20 Fl_X10_62 ?_
    refine ev_aload_n (pc := 23) dX10_next_23 rfl ?_
    refine get_MO_from (pc := 24) dX10_next_24 Fl_X10_169 (show _ = nI j from rfl) ?_
    refine ldN_MO_tape (pc := 27) dX10_next_27 (by omega) rfl ?_
    refine ev_bipush (pc := 28) (v := 32) dX10_next_28 (by decide) ?_
    refine ev_icmp_ne (pc := 30) (tgt := 46) dX10_next_30 (by decide) (fun cq30 => ?_) (fun cq30 => ?_)
    · have cq30 : ¬ S.2.1 40 j = 32 := cq30
      rw [if_neg cq30] at k
      exact k
    · have cq30 : S.2.1 40 j = 32 := cq30
      rw [if_pos cq30] at k
      refine ev_aload_n (pc := 33) dX10_next_33 rfl ?_
      refine ev_dup (pc := 34) dX10_next_34 rfl ?_
      refine get_MO_from (pc := 35) dX10_next_35 Fl_X10_169 (show _ = nI j from rfl) ?_
      refine ev_iconst (pc := 38) (v := 1) dX10_next_38 (by decide) ?_
      refine ev_iadd (pc := 39) dX10_next_39 ?_
      rw [nI_1]
      refine put_MO_from (pc := 40) dX10_next_40 Fp_X10_169 ?_
      refine ev_goto (pc := 43) (tgt := 8) dX10_next_43 (by decide) ?_
      rw [setI_set]
      exact ih (j + 1) (by omega) k
theorem kd_cases (c : Int32) : kdB c = 1 ∨ kdB c = 2 ∨ kdB c = 3 := by
  unfold kdB dgK
  split
  · split
    · simp
    · split <;> simp
  · split
    · split
      · simp
      · split <;> simp
    · simp
theorem c_X10_nextQ {len p : Nat} (hL : S.1 29 = nI len) (hl : len ≤ 200) (hb : S.1 31 = nI p) (hp : p ≤ len) : Ct g mX10_next [.ref 43] (hC S) (RV (nextQ len p S)) := by
  have hsk := skF_le (S.2.1 40) (len - p) p
  have fin : ∀ (X : St), Ev g mX10_next 335 [(0, .ref 43)] [] (hC X) (RV X) := by
    intro X
    exact ev_ret (pc := 335) dX10_next_335 rfl rv
  unfold nextQ
  generalize hst : skF (S.2.1 40) (len - p) p = st at *
  have mid : ∀ (X : St) (kd : Int32), X.2.1 = S.2.1 → X.1 29 = nI len → X.1 30 = nI st → X.1 32 = kd → (kd = 3 → st < len) → Ev g mX10_next 117 [(0, .ref 43)] [] (hC (nfM X st 0)) (RV (nfM X (bhF (S.2.1 40) len st kd) (wtF (S.2.1 40) len st kd))) := by
    intro X kd hX hL hf hk hk3
    rw [← hX]
    unfold bhF wtF
    have nfs : ∀ (w' : Int64), setI (setL (nfM X st 0) 3 w') 31 (nI (st + 1)) = nfM X (st + 1) w' := fun w' => nf_step _ _ _ _ _ _ _
    by_cases h3 : kd = 3
    · subst h3
      have h3 := hk3 rfl
      rw [if_pos rfl, if_pos rfl]
      refine ev_aload_n (pc := 117) dX10_next_117 rfl ?_
      refine get_MO_sort (pc := 118) dX10_next_118 Fl_X10_182 (show _ = (3 : Int32) from hk) ?_
      refine ev_iconst (pc := 121) (v := 3) dX10_next_121 (by decide) ?_
      refine ev_icmp_ne (pc := 122) (tgt := 149) dX10_next_122 (by decide) (fun cq122 => absurd rfl cq122) (fun cq122 => ?_)
      refine ev_aload_n (pc := 125) dX10_next_125 rfl ?_
      refine ev_aload_n (pc := 126) dX10_next_126 rfl ?_
      refine get_MO_tape (pc := 127) dX10_next_127 Fl_X10_62 ?_
      refine ev_aload_n (pc := 130) dX10_next_130 rfl ?_
      refine get_MO_from (pc := 131) dX10_next_131 Fl_X10_169 hf ?_
      refine ldN_MO_tape (pc := 134) dX10_next_134 (by omega) rfl ?_
      refine ev_i2l (pc := 135) dX10_next_135 ?_
      refine put_MO_worth (pc := 136) dX10_next_136 Fp_X10_172 ?_
      refine ev_aload_n (pc := 139) dX10_next_139 rfl ?_
      refine ev_dup (pc := 140) dX10_next_140 rfl ?_
      refine get_MO_to (pc := 141) dX10_next_141 Fl_X10_166 (show _ = nI st from rfl) ?_
      refine ev_iconst (pc := 144) (v := 1) dX10_next_144 (by decide) ?_
      refine ev_iadd (pc := 145) dX10_next_145 ?_
      rw [nI_1]
      refine put_MO_to (pc := 146) dX10_next_146 Fp_X10_166 ?_
      rw [nfs]
      refine ev_aload_n (pc := 149) dX10_next_149 rfl ?_
      refine get_MO_sort (pc := 150) dX10_next_150 Fl_X10_182 (show _ = (3 : Int32) from hk) ?_
      refine ev_iconst (pc := 153) (v := 1) dX10_next_153 (by decide) ?_
      refine ev_icmp_ne (pc := 154) (tgt := 243) dX10_next_154 (by decide) (fun cq154 => ?_) (fun cq154 => absurd cq154 (by decide))
      refine ev_aload_n (pc := 243) dX10_next_243 rfl ?_
      refine get_MO_sort (pc := 244) dX10_next_244 Fl_X10_182 (show _ = (3 : Int32) from hk) ?_
      refine ev_iconst (pc := 247) (v := 2) dX10_next_247 (by decide) ?_
      refine ev_icmp_ne (pc := 248) (tgt := 335) dX10_next_248 (by decide) (fun cq248 => ?_) (fun cq248 => absurd cq248 (by decide))
      exact fin _
    · rw [if_neg h3, if_neg h3]
      by_cases h1 : kd = 1
      · subst h1
        rw [if_pos rfl, if_pos rfl]
        refine ev_aload_n (pc := 117) dX10_next_117 rfl ?_
        refine get_MO_sort (pc := 118) dX10_next_118 Fl_X10_182 (show _ = (1 : Int32) from hk) ?_
        refine ev_iconst (pc := 121) (v := 3) dX10_next_121 (by decide) ?_
        refine ev_icmp_ne (pc := 122) (tgt := 149) dX10_next_122 (by decide) (fun cq122 => ?_) (fun cq122 => absurd cq122 (by decide))
        refine mw_loop hL hl hf hk _ (len - st) st 0 (by omega) (by omega) ?_
        refine ev_aload_n (pc := 243) dX10_next_243 rfl ?_
        refine get_MO_sort (pc := 244) dX10_next_244 Fl_X10_182 (show _ = (1 : Int32) from hk) ?_
        refine ev_iconst (pc := 247) (v := 2) dX10_next_247 (by decide) ?_
        refine ev_icmp_ne (pc := 248) (tgt := 335) dX10_next_248 (by decide) (fun cq248 => ?_) (fun cq248 => absurd cq248 (by decide))
        exact fin _
      · rw [if_neg h1, if_neg h1]
        by_cases h2 : kd = 2
        · subst h2
          rw [if_pos rfl, if_pos rfl]
          refine ev_aload_n (pc := 117) dX10_next_117 rfl ?_
          refine get_MO_sort (pc := 118) dX10_next_118 Fl_X10_182 (show _ = (2 : Int32) from hk) ?_
          refine ev_iconst (pc := 121) (v := 3) dX10_next_121 (by decide) ?_
          refine ev_icmp_ne (pc := 122) (tgt := 149) dX10_next_122 (by decide) (fun cq122 => ?_) (fun cq122 => absurd cq122 (by decide))
          refine ev_aload_n (pc := 149) dX10_next_149 rfl ?_
          refine get_MO_sort (pc := 150) dX10_next_150 Fl_X10_182 (show _ = (2 : Int32) from hk) ?_
          refine ev_iconst (pc := 153) (v := 1) dX10_next_153 (by decide) ?_
          refine ev_icmp_ne (pc := 154) (tgt := 243) dX10_next_154 (by decide) (fun cq154 => ?_) (fun cq154 => absurd cq154 (by decide))
          exact md_loop hL hl hk _ (len - st) st 0 (by omega) (fin _)
        · rw [if_neg h2, if_neg h2]
          refine ev_aload_n (pc := 117) dX10_next_117 rfl ?_
          refine get_MO_sort (pc := 118) dX10_next_118 Fl_X10_182 (show _ = kd from hk) ?_
          refine ev_iconst (pc := 121) (v := 3) dX10_next_121 (by decide) ?_
          refine ev_icmp_ne (pc := 122) (tgt := 149) dX10_next_122 (by decide) (fun cq122 => ?_) (fun cq122 => absurd cq122 h3)
          refine ev_aload_n (pc := 149) dX10_next_149 rfl ?_
          refine get_MO_sort (pc := 150) dX10_next_150 Fl_X10_182 (show _ = kd from hk) ?_
          refine ev_iconst (pc := 153) (v := 1) dX10_next_153 (by decide) ?_
          refine ev_icmp_ne (pc := 154) (tgt := 243) dX10_next_154 (by decide) (fun cq154 => ?_) (fun cq154 => absurd cq154 h1)
          refine ev_aload_n (pc := 243) dX10_next_243 rfl ?_
          refine get_MO_sort (pc := 244) dX10_next_244 Fl_X10_182 (show _ = kd from hk) ?_
          refine ev_iconst (pc := 247) (v := 2) dX10_next_247 (by decide) ?_
          refine ev_icmp_ne (pc := 248) (tgt := 335) dX10_next_248 (by decide) (fun cq248 => ?_) (fun cq248 => absurd cq248 h2)
          exact fin _
  refine ct_of rfl rfl ?_
  refine ev_aload_n (pc := 0) dX10_next_0 rfl ?_
  refine ev_aload_n (pc := 1) dX10_next_1 rfl ?_
  refine get_MO_to (pc := 2) dX10_next_2 Fl_X10_166 hb ?_
  refine put_MO_from (pc := 5) dX10_next_5 Fp_X10_169 ?_
  refine mn_skip hL hl _ (len - p) p (by omega) ?_
  rw [hst]
  have ch : ∀ kd : Int32, setI (setL (setI (setI S 30 (nI st)) 31 (nI st)) 3 0) 32 kd = nfM (setI (setI S 30 (nI st)) 32 kd) st 0 := by
    intro kd
    show setL (setI (setI (setI S 30 (nI st)) 31 (nI st)) 32 kd) 3 0 = _
    rw [setI_comm _ (by decide)]
    rfl
  have go : ∀ (kd kd' : Int32), kd = kd' → (kd = 3 → st < len) → Ev g mX10_next 114 [(0, .ref 43)] [.int kd, .ref 43] (hC (setL (setI (setI S 30 (nI st)) 31 (nI st)) 3 0)) (RV (nfM (setI (setI S 30 (nI st)) 32 kd') (bhF (S.2.1 40) len st kd') (wtF (S.2.1 40) len st kd'))) := by
    intro kd kd' he hk3
    subst he
    refine put_MO_sort (pc := 114) dX10_next_114 Fp_X10_182 ?_
    rw [ch]
    exact mid _ _ rfl hL rfl rfl hk3
  refine ev_aload_n (pc := 46) dX10_next_46 rfl ?_
  refine ev_aload_n (pc := 47) dX10_next_47 rfl ?_
  refine get_MO_from (pc := 48) dX10_next_48 Fl_X10_169 (show _ = nI st from rfl) ?_
  refine put_MO_to (pc := 51) dX10_next_51 Fp_X10_166 ?_
  refine ev_aload_n (pc := 54) dX10_next_54 rfl ?_
  refine ev_lconst (pc := 55) (v := 0) dX10_next_55 (by decide) ?_
  refine put_MO_worth (pc := 56) dX10_next_56 Fp_X10_172 ?_
  refine ev_aload_n (pc := 59) dX10_next_59 rfl ?_
  refine ev_aload_n (pc := 60) dX10_next_60 rfl ?_
  refine get_MO_from (pc := 61) dX10_next_61 Fl_X10_169 (show _ = nI st from rfl) ?_
  refine ev_aload_n (pc := 64) dX10_next_64 rfl ?_
  refine get_MO_taped (pc := 65) dX10_next_65 Fl_X10_159 hL ?_
  refine ev_icmp_neN (pc := 68) (tgt := 75) (by omega) (by omega) dX10_next_68 (by decide) (fun cq68 => ?_) (fun cq68 => ?_)
  · refine ev_aload_n (pc := 75) dX10_next_75 rfl ?_
    refine get_MO_tape (pc := 76) dX10_next_76 Fl_X10_62 ?_
    refine ev_aload_n (pc := 79) dX10_next_79 rfl ?_
    refine get_MO_from (pc := 80) dX10_next_80 Fl_X10_169 (show _ = nI st from rfl) ?_
    refine ldN_MO_tape (pc := 83) dX10_next_83 (by omega) rfl ?_
    refine callS1I (pc := 84) dX10_next_84 Ml_X10_176 M_X10_isSmall rfl rfl c_X10_isSmall ?_
    refine ev_if_eqB (pc := 87) (tgt := 94) dX10_next_87 (by decide) (fun cq87 => ?_) (fun cq87 => ?_)
    · refine ev_aload_n (pc := 94) dX10_next_94 rfl ?_
      refine get_MO_tape (pc := 95) dX10_next_95 Fl_X10_62 ?_
      refine ev_aload_n (pc := 98) dX10_next_98 rfl ?_
      refine get_MO_from (pc := 99) dX10_next_99 Fl_X10_169 (show _ = nI st from rfl) ?_
      refine ldN_MO_tape (pc := 102) dX10_next_102 (by omega) rfl ?_
      refine callS1I (pc := 103) dX10_next_103 Ml_X10_179 M_X10_isDigit rfl rfl c_X10_isDigit ?_
      refine ev_if_eqB (pc := 106) (tgt := 113) dX10_next_106 (by decide) (fun cq106 => ?_) (fun cq106 => ?_)
      · refine ev_iconst (pc := 113) (v := 3) dX10_next_113 (by decide) ?_
        first | exact go 0 _ (by unfold kindF; rw [if_neg (by omega)]) (fun h => absurd h (by decide)) | exact go 1 _ (by unfold kindF; rw [if_pos (by omega)]; exact (of_decide_eq_true cq87).symm) (fun h => absurd h (by decide)) | exact go 2 _ (by unfold kindF; rw [if_pos (by omega)]; exact (of_decide_eq_true cq106).symm) (fun h => absurd h (by decide)) | exact go 3 _ (by unfold kindF; rw [if_pos (by omega)]; rcases kd_cases (S.2.1 40 st) with h | h | h; exact absurd h (of_decide_eq_false cq87); exact absurd h (of_decide_eq_false cq106); exact h.symm) (fun _ => by omega)
      · refine ev_iconst (pc := 109) (v := 2) dX10_next_109 (by decide) ?_
        refine ev_goto (pc := 110) (tgt := 114) dX10_next_110 (by decide) ?_
        first | exact go 0 _ (by unfold kindF; rw [if_neg (by omega)]) (fun h => absurd h (by decide)) | exact go 1 _ (by unfold kindF; rw [if_pos (by omega)]; exact (of_decide_eq_true cq87).symm) (fun h => absurd h (by decide)) | exact go 2 _ (by unfold kindF; rw [if_pos (by omega)]; exact (of_decide_eq_true cq106).symm) (fun h => absurd h (by decide)) | exact go 3 _ (by unfold kindF; rw [if_pos (by omega)]; rcases kd_cases (S.2.1 40 st) with h | h | h; exact absurd h (of_decide_eq_false cq87); exact absurd h (of_decide_eq_false cq106); exact h.symm) (fun _ => by omega)
    · refine ev_iconst (pc := 90) (v := 1) dX10_next_90 (by decide) ?_
      refine ev_goto (pc := 91) (tgt := 114) dX10_next_91 (by decide) ?_
      first | exact go 0 _ (by unfold kindF; rw [if_neg (by omega)]) (fun h => absurd h (by decide)) | exact go 1 _ (by unfold kindF; rw [if_pos (by omega)]; exact (of_decide_eq_true cq87).symm) (fun h => absurd h (by decide)) | exact go 2 _ (by unfold kindF; rw [if_pos (by omega)]; exact (of_decide_eq_true cq106).symm) (fun h => absurd h (by decide)) | exact go 3 _ (by unfold kindF; rw [if_pos (by omega)]; rcases kd_cases (S.2.1 40 st) with h | h | h; exact absurd h (of_decide_eq_false cq87); exact absurd h (of_decide_eq_false cq106); exact h.symm) (fun _ => by omega)
  · refine ev_iconst (pc := 71) (v := 0) dX10_next_71 (by decide) ?_
    refine ev_goto (pc := 72) (tgt := 114) dX10_next_72 (by decide) ?_
    first | exact go 0 _ (by unfold kindF; rw [if_neg (by omega)]) (fun h => absurd h (by decide)) | exact go 1 _ (by unfold kindF; rw [if_pos (by omega)]; exact (of_decide_eq_true cq87).symm) (fun h => absurd h (by decide)) | exact go 2 _ (by unfold kindF; rw [if_pos (by omega)]; exact (of_decide_eq_true cq106).symm) (fun h => absurd h (by decide)) | exact go 3 _ (by unfold kindF; rw [if_pos (by omega)]; rcases kd_cases (S.2.1 40 st) with h | h | h; exact absurd h (of_decide_eq_false cq87); exact absurd h (of_decide_eq_false cq106); exact h.symm) (fun _ => by omega)
end MO2
